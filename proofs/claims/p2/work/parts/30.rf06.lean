set_option maxRecDepth 100000 in
set_option maxHeartbeats 4000000 in
/-- SilentTableModel.becomes -/
theorem rf_c288 {d : Nat} {m : Nat → Int32} {w : Int64} {h : pm_H} {Q : Option Value → pm_H → Prop} {a0 : Int32} {a1 : Int32} {a2 : Int32} (T : rf_T m w h)  (K : ∀ (r : Int32) (m' : Nat → Int32) (w' : Int64) (h' : pm_H), rf_T m' w' h' → rf_G [41, 53] h h' → rf_W [0, 23, 24, 26] m m' → sf_B (-1) 9 r → Q (some (.int r)) h') : pm_R (d + 3) 288 0 [.ref 41, .int a0, .int a1, .int a2, pm_no, pm_no, pm_no] [] h Q := by
  refine pm_R_lo pm_M288 (pc' := 1) rfl rfl rfl ?_
  refine pm_R_op pm_M288 (pc' := 2) (st' := [.int 0, .ref 41]) rfl rfl rfl ?_
  refine rf_R_put pm_M288 T (pc' := 5) rfl rfl rfl (by decide) rfl rfl sf_k0 rfl rfl (fun h1 m4 em5 T2 F3 => ?_)
  have F6 := (rf_G.refl [41, 53] h).trans F3 (by decide)
  have B7 : sf_B 0 0 (m4 0) := by rw [em5]; exact sf_k0
  have W9 : rf_W [0, 23, 24, 26] m m4 := by rw [em5]; exact (rf_W.refl [0, 23, 24, 26] m).put (by decide)
  refine pm_R_lo pm_M288 (pc' := 6) rfl rfl rfl ?_
  refine pm_R_op pm_M288 (pc' := 7) (st' := [.int 1, .ref 41]) rfl rfl rfl ?_
  refine pm_R_lo pm_M288 (pc' := 8) rfl rfl rfl ?_
  refine pm_R_cv pm_M288 (pc' := 11) (a := 41) (ra := [.int a2, .int 1]) (rest := []) (ls' := [.ref 41, .int 1, .int a2]) rfl rfl (Or.inl rfl) pm_M177 T2.2.1 rfl (by decide) (Nat.lt_of_lt_of_le (by decide) T2.1) rfl rfl (Nat.le_of_ble_eq_true rfl) rfl rfl ?_
  refine pm_R_lo pm_M177 (pc' := 1) rfl rfl rfl ?_
  refine pm_R_op pm_M177 (pc' := 2) (st' := [.int 0, .int a2]) rfl rfl rfl ?_
  refine pm_R_lo pm_M177 (pc' := 3) rfl rfl rfl ?_
  refine rf_R_get pm_M177 T2 (pc' := 6) (v := .ref 46) rfl rfl rfl rfl ?_
  refine pm_R_lo pm_M177 (pc' := 7) rfl rfl rfl ?_
  obtain ⟨f10, e11, b12⟩ := T2.2.2.2.1 46 (by decide) (by decide)
  refine rf_R_ild pm_M177 T2 (pc' := 8) rfl e11 (by decide) rfl rfl (fun z13 ez14 => ?_)
  have B15 : sf_B 0 3 z13 := ez14 ▸ (b12 1)
  refine pm_R_op pm_M177 (pc' := 9) (st' := [.int 1, .int z13, .int 0, .int a2]) rfl rfl rfl ?_
  refine sf_R_isub pm_M177 (pc' := 10) rfl rfl B15 sf_k1 (by decide) (by decide) (fun z16 e17 B18 => ?_)
  refine pm_R_cs pm_M177 (pc' := 13) (ra := [.int z16, .int 0, .int a2]) (rest := []) (ls' := [.int a2, .int 0, .int z16]) rfl rfl (Or.inl rfl) pm_M174 rfl rfl (Nat.le_of_ble_eq_true rfl) rfl rfl ?_
  refine pm_R_lo pm_M174 (pc' := 1) rfl rfl rfl ?_
  refine pm_R_lo pm_M174 (pc' := 2) rfl rfl rfl ?_
  refine pm_R_icmp pm_M174 (t := 14) (pc' := 5) rfl rfl rfl (fun c19 => ?_) (fun c19 => ?_)
  · have B20 : sf_B (-2147483648) (-1) a2 := sf_ltL c19 (sf_any a2) sf_k0
    refine pm_R_op pm_M174 (pc' := 15) (st' := [.int 0]) rfl rfl rfl ?_
    refine pm_R_ret pm_M174 (r := some (.int 0)) rfl rfl ?_
    show pm_R _ 177 13 [.ref 41, .int 1, .int a2] [.int 0] _ _
    refine pm_R_ret pm_M177 (r := some (.int 0)) rfl rfl ?_
    show pm_R _ 288 11 [.ref 41, .int a0, .int a1, .int a2, pm_no, pm_no, pm_no] [.int 0] _ _
    refine pm_R_br pm_M288 (pc' := 39) (st' := []) rfl rfl ?_
    refine pm_R_op pm_M288 (pc' := 40) (st' := [.int (-1)]) rfl rfl rfl ?_
    exact pm_R_ret pm_M288 (r := some (.int (-1))) rfl rfl (K (-1) m4 w h1 T2 F6 W9 (sf_weak sf_kn1 (by decide) (by decide)))
  · have B21 : sf_B 0 2147483647 a2 := sf_leR (Int32.not_lt.mp c19) sf_k0 (sf_any a2)
    refine pm_R_lo pm_M174 (pc' := 6) rfl rfl rfl ?_
    refine pm_R_lo pm_M174 (pc' := 7) rfl rfl rfl ?_
    refine pm_R_icmp pm_M174 (t := 14) (pc' := 10) rfl rfl rfl (fun c22 => ?_) (fun c22 => ?_)
    · skip
      refine pm_R_op pm_M174 (pc' := 15) (st' := [.int 0]) rfl rfl rfl ?_
      refine pm_R_ret pm_M174 (r := some (.int 0)) rfl rfl ?_
      show pm_R _ 177 13 [.ref 41, .int 1, .int a2] [.int 0] _ _
      refine pm_R_ret pm_M177 (r := some (.int 0)) rfl rfl ?_
      show pm_R _ 288 11 [.ref 41, .int a0, .int a1, .int a2, pm_no, pm_no, pm_no] [.int 0] _ _
      refine pm_R_br pm_M288 (pc' := 39) (st' := []) rfl rfl ?_
      refine pm_R_op pm_M288 (pc' := 40) (st' := [.int (-1)]) rfl rfl rfl ?_
      exact pm_R_ret pm_M288 (r := some (.int (-1))) rfl rfl (K (-1) m4 w h1 T2 F6 W9 (sf_weak sf_kn1 (by decide) (by decide)))
    · have V23 := rf_V.mk e11 ez14 e17 (Int32.not_lt.mp c22) B21 (by decide)
      have V23 := V23.back F6 (by decide)
      have B24 : sf_B 0 2 a2 := sf_leL (Int32.not_lt.mp c22) B21 B18
      have B25 : sf_B 0 2 z16 := sf_leR (Int32.not_lt.mp c22) B21 B18
      refine pm_R_op pm_M174 (pc' := 11) (st' := [.int 1]) rfl rfl rfl ?_
      refine pm_R_br pm_M174 (pc' := 15) rfl rfl ?_
      refine pm_R_ret pm_M174 (r := some (.int 1)) rfl rfl ?_
      show pm_R _ 177 13 [.ref 41, .int 1, .int a2] [.int 1] _ _
      refine pm_R_ret pm_M177 (r := some (.int 1)) rfl rfl ?_
      show pm_R _ 288 11 [.ref 41, .int a0, .int a1, .int a2, pm_no, pm_no, pm_no] [.int 1] _ _
      refine pm_R_br pm_M288 (pc' := 14) (st' := []) rfl rfl ?_
      refine pm_R_lo pm_M288 (pc' := 15) rfl rfl rfl ?_
      refine pm_R_lo pm_M288 (pc' := 16) rfl rfl rfl ?_
      refine pm_R_lo pm_M288 (pc' := 17) rfl rfl rfl ?_
      refine pm_R_cv pm_M288 (pc' := 20) (a := 41) (ra := [.int a1, .int a0]) (rest := []) (ls' := [.ref 41, .int a0, .int a1]) rfl rfl (Or.inl rfl) pm_M200 T2.2.1 rfl (by decide) (Nat.lt_of_lt_of_le (by decide) T2.1) rfl rfl (Nat.le_of_ble_eq_true rfl) rfl rfl ?_
      refine pm_R_lo pm_M200 (pc' := 1) rfl rfl rfl ?_
      refine pm_R_op pm_M200 (pc' := 2) (st' := [.int 0, .ref 41]) rfl rfl rfl ?_
      refine pm_R_lo pm_M200 (pc' := 3) rfl rfl rfl ?_
      refine pm_R_cv pm_M200 (pc' := 6) (a := 41) (ra := [.int a0, .int 0]) (rest := []) (ls' := [.ref 41, .int 0, .int a0]) rfl rfl (Or.inl rfl) pm_M177 T2.2.1 rfl (by decide) (Nat.lt_of_lt_of_le (by decide) T2.1) rfl rfl (Nat.le_of_ble_eq_true rfl) rfl rfl ?_
      refine pm_R_lo pm_M177 (pc' := 1) rfl rfl rfl ?_
      refine pm_R_op pm_M177 (pc' := 2) (st' := [.int 0, .int a0]) rfl rfl rfl ?_
      refine pm_R_lo pm_M177 (pc' := 3) rfl rfl rfl ?_
      refine rf_R_get pm_M177 T2 (pc' := 6) (v := .ref 46) rfl rfl rfl rfl ?_
      refine pm_R_lo pm_M177 (pc' := 7) rfl rfl rfl ?_
      refine rf_R_ild pm_M177 T2 (pc' := 8) rfl e11 (by decide) rfl rfl (fun z26 ez27 => ?_)
      have B28 : sf_B 0 2 z26 := ez27 ▸ (b12 0)
      refine pm_R_op pm_M177 (pc' := 9) (st' := [.int 1, .int z26, .int 0, .int a0]) rfl rfl rfl ?_
      refine sf_R_isub pm_M177 (pc' := 10) rfl rfl B28 sf_k1 (by decide) (by decide) (fun z29 e30 B31 => ?_)
      refine pm_R_cs pm_M177 (pc' := 13) (ra := [.int z29, .int 0, .int a0]) (rest := []) (ls' := [.int a0, .int 0, .int z29]) rfl rfl (Or.inl rfl) pm_M174 rfl rfl (Nat.le_of_ble_eq_true rfl) rfl rfl ?_
      refine pm_R_lo pm_M174 (pc' := 1) rfl rfl rfl ?_
      refine pm_R_lo pm_M174 (pc' := 2) rfl rfl rfl ?_
      refine pm_R_icmp pm_M174 (t := 14) (pc' := 5) rfl rfl rfl (fun c32 => ?_) (fun c32 => ?_)
      · have B33 : sf_B (-2147483648) (-1) a0 := sf_ltL c32 (sf_any a0) sf_k0
        refine pm_R_op pm_M174 (pc' := 15) (st' := [.int 0]) rfl rfl rfl ?_
        refine pm_R_ret pm_M174 (r := some (.int 0)) rfl rfl ?_
        show pm_R _ 177 13 [.ref 41, .int 0, .int a0] [.int 0] _ _
        refine pm_R_ret pm_M177 (r := some (.int 0)) rfl rfl ?_
        show pm_R _ 200 6 [.ref 41, .int a0, .int a1] [.int 0] _ _
        refine pm_R_br pm_M200 (pc' := 18) (st' := []) rfl rfl ?_
        refine pm_R_op pm_M200 (pc' := 19) (st' := [.int 0]) rfl rfl rfl ?_
        refine pm_R_ret pm_M200 (r := some (.int 0)) rfl rfl ?_
        show pm_R _ 288 20 [.ref 41, .int a0, .int a1, .int a2, pm_no, pm_no, pm_no] [.int 0] _ _
        refine pm_R_br pm_M288 (pc' := 39) (st' := []) rfl rfl ?_
        refine pm_R_op pm_M288 (pc' := 40) (st' := [.int (-1)]) rfl rfl rfl ?_
        exact pm_R_ret pm_M288 (r := some (.int (-1))) rfl rfl (K (-1) m4 w h1 T2 F6 W9 (sf_weak sf_kn1 (by decide) (by decide)))
      · have B34 : sf_B 0 2147483647 a0 := sf_leR (Int32.not_lt.mp c32) sf_k0 (sf_any a0)
        refine pm_R_lo pm_M174 (pc' := 6) rfl rfl rfl ?_
        refine pm_R_lo pm_M174 (pc' := 7) rfl rfl rfl ?_
        refine pm_R_icmp pm_M174 (t := 14) (pc' := 10) rfl rfl rfl (fun c35 => ?_) (fun c35 => ?_)
        · skip
          refine pm_R_op pm_M174 (pc' := 15) (st' := [.int 0]) rfl rfl rfl ?_
          refine pm_R_ret pm_M174 (r := some (.int 0)) rfl rfl ?_
          show pm_R _ 177 13 [.ref 41, .int 0, .int a0] [.int 0] _ _
          refine pm_R_ret pm_M177 (r := some (.int 0)) rfl rfl ?_
          show pm_R _ 200 6 [.ref 41, .int a0, .int a1] [.int 0] _ _
          refine pm_R_br pm_M200 (pc' := 18) (st' := []) rfl rfl ?_
          refine pm_R_op pm_M200 (pc' := 19) (st' := [.int 0]) rfl rfl rfl ?_
          refine pm_R_ret pm_M200 (r := some (.int 0)) rfl rfl ?_
          show pm_R _ 288 20 [.ref 41, .int a0, .int a1, .int a2, pm_no, pm_no, pm_no] [.int 0] _ _
          refine pm_R_br pm_M288 (pc' := 39) (st' := []) rfl rfl ?_
          refine pm_R_op pm_M288 (pc' := 40) (st' := [.int (-1)]) rfl rfl rfl ?_
          exact pm_R_ret pm_M288 (r := some (.int (-1))) rfl rfl (K (-1) m4 w h1 T2 F6 W9 (sf_weak sf_kn1 (by decide) (by decide)))
        · have B36 : sf_B 0 1 a0 := sf_leL (Int32.not_lt.mp c35) B34 B31
          have B37 : sf_B 0 1 z29 := sf_leR (Int32.not_lt.mp c35) B34 B31
          refine pm_R_op pm_M174 (pc' := 11) (st' := [.int 1]) rfl rfl rfl ?_
          refine pm_R_br pm_M174 (pc' := 15) rfl rfl ?_
          refine pm_R_ret pm_M174 (r := some (.int 1)) rfl rfl ?_
          show pm_R _ 177 13 [.ref 41, .int 0, .int a0] [.int 1] _ _
          refine pm_R_ret pm_M177 (r := some (.int 1)) rfl rfl ?_
          show pm_R _ 200 6 [.ref 41, .int a0, .int a1] [.int 1] _ _
          refine pm_R_br pm_M200 (pc' := 9) (st' := []) rfl rfl ?_
          refine pm_R_lo pm_M200 (pc' := 10) rfl rfl rfl ?_
          refine pm_R_op pm_M200 (pc' := 11) (st' := [.int 1, .ref 41]) rfl rfl rfl ?_
          refine pm_R_lo pm_M200 (pc' := 12) rfl rfl rfl ?_
          refine pm_R_cv pm_M200 (pc' := 15) (a := 41) (ra := [.int a1, .int 1]) (rest := []) (ls' := [.ref 41, .int 1, .int a1]) rfl rfl (Or.inl rfl) pm_M177 T2.2.1 rfl (by decide) (Nat.lt_of_lt_of_le (by decide) T2.1) rfl rfl (Nat.le_of_ble_eq_true rfl) rfl rfl ?_
          refine pm_R_lo pm_M177 (pc' := 1) rfl rfl rfl ?_
          refine pm_R_op pm_M177 (pc' := 2) (st' := [.int 0, .int a1]) rfl rfl rfl ?_
          refine pm_R_lo pm_M177 (pc' := 3) rfl rfl rfl ?_
          refine rf_R_get pm_M177 T2 (pc' := 6) (v := .ref 46) rfl rfl rfl rfl ?_
          refine pm_R_lo pm_M177 (pc' := 7) rfl rfl rfl ?_
          refine rf_R_ild pm_M177 T2 (pc' := 8) rfl e11 (by decide) rfl rfl (fun z38 ez39 => ?_)
          have B40 : sf_B 0 3 z38 := ez39 ▸ (b12 1)
          refine pm_R_op pm_M177 (pc' := 9) (st' := [.int 1, .int z38, .int 0, .int a1]) rfl rfl rfl ?_
          refine sf_R_isub pm_M177 (pc' := 10) rfl rfl B40 sf_k1 (by decide) (by decide) (fun z41 e42 B43 => ?_)
          refine pm_R_cs pm_M177 (pc' := 13) (ra := [.int z41, .int 0, .int a1]) (rest := []) (ls' := [.int a1, .int 0, .int z41]) rfl rfl (Or.inl rfl) pm_M174 rfl rfl (Nat.le_of_ble_eq_true rfl) rfl rfl ?_
          refine pm_R_lo pm_M174 (pc' := 1) rfl rfl rfl ?_
          refine pm_R_lo pm_M174 (pc' := 2) rfl rfl rfl ?_
          refine pm_R_icmp pm_M174 (t := 14) (pc' := 5) rfl rfl rfl (fun c44 => ?_) (fun c44 => ?_)
          · have B45 : sf_B (-2147483648) (-1) a1 := sf_ltL c44 (sf_any a1) sf_k0
            refine pm_R_op pm_M174 (pc' := 15) (st' := [.int 0]) rfl rfl rfl ?_
            refine pm_R_ret pm_M174 (r := some (.int 0)) rfl rfl ?_
            show pm_R _ 177 13 [.ref 41, .int 1, .int a1] [.int 0] _ _
            refine pm_R_ret pm_M177 (r := some (.int 0)) rfl rfl ?_
            show pm_R _ 200 15 [.ref 41, .int a0, .int a1] [.int 0] _ _
            refine pm_R_br pm_M200 (pc' := 18) (st' := []) rfl rfl ?_
            refine pm_R_op pm_M200 (pc' := 19) (st' := [.int 0]) rfl rfl rfl ?_
            refine pm_R_ret pm_M200 (r := some (.int 0)) rfl rfl ?_
            show pm_R _ 288 20 [.ref 41, .int a0, .int a1, .int a2, pm_no, pm_no, pm_no] [.int 0] _ _
            refine pm_R_br pm_M288 (pc' := 39) (st' := []) rfl rfl ?_
            refine pm_R_op pm_M288 (pc' := 40) (st' := [.int (-1)]) rfl rfl rfl ?_
            exact pm_R_ret pm_M288 (r := some (.int (-1))) rfl rfl (K (-1) m4 w h1 T2 F6 W9 (sf_weak sf_kn1 (by decide) (by decide)))
          · have B46 : sf_B 0 2147483647 a1 := sf_leR (Int32.not_lt.mp c44) sf_k0 (sf_any a1)
            refine pm_R_lo pm_M174 (pc' := 6) rfl rfl rfl ?_
            refine pm_R_lo pm_M174 (pc' := 7) rfl rfl rfl ?_
            refine pm_R_icmp pm_M174 (t := 14) (pc' := 10) rfl rfl rfl (fun c47 => ?_) (fun c47 => ?_)
            · skip
              refine pm_R_op pm_M174 (pc' := 15) (st' := [.int 0]) rfl rfl rfl ?_
              refine pm_R_ret pm_M174 (r := some (.int 0)) rfl rfl ?_
              show pm_R _ 177 13 [.ref 41, .int 1, .int a1] [.int 0] _ _
              refine pm_R_ret pm_M177 (r := some (.int 0)) rfl rfl ?_
              show pm_R _ 200 15 [.ref 41, .int a0, .int a1] [.int 0] _ _
              refine pm_R_br pm_M200 (pc' := 18) (st' := []) rfl rfl ?_
              refine pm_R_op pm_M200 (pc' := 19) (st' := [.int 0]) rfl rfl rfl ?_
              refine pm_R_ret pm_M200 (r := some (.int 0)) rfl rfl ?_
              show pm_R _ 288 20 [.ref 41, .int a0, .int a1, .int a2, pm_no, pm_no, pm_no] [.int 0] _ _
              refine pm_R_br pm_M288 (pc' := 39) (st' := []) rfl rfl ?_
              refine pm_R_op pm_M288 (pc' := 40) (st' := [.int (-1)]) rfl rfl rfl ?_
              exact pm_R_ret pm_M288 (r := some (.int (-1))) rfl rfl (K (-1) m4 w h1 T2 F6 W9 (sf_weak sf_kn1 (by decide) (by decide)))
            · have V48 := rf_V.mk e11 ez39 e42 (Int32.not_lt.mp c47) B46 (by decide)
              have V48 := V48.back F6 (by decide)
              have B49 : sf_B 0 2 a1 := sf_leL (Int32.not_lt.mp c47) B46 B43
              have B50 : sf_B 0 2 z41 := sf_leR (Int32.not_lt.mp c47) B46 B43
              refine pm_R_op pm_M174 (pc' := 11) (st' := [.int 1]) rfl rfl rfl ?_
              refine pm_R_br pm_M174 (pc' := 15) rfl rfl ?_
              refine pm_R_ret pm_M174 (r := some (.int 1)) rfl rfl ?_
              show pm_R _ 177 13 [.ref 41, .int 1, .int a1] [.int 1] _ _
              refine pm_R_ret pm_M177 (r := some (.int 1)) rfl rfl ?_
              show pm_R _ 200 15 [.ref 41, .int a0, .int a1] [.int 1] _ _
              refine pm_R_br pm_M200 (pc' := 20) (st' := []) rfl rfl ?_
              refine pm_R_lo pm_M200 (pc' := 21) rfl rfl rfl ?_
              refine pm_R_lo pm_M200 (pc' := 22) rfl rfl rfl ?_
              refine pm_R_lo pm_M200 (pc' := 23) rfl rfl rfl ?_
              refine pm_R_cv pm_M200 (pc' := 26) (a := 41) (ra := [.int a1, .int a0]) (rest := []) (ls' := [.ref 41, .int a0, .int a1, pm_no]) rfl rfl (Or.inl rfl) pm_M201 T2.2.1 rfl (by decide) (Nat.lt_of_lt_of_le (by decide) T2.1) rfl rfl (Nat.le_of_ble_eq_true rfl) rfl rfl ?_
              refine rf_c201 (d := d + 1) T2 B36 B49 (V48.F F6 (by decide)) (fun m53 w54 h55 T56 F57 W58 B59 => ?_)
              have F60 := F6.trans F57 (by decide)
              have W61 : rf_W [0, 23, 24, 26] m m53 := W9.trans W58 (by decide)
              show pm_R _ 200 26 [.ref 41, .int a0, .int a1] [] _ _
              refine pm_R_op pm_M200 (pc' := 27) (st' := [.int 1]) rfl rfl rfl ?_
              refine pm_R_ret pm_M200 (r := some (.int 1)) rfl rfl ?_
              show pm_R _ 288 20 [.ref 41, .int a0, .int a1, .int a2, pm_no, pm_no, pm_no] [.int 1] _ _
              refine pm_R_br pm_M288 (pc' := 23) (st' := []) rfl rfl ?_
              refine pm_R_lo pm_M288 (pc' := 24) rfl rfl rfl ?_
              refine rf_R_get pm_M288 T56 (pc' := 27) (v := .ref 48) rfl rfl rfl rfl ?_
              refine pm_R_op pm_M288 (pc' := 29) (st' := [.int 13, .ref 48]) rfl rfl rfl ?_
              refine pm_R_lo pm_M288 (pc' := 30) rfl rfl rfl ?_
              refine sf_R_imul pm_M288 (pc' := 31) rfl rfl sf_k13 B24 (by decide) (by decide) (by decide) (fun z62 e63 B64 => ?_)
              obtain ⟨f65, e66, b67⟩ := T56.2.2.2.1 48 (by decide) (by decide)
              refine rf_R_ild pm_M288 T56 (pc' := 32) rfl e66 (by decide) (sf_in B64 (by decide) (by decide)) rfl (fun z68 ez69 => ?_)
              have e70 : (z62).toInt = 13 * (a2).toInt + 0 := by
                have q0 := e63
                simp only [(show (13 : Int32).toInt = 13 from rfl)] at q0
                omega
              have B71 : sf_B 1 12 z68 := ez69 ▸ rf_p48v T56 e66 (V23.F F60 (by decide)) e70
              refine pm_R_lo pm_M288 (pc' := 33) rfl rfl rfl ?_
              refine rf_R_get pm_M288 T56 (pc' := 36) (v := .int (m53 24)) rfl rfl rfl rfl ?_
              refine pm_R_icmp pm_M288 (t := 41) (pc' := 39) rfl rfl rfl (fun c72 => ?_) (fun c72 => ?_)
              · refine pm_R_op pm_M288 (pc' := 42) (st' := [.int 0]) rfl rfl rfl ?_
                refine pm_R_lo pm_M288 (pc' := 44) (ls' := [.ref 41, .int a0, .int a1, .int a2, .int 0, pm_no, pm_no]) (st' := []) rfl rfl rfl ?_
                have L_2237 : ∀ (N : Nat) (h_2237 : pm_H) (m_2237 : Nat → Int32) (w_2237 : Int64) (x4_2237 : Int32) (g5_2237 : Value) (g6_2237 : Value), rf_T m_2237 w_2237 h_2237 → rf_G [41, 53] h h_2237 → rf_W [] m53 m_2237 → sf_B 0 10 x4_2237 → g5_2237.category = 1 → g6_2237.category = 1 → (10 - x4_2237.toInt).toNat = N → pm_R (d + 3) 288 44 [.ref 41, .int a0, .int a1, .int a2, .int x4_2237, g5_2237, g6_2237] [] h_2237 Q := by
                  intro N
                  induction N using Nat.strongRecOn with
                  | ind N ih_2237 =>
                    intro h_2237 m_2237 w_2237 x4_2237 g5_2237 g6_2237 T_2237 F_2237 W_2237 Bx4_2237 Cg5_2237 Cg6_2237 hN_2237
                    have B2240 : sf_B 1 12 (m_2237 24) := by rw [W_2237 24 (by decide)]; exact B59
                    have W2241 : rf_W [0, 23, 24, 26] m m_2237 := W61.trans W_2237 (by decide)
                    refine pm_R_lo pm_M288 (pc' := 46) rfl rfl rfl ?_
                    refine pm_R_op pm_M288 (pc' := 48) (st' := [.int 9, .int x4_2237]) rfl rfl rfl ?_
                    refine pm_R_icmp pm_M288 (t := 131) (pc' := 51) rfl rfl rfl (fun c2242 => ?_) (fun c2242 => ?_)
                    · have B2243 : sf_B 10 10 x4_2237 := sf_ltR c2242 sf_k9 Bx4_2237
                      refine pm_R_op pm_M288 (pc' := 132) (st' := [.int (-1)]) (pm_q288_1 (Nat.le_of_ble_eq_true rfl)) rfl rfl ?_
                      exact pm_R_ret pm_M288 (r := some (.int (-1))) (pm_q288_1 (Nat.le_of_ble_eq_true rfl)) rfl (K (-1) m_2237 w_2237 h_2237 T_2237 F_2237 W2241 (sf_weak sf_kn1 (by decide) (by decide)))
                    · have B2244 : sf_B 0 9 x4_2237 := sf_leL (Int32.not_lt.mp c2242) Bx4_2237 sf_k9
                      refine pm_R_op pm_M288 (pc' := 52) (st' := [.int 1]) rfl rfl rfl ?_
                      refine pm_R_lo pm_M288 (pc' := 54) (ls' := [.ref 41, .int a0, .int a1, .int a2, .int x4_2237, .int 1, g6_2237]) (st' := []) rfl rfl rfl ?_
                      refine pm_R_op pm_M288 (pc' := 55) (st' := [.int 0]) rfl rfl rfl ?_
                      refine pm_R_lo pm_M288 (pc' := 57) (ls' := [.ref 41, .int a0, .int a1, .int a2, .int x4_2237, .int 1, .int 0]) (st' := []) rfl rfl rfl ?_
                      have L_2604 : ∀ (N : Nat) (x5_2604 : Int32) (x6_2604 : Int32), sf_B 0 1 x5_2604 → sf_B 0 12 x6_2604 → (12 - x6_2604.toInt).toNat = N → pm_R (d + 3) 288 57 [.ref 41, .int a0, .int a1, .int a2, .int x4_2237, .int x5_2604, .int x6_2604] [] h_2237 Q := by
                        intro N
                        induction N using Nat.strongRecOn with
                        | ind N ih_2604 =>
                          intro x5_2604 x6_2604 Bx5_2604 Bx6_2604 hN_2604
                          refine pm_R_lo pm_M288 (pc' := 59) rfl rfl rfl ?_
                          refine pm_R_lo pm_M288 (pc' := 60) rfl rfl rfl ?_
                          refine rf_R_get pm_M288 T_2237 (pc' := 63) (v := .int (m_2237 24)) rfl rfl rfl rfl ?_
                          refine pm_R_icmp pm_M288 (t := 112) (pc' := 66) rfl rfl rfl (fun c2605 => ?_) (fun c2605 => ?_)
                          · have B2606 : sf_B 1 12 x6_2604 := sf_leR c2605 B2240 Bx6_2604
                            refine pm_R_lo pm_M288 (pc' := 114) (pm_q288_1 (Nat.le_of_ble_eq_true rfl)) rfl rfl ?_
                            refine pm_R_ifc pm_M288 (t := 120) (pc' := 117) (pm_q288_1 (Nat.le_of_ble_eq_true rfl)) rfl rfl (fun c2607 => ?_) (fun c2607 => ?_)
                            · have B2608 : sf_B 0 0 x5_2604 := sf_eqL c2607 sf_k0
                              refine pm_R_lo pm_M288 (pc' := 121) (pm_q288_1 (Nat.le_of_ble_eq_true rfl)) rfl rfl ?_
                              refine pm_R_op pm_M288 (pc' := 122) (st' := [.int 1, .ref 41]) (pm_q288_1 (Nat.le_of_ble_eq_true rfl)) rfl rfl ?_
                              refine pm_R_cv pm_M288 (pc' := 125) (a := 41) (ra := [.int 1]) (rest := []) (ls' := [.ref 41, .int 1, pm_no, pm_no, pm_no, pm_no]) (pm_q288_1 (Nat.le_of_ble_eq_true rfl)) rfl (Or.inl rfl) pm_M235 T_2237.2.1 rfl (by decide) (Nat.lt_of_lt_of_le (by decide) T_2237.1) rfl rfl (Nat.le_of_ble_eq_true rfl) rfl rfl ?_
                              refine rf_c235 (d := d + 1) T_2237 (sf_weak sf_k1 (by decide) (by decide)) (fun m2611 w2612 h2613 T2614 F2615 W2616 => ?_)
                              have F2617 := F_2237.trans F2615 (by decide)
                              have B2618 : sf_B 1 12 (m2611 24) := by rw [W2616 24 (by decide)]; exact B2240
                              have W2619 : rf_W [0, 23, 24, 26] m m2611 := W2241.trans W2616 (by decide)
                              have W2620 : rf_W [] m53 m2611 := W_2237.trans W2616 (by decide)
                              show pm_R _ 288 125 [.ref 41, .int a0, .int a1, .int a2, .int x4_2237, .int x5_2604, .int x6_2604] [] _ _
                              refine sf_R_iinc pm_M288 (pc' := 128) (ls' := fun z => [.ref 41, .int a0, .int a1, .int a2, .int z, .int x5_2604, .int x6_2604]) (pm_q288_1 (Nat.le_of_ble_eq_true rfl)) B2244 rfl (by decide) (by decide) (by decide) (fun _ => rfl) rfl (fun z2621 e2622 B2623 => ?_)
                              show pm_R _ 288 128 [.ref 41, .int a0, .int a1, .int a2, .int z2621, .int x5_2604, .int x6_2604] [] _ _
                              refine pm_R_br pm_M288 (pc' := 44) (pm_q288_1 (Nat.le_of_ble_eq_true rfl)) rfl ?_
                              exact ih_2237 _ (sf_up hN_2237 e2622 B2244 (by decide) (by decide)) h2613 m2611 w2612 z2621 (.int x5_2604) (.int x6_2604) T2614 F2617 W2620 (sf_weak B2623 (by decide) (by decide)) rfl rfl rfl
                            · have B2624 : sf_B 1 1 x5_2604 := sf_neL0 c2607 sf_k0 Bx5_2604
                              refine pm_R_lo pm_M288 (pc' := 119) (pm_q288_1 (Nat.le_of_ble_eq_true rfl)) rfl rfl ?_
                              exact pm_R_ret pm_M288 (r := some (.int x4_2237)) (pm_q288_1 (Nat.le_of_ble_eq_true rfl)) (pm_ret_i _) (K x4_2237 m_2237 w_2237 h_2237 T_2237 F_2237 W2241 (sf_weak B2244 (by decide) (by decide)))
                          · have B2625 : sf_B 0 11 x6_2604 := sf_ltL (Int32.not_le.mp c2605) Bx6_2604 B2240
                            refine pm_R_lo pm_M288 (pc' := 68) rfl rfl rfl ?_
                            refine pm_R_ifc pm_M288 (t := 103) (pc' := 71) rfl rfl rfl (fun c2626 => ?_) (fun c2626 => ?_)
                            · have B2627 : sf_B 0 0 x5_2604 := sf_eqL c2626 sf_k0
                              refine pm_R_op pm_M288 (pc' := 104) (st' := [.int 0]) rfl rfl rfl ?_
                              refine pm_R_lo pm_M288 (pc' := 106) (ls' := [.ref 41, .int a0, .int a1, .int a2, .int x4_2237, .int 0, .int x6_2604]) (st' := []) rfl rfl rfl ?_
                              refine sf_R_iinc pm_M288 (pc' := 109) (ls' := fun z => [.ref 41, .int a0, .int a1, .int a2, .int x4_2237, .int 0, .int z]) (pm_q288_1 (Nat.le_of_ble_eq_true rfl)) B2625 rfl (by decide) (by decide) (by decide) (fun _ => rfl) rfl (fun z2628 e2629 B2630 => ?_)
                              show pm_R _ 288 109 [.ref 41, .int a0, .int a1, .int a2, .int x4_2237, .int 0, .int z2628] [] _ _
                              refine pm_R_br pm_M288 (pc' := 57) (pm_q288_1 (Nat.le_of_ble_eq_true rfl)) rfl ?_
                              exact ih_2604 _ (sf_up hN_2604 e2629 B2625 (by decide) (by decide)) 0 z2628 (sf_weak sf_k0 (by decide) (by decide)) (sf_weak B2630 (by decide) (by decide)) rfl
                            · have B2631 : sf_B 1 1 x5_2604 := sf_neL0 c2626 sf_k0 Bx5_2604
                              refine pm_R_lo pm_M288 (pc' := 72) rfl rfl rfl ?_
                              refine rf_R_get pm_M288 T_2237 (pc' := 75) (v := .ref 53) rfl rfl rfl rfl ?_
                              refine pm_R_lo pm_M288 (pc' := 77) rfl rfl rfl ?_
                              obtain ⟨f2632, e2633⟩ := T_2237.2.2.2.1 53 (by decide) (by decide)
                              refine rf_R_ild pm_M288 T_2237 (pc' := 78) rfl e2633 (by decide) (sf_in B2625 (by decide) (by decide)) rfl (fun z2635 ez2636 => ?_)
                              refine sf_R_lany pm_M288 (pc' := 79) (st := []) rfl rfl rfl (fun z2637 => ?_)
                              refine pm_R_lo pm_M288 (pc' := 80) rfl rfl rfl ?_
                              refine rf_R_get pm_M288 T_2237 (pc' := 83) (v := .ref 48) rfl rfl rfl rfl ?_
                              refine pm_R_op pm_M288 (pc' := 85) (st' := [.int 13, .ref 48, .long z2637]) rfl rfl rfl ?_
                              refine pm_R_lo pm_M288 (pc' := 86) rfl rfl rfl ?_
                              refine sf_R_imul pm_M288 (pc' := 87) rfl rfl sf_k13 B24 (by decide) (by decide) (by decide) (fun z2638 e2639 B2640 => ?_)
                              refine pm_R_op pm_M288 (pc' := 88) (st' := [.int 1, .int z2638, .ref 48, .long z2637]) rfl rfl rfl ?_
                              refine sf_R_iadd pm_M288 (pc' := 89) rfl rfl B2640 sf_k1 (by decide) (by decide) (fun z2641 e2642 B2643 => ?_)
                              refine pm_R_lo pm_M288 (pc' := 91) rfl rfl rfl ?_
                              refine sf_R_iadd pm_M288 (pc' := 92) rfl rfl B2643 B2625 (by decide) (by decide) (fun z2644 e2645 B2646 => ?_)
                              obtain ⟨f2647, e2648, b2649⟩ := T_2237.2.2.2.1 48 (by decide) (by decide)
                              refine rf_R_ild pm_M288 T_2237 (pc' := 93) rfl e2648 (by decide) (sf_in B2646 (by decide) (by decide)) rfl (fun z2650 ez2651 => ?_)
                              have e2652 : (z2644).toInt = 13 * (a2).toInt + 1 * (x6_2604).toInt + 1 := by
                                have q0 := e2639
                                have q1 := e2642
                                have q2 := e2645
                                simp only [(show (1 : Int32).toInt = 1 from rfl), (show (13 : Int32).toInt = 13 from rfl)] at q0 q1 q2
                                omega
                              have B2653 : sf_B 0 9 z2650 := ez2651 ▸ rf_p48s b2649 e2652 B24 B2625 (by decide) (by decide) (by decide)
                              refine pm_R_cs pm_M288 (pc' := 96) (ra := [.int z2650, .long z2637]) (rest := []) (ls' := [.long z2637, pm_no, .int z2650]) rfl rfl (Or.inl rfl) pm_M206 rfl rfl (Nat.le_of_ble_eq_true rfl) rfl rfl ?_
                              refine pm_R_lo pm_M206 (pc' := 1) rfl rfl rfl ?_
                              refine pm_R_lo pm_M206 (pc' := 2) rfl rfl rfl ?_
                              refine sf_R_lany pm_M206 (pc' := 3) (st := []) rfl rfl rfl (fun z2654 => ?_)
                              refine pm_R_op pm_M206 (pc' := 4) (st' := [.long 1, .long z2654]) rfl rfl rfl ?_
                              refine sf_R_lany pm_M206 (pc' := 5) (st := []) rfl rfl rfl (fun z2655 => ?_)
                              refine pm_R_op pm_M206 (pc' := 6) (st' := [.long 1, .long z2655]) rfl rfl rfl ?_
                              refine sf_R_lcmp pm_M206 (pc' := 7) rfl rfl (fun z2656 e2657 => ?_)
                              refine pm_R_ifc pm_M206 (t := 14) (pc' := 10) rfl rfl rfl (fun c2658 => ?_) (fun c2658 => ?_)
                              · have k2659 := sf_lneC e2657 c2658
                                refine pm_R_op pm_M206 (pc' := 15) (st' := [.int 0]) rfl rfl rfl ?_
                                refine pm_R_ret pm_M206 (r := some (.int 0)) rfl rfl ?_
                                show pm_R _ 288 96 [.ref 41, .int a0, .int a1, .int a2, .int x4_2237, .int x5_2604, .int x6_2604] [.int 0] _ _
                                refine pm_R_br pm_M288 (pc' := 103) (st' := []) rfl rfl ?_
                                refine pm_R_op pm_M288 (pc' := 104) (st' := [.int 0]) rfl rfl rfl ?_
                                refine pm_R_lo pm_M288 (pc' := 106) (ls' := [.ref 41, .int a0, .int a1, .int a2, .int x4_2237, .int 0, .int x6_2604]) (st' := []) rfl rfl rfl ?_
                                refine sf_R_iinc pm_M288 (pc' := 109) (ls' := fun z => [.ref 41, .int a0, .int a1, .int a2, .int x4_2237, .int 0, .int z]) (pm_q288_1 (Nat.le_of_ble_eq_true rfl)) B2625 rfl (by decide) (by decide) (by decide) (fun _ => rfl) rfl (fun z2660 e2661 B2662 => ?_)
                                show pm_R _ 288 109 [.ref 41, .int a0, .int a1, .int a2, .int x4_2237, .int 0, .int z2660] [] _ _
                                refine pm_R_br pm_M288 (pc' := 57) (pm_q288_1 (Nat.le_of_ble_eq_true rfl)) rfl ?_
                                exact ih_2604 _ (sf_up hN_2604 e2661 B2625 (by decide) (by decide)) 0 z2660 (sf_weak sf_k0 (by decide) (by decide)) (sf_weak B2662 (by decide) (by decide)) rfl
                              · have B2663 : sf_B 0 0 z2656 := sf_eqL (Classical.not_not.mp c2658) sf_k0
                                refine pm_R_op pm_M206 (pc' := 11) (st' := [.int 1]) rfl rfl rfl ?_
                                refine pm_R_br pm_M206 (pc' := 15) rfl rfl ?_
                                refine pm_R_ret pm_M206 (r := some (.int 1)) rfl rfl ?_
                                show pm_R _ 288 96 [.ref 41, .int a0, .int a1, .int a2, .int x4_2237, .int x5_2604, .int x6_2604] [.int 1] _ _
                                refine pm_R_br pm_M288 (pc' := 99) (st' := []) rfl rfl ?_
                                refine pm_R_op pm_M288 (pc' := 100) (st' := [.int 1]) rfl rfl rfl ?_
                                refine pm_R_br pm_M288 (pc' := 104) rfl rfl ?_
                                refine pm_R_lo pm_M288 (pc' := 106) (ls' := [.ref 41, .int a0, .int a1, .int a2, .int x4_2237, .int 1, .int x6_2604]) (st' := []) rfl rfl rfl ?_
                                refine sf_R_iinc pm_M288 (pc' := 109) (ls' := fun z => [.ref 41, .int a0, .int a1, .int a2, .int x4_2237, .int 1, .int z]) (pm_q288_1 (Nat.le_of_ble_eq_true rfl)) B2625 rfl (by decide) (by decide) (by decide) (fun _ => rfl) rfl (fun z2664 e2665 B2666 => ?_)
                                show pm_R _ 288 109 [.ref 41, .int a0, .int a1, .int a2, .int x4_2237, .int 1, .int z2664] [] _ _
                                refine pm_R_br pm_M288 (pc' := 57) (pm_q288_1 (Nat.le_of_ble_eq_true rfl)) rfl ?_
                                exact ih_2604 _ (sf_up hN_2604 e2665 B2625 (by decide) (by decide)) 1 z2664 (sf_weak sf_k1 (by decide) (by decide)) (sf_weak B2666 (by decide) (by decide)) rfl
                      exact L_2604 _ 1 0 (sf_weak sf_k1 (by decide) (by decide)) (sf_weak sf_k0 (by decide) (by decide)) rfl
                exact L_2237 _ h55 m53 w54 0 (pm_no) (pm_no) T56 F60 (rf_W.refl _ _) (sf_weak sf_k0 (by decide) (by decide)) rfl rfl rfl
              · skip
                refine pm_R_op pm_M288 (pc' := 40) (st' := [.int (-1)]) rfl rfl rfl ?_
                exact pm_R_ret pm_M288 (r := some (.int (-1))) rfl rfl (K (-1) m53 w54 h55 T56 F60 W61 (sf_weak sf_kn1 (by decide) (by decide)))

set_option maxRecDepth 100000 in
set_option maxHeartbeats 4000000 in
/-- SilentTableModel.can -/
theorem rf_c289 {d : Nat} {m : Nat → Int32} {w : Int64} {h : pm_H} {Q : Option Value → pm_H → Prop} {a0 : Int32} {a1 : Int32} {a2 : Int32} {a3 : Int32} (T : rf_T m w h)  (K : ∀ (r : Int32) (m' : Nat → Int32) (w' : Int64) (h' : pm_H), rf_T m' w' h' → rf_G [41, 53, 54] h h' → rf_W [0, 23, 24, 26] m m' → Q (some (.int r)) h') : pm_R (d + 5) 289 0 [.ref 41, .int a0, .int a1, .int a2, .int a3, pm_no, pm_no] [] h Q := by
  refine pm_R_lo pm_M289 (pc' := 1) rfl rfl rfl ?_
  refine pm_R_op pm_M289 (pc' := 2) (st' := [.int 0, .ref 41]) rfl rfl rfl ?_
  refine rf_R_put pm_M289 T (pc' := 5) rfl rfl rfl (by decide) rfl rfl sf_k0 rfl rfl (fun h1 m4 em5 T2 F3 => ?_)
  have F6 := (rf_G.refl [41, 53, 54] h).trans F3 (by decide)
  have B7 : sf_B 0 0 (m4 0) := by rw [em5]; exact sf_k0
  have W9 : rf_W [0, 23, 24, 26] m m4 := by rw [em5]; exact (rf_W.refl [0, 23, 24, 26] m).put (by decide)
  refine pm_R_lo pm_M289 (pc' := 6) rfl rfl rfl ?_
  refine pm_R_lo pm_M289 (pc' := 7) rfl rfl rfl ?_
  refine pm_R_lo pm_M289 (pc' := 8) rfl rfl rfl ?_
  refine pm_R_cv pm_M289 (pc' := 11) (a := 41) (ra := [.int a1, .int a0]) (rest := []) (ls' := [.ref 41, .int a0, .int a1]) rfl rfl (Or.inl rfl) pm_M200 T2.2.1 rfl (by decide) (Nat.lt_of_lt_of_le (by decide) T2.1) rfl rfl (Nat.le_of_ble_eq_true rfl) rfl rfl ?_
  refine pm_R_lo pm_M200 (pc' := 1) rfl rfl rfl ?_
  refine pm_R_op pm_M200 (pc' := 2) (st' := [.int 0, .ref 41]) rfl rfl rfl ?_
  refine pm_R_lo pm_M200 (pc' := 3) rfl rfl rfl ?_
  refine pm_R_cv pm_M200 (pc' := 6) (a := 41) (ra := [.int a0, .int 0]) (rest := []) (ls' := [.ref 41, .int 0, .int a0]) rfl rfl (Or.inl rfl) pm_M177 T2.2.1 rfl (by decide) (Nat.lt_of_lt_of_le (by decide) T2.1) rfl rfl (Nat.le_of_ble_eq_true rfl) rfl rfl ?_
  refine pm_R_lo pm_M177 (pc' := 1) rfl rfl rfl ?_
  refine pm_R_op pm_M177 (pc' := 2) (st' := [.int 0, .int a0]) rfl rfl rfl ?_
  refine pm_R_lo pm_M177 (pc' := 3) rfl rfl rfl ?_
  refine rf_R_get pm_M177 T2 (pc' := 6) (v := .ref 46) rfl rfl rfl rfl ?_
  refine pm_R_lo pm_M177 (pc' := 7) rfl rfl rfl ?_
  obtain ⟨f10, e11, b12⟩ := T2.2.2.2.1 46 (by decide) (by decide)
  refine rf_R_ild pm_M177 T2 (pc' := 8) rfl e11 (by decide) rfl rfl (fun z13 ez14 => ?_)
  have B15 : sf_B 0 2 z13 := ez14 ▸ (b12 0)
  refine pm_R_op pm_M177 (pc' := 9) (st' := [.int 1, .int z13, .int 0, .int a0]) rfl rfl rfl ?_
  refine sf_R_isub pm_M177 (pc' := 10) rfl rfl B15 sf_k1 (by decide) (by decide) (fun z16 e17 B18 => ?_)
  refine pm_R_cs pm_M177 (pc' := 13) (ra := [.int z16, .int 0, .int a0]) (rest := []) (ls' := [.int a0, .int 0, .int z16]) rfl rfl (Or.inl rfl) pm_M174 rfl rfl (Nat.le_of_ble_eq_true rfl) rfl rfl ?_
  refine pm_R_lo pm_M174 (pc' := 1) rfl rfl rfl ?_
  refine pm_R_lo pm_M174 (pc' := 2) rfl rfl rfl ?_
  refine pm_R_icmp pm_M174 (t := 14) (pc' := 5) rfl rfl rfl (fun c19 => ?_) (fun c19 => ?_)
  · have B20 : sf_B (-2147483648) (-1) a0 := sf_ltL c19 (sf_any a0) sf_k0
    refine pm_R_op pm_M174 (pc' := 15) (st' := [.int 0]) rfl rfl rfl ?_
    refine pm_R_ret pm_M174 (r := some (.int 0)) rfl rfl ?_
    show pm_R _ 177 13 [.ref 41, .int 0, .int a0] [.int 0] _ _
    refine pm_R_ret pm_M177 (r := some (.int 0)) rfl rfl ?_
    show pm_R _ 200 6 [.ref 41, .int a0, .int a1] [.int 0] _ _
    refine pm_R_br pm_M200 (pc' := 18) (st' := []) rfl rfl ?_
    refine pm_R_op pm_M200 (pc' := 19) (st' := [.int 0]) rfl rfl rfl ?_
    refine pm_R_ret pm_M200 (r := some (.int 0)) rfl rfl ?_
    show pm_R _ 289 11 [.ref 41, .int a0, .int a1, .int a2, .int a3, pm_no, pm_no] [.int 0] _ _
    refine pm_R_br pm_M289 (pc' := 43) (st' := []) rfl rfl ?_
    refine pm_R_op pm_M289 (pc' := 44) (st' := [.int (-1)]) rfl rfl rfl ?_
    exact pm_R_ret pm_M289 (r := some (.int (-1))) rfl rfl (K (-1) m4 w h1 T2 F6 W9)
  · have B21 : sf_B 0 2147483647 a0 := sf_leR (Int32.not_lt.mp c19) sf_k0 (sf_any a0)
    refine pm_R_lo pm_M174 (pc' := 6) rfl rfl rfl ?_
    refine pm_R_lo pm_M174 (pc' := 7) rfl rfl rfl ?_
    refine pm_R_icmp pm_M174 (t := 14) (pc' := 10) rfl rfl rfl (fun c22 => ?_) (fun c22 => ?_)
    · skip
      refine pm_R_op pm_M174 (pc' := 15) (st' := [.int 0]) rfl rfl rfl ?_
      refine pm_R_ret pm_M174 (r := some (.int 0)) rfl rfl ?_
      show pm_R _ 177 13 [.ref 41, .int 0, .int a0] [.int 0] _ _
      refine pm_R_ret pm_M177 (r := some (.int 0)) rfl rfl ?_
      show pm_R _ 200 6 [.ref 41, .int a0, .int a1] [.int 0] _ _
      refine pm_R_br pm_M200 (pc' := 18) (st' := []) rfl rfl ?_
      refine pm_R_op pm_M200 (pc' := 19) (st' := [.int 0]) rfl rfl rfl ?_
      refine pm_R_ret pm_M200 (r := some (.int 0)) rfl rfl ?_
      show pm_R _ 289 11 [.ref 41, .int a0, .int a1, .int a2, .int a3, pm_no, pm_no] [.int 0] _ _
      refine pm_R_br pm_M289 (pc' := 43) (st' := []) rfl rfl ?_
      refine pm_R_op pm_M289 (pc' := 44) (st' := [.int (-1)]) rfl rfl rfl ?_
      exact pm_R_ret pm_M289 (r := some (.int (-1))) rfl rfl (K (-1) m4 w h1 T2 F6 W9)
    · have B23 : sf_B 0 1 a0 := sf_leL (Int32.not_lt.mp c22) B21 B18
      have B24 : sf_B 0 1 z16 := sf_leR (Int32.not_lt.mp c22) B21 B18
      refine pm_R_op pm_M174 (pc' := 11) (st' := [.int 1]) rfl rfl rfl ?_
      refine pm_R_br pm_M174 (pc' := 15) rfl rfl ?_
      refine pm_R_ret pm_M174 (r := some (.int 1)) rfl rfl ?_
      show pm_R _ 177 13 [.ref 41, .int 0, .int a0] [.int 1] _ _
      refine pm_R_ret pm_M177 (r := some (.int 1)) rfl rfl ?_
      show pm_R _ 200 6 [.ref 41, .int a0, .int a1] [.int 1] _ _
      refine pm_R_br pm_M200 (pc' := 9) (st' := []) rfl rfl ?_
      refine pm_R_lo pm_M200 (pc' := 10) rfl rfl rfl ?_
      refine pm_R_op pm_M200 (pc' := 11) (st' := [.int 1, .ref 41]) rfl rfl rfl ?_
      refine pm_R_lo pm_M200 (pc' := 12) rfl rfl rfl ?_
      refine pm_R_cv pm_M200 (pc' := 15) (a := 41) (ra := [.int a1, .int 1]) (rest := []) (ls' := [.ref 41, .int 1, .int a1]) rfl rfl (Or.inl rfl) pm_M177 T2.2.1 rfl (by decide) (Nat.lt_of_lt_of_le (by decide) T2.1) rfl rfl (Nat.le_of_ble_eq_true rfl) rfl rfl ?_
      refine pm_R_lo pm_M177 (pc' := 1) rfl rfl rfl ?_
      refine pm_R_op pm_M177 (pc' := 2) (st' := [.int 0, .int a1]) rfl rfl rfl ?_
      refine pm_R_lo pm_M177 (pc' := 3) rfl rfl rfl ?_
      refine rf_R_get pm_M177 T2 (pc' := 6) (v := .ref 46) rfl rfl rfl rfl ?_
      refine pm_R_lo pm_M177 (pc' := 7) rfl rfl rfl ?_
      refine rf_R_ild pm_M177 T2 (pc' := 8) rfl e11 (by decide) rfl rfl (fun z25 ez26 => ?_)
      have B27 : sf_B 0 3 z25 := ez26 ▸ (b12 1)
      refine pm_R_op pm_M177 (pc' := 9) (st' := [.int 1, .int z25, .int 0, .int a1]) rfl rfl rfl ?_
      refine sf_R_isub pm_M177 (pc' := 10) rfl rfl B27 sf_k1 (by decide) (by decide) (fun z28 e29 B30 => ?_)
      refine pm_R_cs pm_M177 (pc' := 13) (ra := [.int z28, .int 0, .int a1]) (rest := []) (ls' := [.int a1, .int 0, .int z28]) rfl rfl (Or.inl rfl) pm_M174 rfl rfl (Nat.le_of_ble_eq_true rfl) rfl rfl ?_
      refine pm_R_lo pm_M174 (pc' := 1) rfl rfl rfl ?_
      refine pm_R_lo pm_M174 (pc' := 2) rfl rfl rfl ?_
      refine pm_R_icmp pm_M174 (t := 14) (pc' := 5) rfl rfl rfl (fun c31 => ?_) (fun c31 => ?_)
      · have B32 : sf_B (-2147483648) (-1) a1 := sf_ltL c31 (sf_any a1) sf_k0
        refine pm_R_op pm_M174 (pc' := 15) (st' := [.int 0]) rfl rfl rfl ?_
        refine pm_R_ret pm_M174 (r := some (.int 0)) rfl rfl ?_
        show pm_R _ 177 13 [.ref 41, .int 1, .int a1] [.int 0] _ _
        refine pm_R_ret pm_M177 (r := some (.int 0)) rfl rfl ?_
        show pm_R _ 200 15 [.ref 41, .int a0, .int a1] [.int 0] _ _
        refine pm_R_br pm_M200 (pc' := 18) (st' := []) rfl rfl ?_
        refine pm_R_op pm_M200 (pc' := 19) (st' := [.int 0]) rfl rfl rfl ?_
        refine pm_R_ret pm_M200 (r := some (.int 0)) rfl rfl ?_
        show pm_R _ 289 11 [.ref 41, .int a0, .int a1, .int a2, .int a3, pm_no, pm_no] [.int 0] _ _
        refine pm_R_br pm_M289 (pc' := 43) (st' := []) rfl rfl ?_
        refine pm_R_op pm_M289 (pc' := 44) (st' := [.int (-1)]) rfl rfl rfl ?_
        exact pm_R_ret pm_M289 (r := some (.int (-1))) rfl rfl (K (-1) m4 w h1 T2 F6 W9)
      · have B33 : sf_B 0 2147483647 a1 := sf_leR (Int32.not_lt.mp c31) sf_k0 (sf_any a1)
        refine pm_R_lo pm_M174 (pc' := 6) rfl rfl rfl ?_
        refine pm_R_lo pm_M174 (pc' := 7) rfl rfl rfl ?_
        refine pm_R_icmp pm_M174 (t := 14) (pc' := 10) rfl rfl rfl (fun c34 => ?_) (fun c34 => ?_)
        · skip
          refine pm_R_op pm_M174 (pc' := 15) (st' := [.int 0]) rfl rfl rfl ?_
          refine pm_R_ret pm_M174 (r := some (.int 0)) rfl rfl ?_
          show pm_R _ 177 13 [.ref 41, .int 1, .int a1] [.int 0] _ _
          refine pm_R_ret pm_M177 (r := some (.int 0)) rfl rfl ?_
          show pm_R _ 200 15 [.ref 41, .int a0, .int a1] [.int 0] _ _
          refine pm_R_br pm_M200 (pc' := 18) (st' := []) rfl rfl ?_
          refine pm_R_op pm_M200 (pc' := 19) (st' := [.int 0]) rfl rfl rfl ?_
          refine pm_R_ret pm_M200 (r := some (.int 0)) rfl rfl ?_
          show pm_R _ 289 11 [.ref 41, .int a0, .int a1, .int a2, .int a3, pm_no, pm_no] [.int 0] _ _
          refine pm_R_br pm_M289 (pc' := 43) (st' := []) rfl rfl ?_
          refine pm_R_op pm_M289 (pc' := 44) (st' := [.int (-1)]) rfl rfl rfl ?_
          exact pm_R_ret pm_M289 (r := some (.int (-1))) rfl rfl (K (-1) m4 w h1 T2 F6 W9)
        · have V35 := rf_V.mk e11 ez26 e29 (Int32.not_lt.mp c34) B33 (by decide)
          have V35 := V35.back F6 (by decide)
          have B36 : sf_B 0 2 a1 := sf_leL (Int32.not_lt.mp c34) B33 B30
          have B37 : sf_B 0 2 z28 := sf_leR (Int32.not_lt.mp c34) B33 B30
          refine pm_R_op pm_M174 (pc' := 11) (st' := [.int 1]) rfl rfl rfl ?_
          refine pm_R_br pm_M174 (pc' := 15) rfl rfl ?_
          refine pm_R_ret pm_M174 (r := some (.int 1)) rfl rfl ?_
          show pm_R _ 177 13 [.ref 41, .int 1, .int a1] [.int 1] _ _
          refine pm_R_ret pm_M177 (r := some (.int 1)) rfl rfl ?_
          show pm_R _ 200 15 [.ref 41, .int a0, .int a1] [.int 1] _ _
          refine pm_R_br pm_M200 (pc' := 20) (st' := []) rfl rfl ?_
          refine pm_R_lo pm_M200 (pc' := 21) rfl rfl rfl ?_
          refine pm_R_lo pm_M200 (pc' := 22) rfl rfl rfl ?_
          refine pm_R_lo pm_M200 (pc' := 23) rfl rfl rfl ?_
          refine pm_R_cv pm_M200 (pc' := 26) (a := 41) (ra := [.int a1, .int a0]) (rest := []) (ls' := [.ref 41, .int a0, .int a1, pm_no]) rfl rfl (Or.inl rfl) pm_M201 T2.2.1 rfl (by decide) (Nat.lt_of_lt_of_le (by decide) T2.1) rfl rfl (Nat.le_of_ble_eq_true rfl) rfl rfl ?_
          refine rf_c201 (d := d + 3) T2 B23 B36 (V35.F F6 (by decide)) (fun m40 w41 h42 T43 F44 W45 B46 => ?_)
          have F47 := F6.trans F44 (by decide)
          have W48 : rf_W [0, 23, 24, 26] m m40 := W9.trans W45 (by decide)
          show pm_R _ 200 26 [.ref 41, .int a0, .int a1] [] _ _
          refine pm_R_op pm_M200 (pc' := 27) (st' := [.int 1]) rfl rfl rfl ?_
          refine pm_R_ret pm_M200 (r := some (.int 1)) rfl rfl ?_
          show pm_R _ 289 11 [.ref 41, .int a0, .int a1, .int a2, .int a3, pm_no, pm_no] [.int 1] _ _
          refine pm_R_br pm_M289 (pc' := 14) (st' := []) rfl rfl ?_
          refine pm_R_lo pm_M289 (pc' := 15) rfl rfl rfl ?_
          refine pm_R_op pm_M289 (pc' := 16) (st' := [.int 0, .int a2]) rfl rfl rfl ?_
          refine pm_R_lo pm_M289 (pc' := 17) rfl rfl rfl ?_
          refine rf_R_get pm_M289 T43 (pc' := 20) (v := .int (m40 24)) rfl rfl rfl rfl ?_
          refine pm_R_op pm_M289 (pc' := 21) (st' := [.int 1, .int (m40 24), .int 0, .int a2]) rfl rfl rfl ?_
          refine sf_R_isub pm_M289 (pc' := 22) rfl rfl B46 sf_k1 (by decide) (by decide) (fun z49 e50 B51 => ?_)
          refine pm_R_cs pm_M289 (pc' := 25) (ra := [.int z49, .int 0, .int a2]) (rest := []) (ls' := [.int a2, .int 0, .int z49]) rfl rfl (Or.inl rfl) pm_M174 rfl rfl (Nat.le_of_ble_eq_true rfl) rfl rfl ?_
          refine pm_R_lo pm_M174 (pc' := 1) rfl rfl rfl ?_
          refine pm_R_lo pm_M174 (pc' := 2) rfl rfl rfl ?_
          refine pm_R_icmp pm_M174 (t := 14) (pc' := 5) rfl rfl rfl (fun c52 => ?_) (fun c52 => ?_)
          · have B53 : sf_B (-2147483648) (-1) a2 := sf_ltL c52 (sf_any a2) sf_k0
            refine pm_R_op pm_M174 (pc' := 15) (st' := [.int 0]) rfl rfl rfl ?_
            refine pm_R_ret pm_M174 (r := some (.int 0)) rfl rfl ?_
            show pm_R _ 289 25 [.ref 41, .int a0, .int a1, .int a2, .int a3, pm_no, pm_no] [.int 0] _ _
            refine pm_R_br pm_M289 (pc' := 43) (st' := []) rfl rfl ?_
            refine pm_R_op pm_M289 (pc' := 44) (st' := [.int (-1)]) rfl rfl rfl ?_
            exact pm_R_ret pm_M289 (r := some (.int (-1))) rfl rfl (K (-1) m40 w41 h42 T43 F47 W48)
          · have B54 : sf_B 0 2147483647 a2 := sf_leR (Int32.not_lt.mp c52) sf_k0 (sf_any a2)
            refine pm_R_lo pm_M174 (pc' := 6) rfl rfl rfl ?_
            refine pm_R_lo pm_M174 (pc' := 7) rfl rfl rfl ?_
            refine pm_R_icmp pm_M174 (t := 14) (pc' := 10) rfl rfl rfl (fun c55 => ?_) (fun c55 => ?_)
            · have B56 : sf_B 1 2147483647 a2 := sf_ltR c55 B51 B54
              refine pm_R_op pm_M174 (pc' := 15) (st' := [.int 0]) rfl rfl rfl ?_
              refine pm_R_ret pm_M174 (r := some (.int 0)) rfl rfl ?_
              show pm_R _ 289 25 [.ref 41, .int a0, .int a1, .int a2, .int a3, pm_no, pm_no] [.int 0] _ _
              refine pm_R_br pm_M289 (pc' := 43) (st' := []) rfl rfl ?_
              refine pm_R_op pm_M289 (pc' := 44) (st' := [.int (-1)]) rfl rfl rfl ?_
              exact pm_R_ret pm_M289 (r := some (.int (-1))) rfl rfl (K (-1) m40 w41 h42 T43 F47 W48)
            · have B57 : sf_B 0 11 a2 := sf_leL (Int32.not_lt.mp c55) B54 B51
              refine pm_R_op pm_M174 (pc' := 11) (st' := [.int 1]) rfl rfl rfl ?_
              refine pm_R_br pm_M174 (pc' := 15) rfl rfl ?_
              refine pm_R_ret pm_M174 (r := some (.int 1)) rfl rfl ?_
              show pm_R _ 289 25 [.ref 41, .int a0, .int a1, .int a2, .int a3, pm_no, pm_no] [.int 1] _ _
              refine pm_R_br pm_M289 (pc' := 28) (st' := []) rfl rfl ?_
              refine pm_R_lo pm_M289 (pc' := 30) rfl rfl rfl ?_
              refine pm_R_lo pm_M289 (pc' := 31) rfl rfl rfl ?_
              refine pm_R_lo pm_M289 (pc' := 32) rfl rfl rfl ?_
              refine rf_R_get pm_M289 T43 (pc' := 35) (v := .int (m40 24)) rfl rfl rfl rfl ?_
              refine pm_R_op pm_M289 (pc' := 36) (st' := [.int 1, .int (m40 24), .int a2, .int a3]) rfl rfl rfl ?_
              refine sf_R_isub pm_M289 (pc' := 37) rfl rfl B46 sf_k1 (by decide) (by decide) (fun z58 e59 B60 => ?_)
              refine pm_R_cs pm_M289 (pc' := 40) (ra := [.int z58, .int a2, .int a3]) (rest := []) (ls' := [.int a3, .int a2, .int z58]) rfl rfl (Or.inl rfl) pm_M174 rfl rfl (Nat.le_of_ble_eq_true rfl) rfl rfl ?_
              refine pm_R_lo pm_M174 (pc' := 1) rfl rfl rfl ?_
              refine pm_R_lo pm_M174 (pc' := 2) rfl rfl rfl ?_
              refine pm_R_icmp pm_M174 (t := 14) (pc' := 5) rfl rfl rfl (fun c61 => ?_) (fun c61 => ?_)
              · have B62 : sf_B (-2147483648) 10 a3 := sf_ltL c61 (sf_any a3) B57
                refine pm_R_op pm_M174 (pc' := 15) (st' := [.int 0]) rfl rfl rfl ?_
                refine pm_R_ret pm_M174 (r := some (.int 0)) rfl rfl ?_
                show pm_R _ 289 40 [.ref 41, .int a0, .int a1, .int a2, .int a3, pm_no, pm_no] [.int 0] _ _
                refine pm_R_br pm_M289 (pc' := 43) (st' := []) rfl rfl ?_
                refine pm_R_op pm_M289 (pc' := 44) (st' := [.int (-1)]) rfl rfl rfl ?_
                exact pm_R_ret pm_M289 (r := some (.int (-1))) rfl rfl (K (-1) m40 w41 h42 T43 F47 W48)
              · have B63 : sf_B 0 2147483647 a3 := sf_leR (Int32.not_lt.mp c61) B57 (sf_any a3)
                refine pm_R_lo pm_M174 (pc' := 6) rfl rfl rfl ?_
                refine pm_R_lo pm_M174 (pc' := 7) rfl rfl rfl ?_
                refine pm_R_icmp pm_M174 (t := 14) (pc' := 10) rfl rfl rfl (fun c64 => ?_) (fun c64 => ?_)
                · have B65 : sf_B 1 2147483647 a3 := sf_ltR c64 B60 B63
                  refine pm_R_op pm_M174 (pc' := 15) (st' := [.int 0]) rfl rfl rfl ?_
                  refine pm_R_ret pm_M174 (r := some (.int 0)) rfl rfl ?_
                  show pm_R _ 289 40 [.ref 41, .int a0, .int a1, .int a2, .int a3, pm_no, pm_no] [.int 0] _ _
                  refine pm_R_br pm_M289 (pc' := 43) (st' := []) rfl rfl ?_
                  refine pm_R_op pm_M289 (pc' := 44) (st' := [.int (-1)]) rfl rfl rfl ?_
                  exact pm_R_ret pm_M289 (r := some (.int (-1))) rfl rfl (K (-1) m40 w41 h42 T43 F47 W48)
                · have B66 : sf_B 0 11 a3 := sf_leL (Int32.not_lt.mp c64) B63 B60
                  refine pm_R_op pm_M174 (pc' := 11) (st' := [.int 1]) rfl rfl rfl ?_
                  refine pm_R_br pm_M174 (pc' := 15) rfl rfl ?_
                  refine pm_R_ret pm_M174 (r := some (.int 1)) rfl rfl ?_
                  show pm_R _ 289 40 [.ref 41, .int a0, .int a1, .int a2, .int a3, pm_no, pm_no] [.int 1] _ _
                  refine pm_R_br pm_M289 (pc' := 45) (st' := []) rfl rfl ?_
                  refine pm_R_lo pm_M289 (pc' := 46) rfl rfl rfl ?_
                  refine pm_R_cv pm_M289 (pc' := 49) (a := 41) (ra := []) (rest := []) (ls' := [.ref 41, pm_no, pm_no, pm_no, pm_no, pm_no]) rfl rfl (Or.inl rfl) pm_M216 T43.2.1 rfl (by decide) (Nat.lt_of_lt_of_le (by decide) T43.1) rfl rfl (Nat.le_of_ble_eq_true rfl) rfl rfl ?_
                  refine rf_c216 (d := d + 0) T43  (fun m69 w70 h71 T72 F73 W74 => ?_)
                  have F75 := F47.trans F73 (by decide)
                  have B76 : sf_B 1 12 (m69 24) := by rw [W74 24 (by decide)]; exact B46
                  have W77 : rf_W [0, 23, 24, 26] m m69 := W48.trans W74 (by decide)
                  show pm_R _ 289 49 [.ref 41, .int a0, .int a1, .int a2, .int a3, pm_no, pm_no] [] _ _
                  refine pm_R_op pm_M289 (pc' := 50) (st' := [.int 0]) rfl rfl rfl ?_
                  refine pm_R_lo pm_M289 (pc' := 52) (ls' := [.ref 41, .int a0, .int a1, .int a2, .int a3, .int 0, pm_no]) (st' := []) rfl rfl rfl ?_
                  refine pm_R_op pm_M289 (pc' := 53) (st' := [.int 0]) rfl rfl rfl ?_
                  refine pm_R_lo pm_M289 (pc' := 55) (ls' := [.ref 41, .int a0, .int a1, .int a2, .int a3, .int 0, .int 0]) (st' := []) rfl rfl rfl ?_
                  have L_297 : ∀ (N : Nat) (x5_297 : Int32) (x6_297 : Int32), sf_B (-2147483648) 2147483647 x5_297 → sf_B 0 6 x6_297 → (6 - x6_297.toInt).toNat = N → pm_R (d + 5) 289 55 [.ref 41, .int a0, .int a1, .int a2, .int a3, .int x5_297, .int x6_297] [] h71 Q := by
                    intro N
                    induction N using Nat.strongRecOn with
                    | ind N ih_297 =>
                      intro x5_297 x6_297 Bx5_297 Bx6_297 hN_297
                      refine pm_R_lo pm_M289 (pc' := 57) rfl rfl rfl ?_
                      refine pm_R_op pm_M289 (pc' := 59) (st' := [.int 6, .int x6_297]) rfl rfl rfl ?_
                      refine pm_R_icmp pm_M289 (t := 99) (pc' := 62) rfl rfl rfl (fun c298 => ?_) (fun c298 => ?_)
                      · have B299 : sf_B 6 6 x6_297 := sf_leR c298 sf_k6 Bx6_297
                        refine pm_R_lo pm_M289 (pc' := 101) rfl rfl rfl ?_
                        exact pm_R_ret pm_M289 (r := some (.int x5_297)) rfl (pm_ret_i _) (K x5_297 m69 w70 h71 T72 F75 W77)
                      · have B300 : sf_B 0 5 x6_297 := sf_ltL (Int32.not_le.mp c298) Bx6_297 sf_k6
                        refine pm_R_lo pm_M289 (pc' := 64) rfl rfl rfl ?_
                        refine pm_R_lo pm_M289 (pc' := 65) rfl rfl rfl ?_
                        refine rf_R_get pm_M289 T72 (pc' := 68) (v := .ref 54) rfl rfl rfl rfl ?_
                        refine pm_R_lo pm_M289 (pc' := 70) rfl rfl rfl ?_
                        refine pm_R_lo pm_M289 (pc' := 71) rfl rfl rfl ?_
                        refine pm_R_lo pm_M289 (pc' := 73) rfl rfl rfl ?_
                        refine pm_R_cs pm_M289 (pc' := 76) (ra := [.int a3, .int a2, .int x6_297]) (rest := [.ref 54, .int x5_297]) (ls' := [.int x6_297, .int a2, .int a3]) rfl rfl (Or.inl rfl) pm_M207 rfl rfl (Nat.le_of_ble_eq_true rfl) rfl rfl ?_
                        refine pm_R_op pm_M207 (pc' := 3) (st' := [.int 144]) rfl rfl rfl ?_
                        refine pm_R_lo pm_M207 (pc' := 4) rfl rfl rfl ?_
                        refine sf_R_imul pm_M207 (pc' := 5) rfl rfl sf_k144 B300 (by decide) (by decide) (by decide) (fun z301 e302 B303 => ?_)
                        refine pm_R_op pm_M207 (pc' := 7) (st' := [.int 12, .int z301]) rfl rfl rfl ?_
                        refine pm_R_lo pm_M207 (pc' := 8) rfl rfl rfl ?_
                        refine sf_R_imul pm_M207 (pc' := 9) rfl rfl sf_k12 B57 (by decide) (by decide) (by decide) (fun z304 e305 B306 => ?_)
                        refine sf_R_iadd pm_M207 (pc' := 10) rfl rfl B303 B306 (by decide) (by decide) (fun z307 e308 B309 => ?_)
                        refine pm_R_lo pm_M207 (pc' := 11) rfl rfl rfl ?_
                        refine sf_R_iadd pm_M207 (pc' := 12) rfl rfl B309 B66 (by decide) (by decide) (fun z310 e311 B312 => ?_)
                        refine pm_R_ret pm_M207 (r := some (.int z310)) rfl (pm_ret_i _) ?_
                        show pm_R _ 289 76 [.ref 41, .int a0, .int a1, .int a2, .int a3, .int x5_297, .int x6_297] [.int z310, .ref 54, .int x5_297] _ _
                        obtain ⟨f313, e314⟩ := T72.2.2.2.1 54 (by decide) (by decide)
                        refine rf_R_lld pm_M289 T72 (pc' := 77) rfl e314 (by decide) (by decide) (sf_in B312 (by decide) (by decide)) rfl (fun z316 ez317 => ?_)
                        refine pm_R_op pm_M289 (pc' := 78) (st' := [.long 0, .long z316, .int x5_297]) rfl rfl rfl ?_
                        refine sf_R_lcmp pm_M289 (pc' := 79) rfl rfl (fun z318 e319 => ?_)
                        refine pm_R_ifc pm_M289 (t := 89) (pc' := 82) rfl rfl rfl (fun c320 => ?_) (fun c320 => ?_)
                        · have B321 : sf_B 0 0 z318 := sf_eqL c320 sf_k0
                          refine pm_R_op pm_M289 (pc' := 90) (st' := [.int 0, .int x5_297]) rfl rfl rfl ?_
                          refine sf_R_iany pm_M289 (pc' := 91) (st := []) rfl rfl rfl (fun z325 => ?_)
                          refine pm_R_lo pm_M289 (pc' := 93) (ls' := [.ref 41, .int a0, .int a1, .int a2, .int a3, .int z325, .int x6_297]) (st' := []) rfl rfl rfl ?_
                          refine sf_R_iinc pm_M289 (pc' := 96) (ls' := fun z => [.ref 41, .int a0, .int a1, .int a2, .int a3, .int z325, .int z]) rfl B300 rfl (by decide) (by decide) (by decide) (fun _ => rfl) rfl (fun z326 e327 B328 => ?_)
                          show pm_R _ 289 96 [.ref 41, .int a0, .int a1, .int a2, .int a3, .int z325, .int z326] [] _ _
                          refine pm_R_br pm_M289 (pc' := 55) rfl rfl ?_
                          exact ih_297 _ (sf_up hN_297 e327 B300 (by decide) (by decide)) z325 z326 (sf_any z325) (sf_weak B328 (by decide) (by decide)) rfl
                        · have k329 := sf_lneC e319 c320
                          refine pm_R_op pm_M289 (pc' := 83) (st' := [.int 1, .int x5_297]) rfl rfl rfl ?_
                          refine pm_R_lo pm_M289 (pc' := 85) rfl rfl rfl ?_
                          refine sf_R_iany pm_M289 (pc' := 86) (st := [.int x5_297]) rfl rfl rfl (fun z333 => ?_)
                          refine pm_R_br pm_M289 (pc' := 90) rfl rfl ?_
                          refine sf_R_iany pm_M289 (pc' := 91) (st := []) rfl rfl rfl (fun z337 => ?_)
                          refine pm_R_lo pm_M289 (pc' := 93) (ls' := [.ref 41, .int a0, .int a1, .int a2, .int a3, .int z337, .int x6_297]) (st' := []) rfl rfl rfl ?_
                          refine sf_R_iinc pm_M289 (pc' := 96) (ls' := fun z => [.ref 41, .int a0, .int a1, .int a2, .int a3, .int z337, .int z]) rfl B300 rfl (by decide) (by decide) (by decide) (fun _ => rfl) rfl (fun z338 e339 B340 => ?_)
                          show pm_R _ 289 96 [.ref 41, .int a0, .int a1, .int a2, .int a3, .int z337, .int z338] [] _ _
                          refine pm_R_br pm_M289 (pc' := 55) rfl rfl ?_
                          exact ih_297 _ (sf_up hN_297 e339 B300 (by decide) (by decide)) z337 z338 (sf_any z337) (sf_weak B340 (by decide) (by decide)) rfl
                  exact L_297 _ 0 0 (sf_weak sf_k0 (by decide) (by decide)) (sf_weak sf_k0 (by decide) (by decide)) rfl

set_option maxRecDepth 100000 in
set_option maxHeartbeats 4000000 in
/-- SilentTableModel.asks -/
theorem rf_c290 {d : Nat} {m : Nat → Int32} {w : Int64} {h : pm_H} {Q : Option Value → pm_H → Prop} {a0 : Int32} {a1 : Int32} {a2 : Int32} {a3 : Int32} {a4 : Int32} {a5 : Int32} (T : rf_T m w h)  (K : ∀ (r : Int32) (m' : Nat → Int32) (w' : Int64) (h' : pm_H), rf_T m' w' h' → rf_G [41, 53, 54, 55, 66, 67, 68] h h' → rf_W [0, 23, 24, 26, 42, 43, 44] m m' → sf_B (-1) 9 r → Q (some (.int r)) h') : pm_R (d + 9) 290 0 [.ref 41, .int a0, .int a1, .int a2, .int a3, .int a4, .int a5, pm_no] [] h Q := by
  refine pm_R_lo pm_M290 (pc' := 1) rfl rfl rfl ?_
  refine pm_R_op pm_M290 (pc' := 2) (st' := [.int 0, .ref 41]) rfl rfl rfl ?_
  refine rf_R_put pm_M290 T (pc' := 5) rfl rfl rfl (by decide) rfl rfl sf_k0 rfl rfl (fun h1 m4 em5 T2 F3 => ?_)
  have F6 := (rf_G.refl [41, 53, 54, 55, 66, 67, 68] h).trans F3 (by decide)
  have B7 : sf_B 0 0 (m4 0) := by rw [em5]; exact sf_k0
  have W9 : rf_W [0, 23, 24, 26, 42, 43, 44] m m4 := by rw [em5]; exact (rf_W.refl [0, 23, 24, 26, 42, 43, 44] m).put (by decide)
  refine pm_R_lo pm_M290 (pc' := 6) rfl rfl rfl ?_
  refine pm_R_lo pm_M290 (pc' := 7) rfl rfl rfl ?_
  refine pm_R_lo pm_M290 (pc' := 9) rfl rfl rfl ?_
  refine pm_R_lo pm_M290 (pc' := 11) rfl rfl rfl ?_
  refine pm_R_cv pm_M290 (pc' := 14) (a := 41) (ra := [.int a4, .int a3, .int a2]) (rest := []) (ls' := [.ref 41, .int a2, .int a3, .int a4, pm_no, pm_no, pm_no, pm_no, pm_no]) rfl rfl (Or.inl rfl) pm_M266 T2.2.1 rfl (by decide) (Nat.lt_of_lt_of_le (by decide) T2.1) rfl rfl (Nat.le_of_ble_eq_true rfl) rfl rfl ?_
  refine rf_c266 (d := d + 5) T2  (fun r10 m12 w13 h14 T15 F16 W17 B11 => ?_)
  have F18 := F6.trans F16 (by decide)
  have W19 : rf_W [0, 23, 24, 26, 42, 43, 44] m m12 := W9.trans W17 (by decide)
  show pm_R _ 290 14 [.ref 41, .int a0, .int a1, .int a2, .int a3, .int a4, .int a5, pm_no] [.int r10] _ _
  refine pm_R_lo pm_M290 (pc' := 16) (ls' := [.ref 41, .int a0, .int a1, .int a2, .int a3, .int a4, .int a5, .int r10]) (st' := []) rfl rfl rfl ?_
  refine pm_R_lo pm_M290 (pc' := 18) rfl rfl rfl ?_
  refine pm_R_op pm_M290 (pc' := 19) (st' := [.int (-1), .int r10]) rfl rfl rfl ?_
  refine pm_R_icmp pm_M290 (t := 41) (pc' := 22) rfl rfl rfl (fun c20 => ?_) (fun c20 => ?_)
  · have B21 : sf_B (-1) (-1) r10 := sf_eqL c20 sf_kn1
    refine pm_R_op pm_M290 (pc' := 42) (st' := [.int (-1)]) rfl rfl rfl ?_
    exact pm_R_ret pm_M290 (r := some (.int (-1))) rfl rfl (K (-1) m12 w13 h14 T15 F18 W19 (sf_weak sf_kn1 (by decide) (by decide)))
  · have B22 : sf_B 0 5 r10 := sf_neL0 c20 sf_kn1 B11
    refine pm_R_lo pm_M290 (pc' := 23) rfl rfl rfl ?_
    refine pm_R_op pm_M290 (pc' := 24) (st' := [.int 0, .ref 41]) rfl rfl rfl ?_
    refine pm_R_lo pm_M290 (pc' := 25) rfl rfl rfl ?_
    refine pm_R_cv pm_M290 (pc' := 28) (a := 41) (ra := [.int a0, .int 0]) (rest := []) (ls' := [.ref 41, .int 0, .int a0]) rfl rfl (Or.inl rfl) pm_M177 T15.2.1 rfl (by decide) (Nat.lt_of_lt_of_le (by decide) T15.1) rfl rfl (Nat.le_of_ble_eq_true rfl) rfl rfl ?_
    refine pm_R_lo pm_M177 (pc' := 1) rfl rfl rfl ?_
    refine pm_R_op pm_M177 (pc' := 2) (st' := [.int 0, .int a0]) rfl rfl rfl ?_
    refine pm_R_lo pm_M177 (pc' := 3) rfl rfl rfl ?_
    refine rf_R_get pm_M177 T15 (pc' := 6) (v := .ref 46) rfl rfl rfl rfl ?_
    refine pm_R_lo pm_M177 (pc' := 7) rfl rfl rfl ?_
    obtain ⟨f23, e24, b25⟩ := T15.2.2.2.1 46 (by decide) (by decide)
    refine rf_R_ild pm_M177 T15 (pc' := 8) rfl e24 (by decide) rfl rfl (fun z26 ez27 => ?_)
    have B28 : sf_B 0 2 z26 := ez27 ▸ (b25 0)
    refine pm_R_op pm_M177 (pc' := 9) (st' := [.int 1, .int z26, .int 0, .int a0]) rfl rfl rfl ?_
    refine sf_R_isub pm_M177 (pc' := 10) rfl rfl B28 sf_k1 (by decide) (by decide) (fun z29 e30 B31 => ?_)
    refine pm_R_cs pm_M177 (pc' := 13) (ra := [.int z29, .int 0, .int a0]) (rest := []) (ls' := [.int a0, .int 0, .int z29]) rfl rfl (Or.inl rfl) pm_M174 rfl rfl (Nat.le_of_ble_eq_true rfl) rfl rfl ?_
    refine pm_R_lo pm_M174 (pc' := 1) rfl rfl rfl ?_
    refine pm_R_lo pm_M174 (pc' := 2) rfl rfl rfl ?_
    refine pm_R_icmp pm_M174 (t := 14) (pc' := 5) rfl rfl rfl (fun c32 => ?_) (fun c32 => ?_)
    · have B33 : sf_B (-2147483648) (-1) a0 := sf_ltL c32 (sf_any a0) sf_k0
      refine pm_R_op pm_M174 (pc' := 15) (st' := [.int 0]) rfl rfl rfl ?_
      refine pm_R_ret pm_M174 (r := some (.int 0)) rfl rfl ?_
      show pm_R _ 177 13 [.ref 41, .int 0, .int a0] [.int 0] _ _
      refine pm_R_ret pm_M177 (r := some (.int 0)) rfl rfl ?_
      show pm_R _ 290 28 [.ref 41, .int a0, .int a1, .int a2, .int a3, .int a4, .int a5, .int r10] [.int 0] _ _
      refine pm_R_br pm_M290 (pc' := 41) (st' := []) rfl rfl ?_
      refine pm_R_op pm_M290 (pc' := 42) (st' := [.int (-1)]) rfl rfl rfl ?_
      exact pm_R_ret pm_M290 (r := some (.int (-1))) rfl rfl (K (-1) m12 w13 h14 T15 F18 W19 (sf_weak sf_kn1 (by decide) (by decide)))
    · have B34 : sf_B 0 2147483647 a0 := sf_leR (Int32.not_lt.mp c32) sf_k0 (sf_any a0)
      refine pm_R_lo pm_M174 (pc' := 6) rfl rfl rfl ?_
      refine pm_R_lo pm_M174 (pc' := 7) rfl rfl rfl ?_
      refine pm_R_icmp pm_M174 (t := 14) (pc' := 10) rfl rfl rfl (fun c35 => ?_) (fun c35 => ?_)
      · skip
        refine pm_R_op pm_M174 (pc' := 15) (st' := [.int 0]) rfl rfl rfl ?_
        refine pm_R_ret pm_M174 (r := some (.int 0)) rfl rfl ?_
        show pm_R _ 177 13 [.ref 41, .int 0, .int a0] [.int 0] _ _
        refine pm_R_ret pm_M177 (r := some (.int 0)) rfl rfl ?_
        show pm_R _ 290 28 [.ref 41, .int a0, .int a1, .int a2, .int a3, .int a4, .int a5, .int r10] [.int 0] _ _
        refine pm_R_br pm_M290 (pc' := 41) (st' := []) rfl rfl ?_
        refine pm_R_op pm_M290 (pc' := 42) (st' := [.int (-1)]) rfl rfl rfl ?_
        exact pm_R_ret pm_M290 (r := some (.int (-1))) rfl rfl (K (-1) m12 w13 h14 T15 F18 W19 (sf_weak sf_kn1 (by decide) (by decide)))
      · have B36 : sf_B 0 1 a0 := sf_leL (Int32.not_lt.mp c35) B34 B31
        have B37 : sf_B 0 1 z29 := sf_leR (Int32.not_lt.mp c35) B34 B31
        refine pm_R_op pm_M174 (pc' := 11) (st' := [.int 1]) rfl rfl rfl ?_
        refine pm_R_br pm_M174 (pc' := 15) rfl rfl ?_
        refine pm_R_ret pm_M174 (r := some (.int 1)) rfl rfl ?_
        show pm_R _ 177 13 [.ref 41, .int 0, .int a0] [.int 1] _ _
        refine pm_R_ret pm_M177 (r := some (.int 1)) rfl rfl ?_
        show pm_R _ 290 28 [.ref 41, .int a0, .int a1, .int a2, .int a3, .int a4, .int a5, .int r10] [.int 1] _ _
        refine pm_R_br pm_M290 (pc' := 31) (st' := []) rfl rfl ?_
        refine pm_R_lo pm_M290 (pc' := 32) rfl rfl rfl ?_
        refine pm_R_op pm_M290 (pc' := 33) (st' := [.int 0, .int a1]) rfl rfl rfl ?_
        refine pm_R_op pm_M290 (pc' := 35) (st' := [.int 49, .int 0, .int a1]) rfl rfl rfl ?_
        refine pm_R_cs pm_M290 (pc' := 38) (ra := [.int 49, .int 0, .int a1]) (rest := []) (ls' := [.int a1, .int 0, .int 49]) rfl rfl (Or.inl rfl) pm_M174 rfl rfl (Nat.le_of_ble_eq_true rfl) rfl rfl ?_
        refine pm_R_lo pm_M174 (pc' := 1) rfl rfl rfl ?_
        refine pm_R_lo pm_M174 (pc' := 2) rfl rfl rfl ?_
        refine pm_R_icmp pm_M174 (t := 14) (pc' := 5) rfl rfl rfl (fun c38 => ?_) (fun c38 => ?_)
        · have B39 : sf_B (-2147483648) (-1) a1 := sf_ltL c38 (sf_any a1) sf_k0
          refine pm_R_op pm_M174 (pc' := 15) (st' := [.int 0]) rfl rfl rfl ?_
          refine pm_R_ret pm_M174 (r := some (.int 0)) rfl rfl ?_
          show pm_R _ 290 38 [.ref 41, .int a0, .int a1, .int a2, .int a3, .int a4, .int a5, .int r10] [.int 0] _ _
          refine pm_R_br pm_M290 (pc' := 41) (st' := []) rfl rfl ?_
          refine pm_R_op pm_M290 (pc' := 42) (st' := [.int (-1)]) rfl rfl rfl ?_
          exact pm_R_ret pm_M290 (r := some (.int (-1))) rfl rfl (K (-1) m12 w13 h14 T15 F18 W19 (sf_weak sf_kn1 (by decide) (by decide)))
        · have B40 : sf_B 0 2147483647 a1 := sf_leR (Int32.not_lt.mp c38) sf_k0 (sf_any a1)
          refine pm_R_lo pm_M174 (pc' := 6) rfl rfl rfl ?_
          refine pm_R_lo pm_M174 (pc' := 7) rfl rfl rfl ?_
          refine pm_R_icmp pm_M174 (t := 14) (pc' := 10) rfl rfl rfl (fun c41 => ?_) (fun c41 => ?_)
          · have B42 : sf_B 50 2147483647 a1 := sf_ltR c41 sf_k49 B40
            refine pm_R_op pm_M174 (pc' := 15) (st' := [.int 0]) rfl rfl rfl ?_
            refine pm_R_ret pm_M174 (r := some (.int 0)) rfl rfl ?_
            show pm_R _ 290 38 [.ref 41, .int a0, .int a1, .int a2, .int a3, .int a4, .int a5, .int r10] [.int 0] _ _
            refine pm_R_br pm_M290 (pc' := 41) (st' := []) rfl rfl ?_
            refine pm_R_op pm_M290 (pc' := 42) (st' := [.int (-1)]) rfl rfl rfl ?_
            exact pm_R_ret pm_M290 (r := some (.int (-1))) rfl rfl (K (-1) m12 w13 h14 T15 F18 W19 (sf_weak sf_kn1 (by decide) (by decide)))
          · have B43 : sf_B 0 49 a1 := sf_leL (Int32.not_lt.mp c41) B40 sf_k49
            refine pm_R_op pm_M174 (pc' := 11) (st' := [.int 1]) rfl rfl rfl ?_
            refine pm_R_br pm_M174 (pc' := 15) rfl rfl ?_
            refine pm_R_ret pm_M174 (r := some (.int 1)) rfl rfl ?_
            show pm_R _ 290 38 [.ref 41, .int a0, .int a1, .int a2, .int a3, .int a4, .int a5, .int r10] [.int 1] _ _
            refine pm_R_br pm_M290 (pc' := 43) (st' := []) rfl rfl ?_
            refine pm_R_lo pm_M290 (pc' := 44) rfl rfl rfl ?_
            refine pm_R_lo pm_M290 (pc' := 45) rfl rfl rfl ?_
            refine rf_R_put pm_M290 T15 (pc' := 48) rfl rfl rfl (by decide) rfl rfl B36 rfl rfl (fun h44 m47 em48 T45 F46 => ?_)
            have F49 := F18.trans F46 (by decide)
            have B50 : sf_B 0 1 (m47 23) := by rw [em48]; exact B36
            have ek51 : (m47 23).toInt = (a0).toInt := by rw [em48]; rfl
            have W52 : rf_W [0, 23, 24, 26, 42, 43, 44] m m47 := by rw [em48]; exact W19.put (by decide)
            refine pm_R_lo pm_M290 (pc' := 49) rfl rfl rfl ?_
            refine pm_R_lo pm_M290 (pc' := 50) rfl rfl rfl ?_
            refine pm_R_lo pm_M290 (pc' := 52) rfl rfl rfl ?_
            refine pm_R_op pm_M290 (pc' := 53) (st' := [.int 1, .int r10, .int a1, .ref 41]) rfl rfl rfl ?_
            refine sf_R_isub pm_M290 (pc' := 54) rfl rfl B22 sf_k1 (by decide) (by decide) (fun z53 e54 B55 => ?_)
            refine pm_R_cv pm_M290 (pc' := 57) (a := 41) (ra := [.int z53, .int a1]) (rest := []) (ls' := [.ref 41, .int a1, .int z53, pm_no, pm_no]) rfl rfl (Or.inl rfl) pm_M241 T45.2.1 rfl (by decide) (Nat.lt_of_lt_of_le (by decide) T45.1) rfl rfl (Nat.le_of_ble_eq_true rfl) rfl rfl ?_
            refine rf_c241 (d := d + 0) T45 B43 (sf_weak B55 (by decide) (by decide)) (fun r56 m58 w59 h60 T61 F62 W63 B57 => ?_)
            have F64 := F49.trans F62 (by decide)
            have W65 : rf_W [0, 23, 24, 26, 42, 43, 44] m m58 := W52.trans W63 (by decide)
            show pm_R _ 290 57 [.ref 41, .int a0, .int a1, .int a2, .int a3, .int a4, .int a5, .int r10] [.int r56] _ _
            refine pm_R_ifc pm_M290 (t := 69) (pc' := 60) rfl rfl rfl (fun c66 => ?_) (fun c66 => ?_)
            · have B67 : sf_B 0 0 r56 := sf_eqL c66 sf_k0
              refine pm_R_op pm_M290 (pc' := 70) (st' := [.int (-1)]) rfl rfl rfl ?_
              exact pm_R_ret pm_M290 (r := some (.int (-1))) rfl rfl (K (-1) m58 w59 h60 T61 F64 W65 (sf_weak sf_kn1 (by decide) (by decide)))
            · have B68 : sf_B 1 1 r56 := sf_neL0 c66 sf_k0 B57
              refine pm_R_lo pm_M290 (pc' := 61) rfl rfl rfl ?_
              refine pm_R_lo pm_M290 (pc' := 63) rfl rfl rfl ?_
              refine pm_R_cv pm_M290 (pc' := 66) (a := 41) (ra := [.int a5]) (rest := []) (ls' := [.ref 41, .int a5]) rfl rfl (Or.inl rfl) pm_M246 T61.2.1 rfl (by decide) (Nat.lt_of_lt_of_le (by decide) T61.1) rfl rfl (Nat.le_of_ble_eq_true rfl) rfl rfl ?_
              refine pm_R_lo pm_M246 (pc' := 1) rfl rfl rfl ?_
              refine pm_R_op pm_M246 (pc' := 2) (st' := [.int 0, .int a5]) rfl rfl rfl ?_
              refine pm_R_lo pm_M246 (pc' := 3) rfl rfl rfl ?_
              refine rf_R_get pm_M246 T61 (pc' := 6) (v := .ref 66) rfl rfl rfl rfl ?_
              refine pm_R_op pm_M246 (pc' := 7) (st' := [.int 0, .ref 66, .int 0, .int a5]) rfl rfl rfl ?_
              obtain ⟨f69, e70, b71⟩ := T61.2.2.2.1 66 (by decide) (by decide)
              refine rf_R_ild pm_M246 T61 (pc' := 8) rfl e70 (by decide) rfl rfl (fun z72 ez73 => ?_)
              have B74 : sf_B 0 4 z72 := ez73 ▸ (b71 0)
              refine pm_R_cs pm_M246 (pc' := 11) (ra := [.int z72, .int 0, .int a5]) (rest := []) (ls' := [.int a5, .int 0, .int z72]) rfl rfl (Or.inl rfl) pm_M174 rfl rfl (Nat.le_of_ble_eq_true rfl) rfl rfl ?_
              refine pm_R_lo pm_M174 (pc' := 1) rfl rfl rfl ?_
              refine pm_R_lo pm_M174 (pc' := 2) rfl rfl rfl ?_
              refine pm_R_icmp pm_M174 (t := 14) (pc' := 5) rfl rfl rfl (fun c75 => ?_) (fun c75 => ?_)
              · have B76 : sf_B (-2147483648) (-1) a5 := sf_ltL c75 (sf_any a5) sf_k0
                refine pm_R_op pm_M174 (pc' := 15) (st' := [.int 0]) rfl rfl rfl ?_
                refine pm_R_ret pm_M174 (r := some (.int 0)) rfl rfl ?_
                show pm_R _ 246 11 [.ref 41, .int a5] [.int 0] _ _
                refine pm_R_br pm_M246 (pc' := 23) (st' := []) rfl rfl ?_
                refine pm_R_op pm_M246 (pc' := 24) (st' := [.int (-1)]) rfl rfl rfl ?_
                refine pm_R_ret pm_M246 (r := some (.int (-1))) rfl rfl ?_
                show pm_R _ 290 66 [.ref 41, .int a0, .int a1, .int a2, .int a3, .int a4, .int a5, .int r10] [.int (-1)] _ _
                refine pm_R_br pm_M290 (pc' := 70) rfl rfl ?_
                exact pm_R_ret pm_M290 (r := some (.int (-1))) rfl rfl (K (-1) m58 w59 h60 T61 F64 W65 (sf_weak sf_kn1 (by decide) (by decide)))
              · have B77 : sf_B 0 2147483647 a5 := sf_leR (Int32.not_lt.mp c75) sf_k0 (sf_any a5)
                refine pm_R_lo pm_M174 (pc' := 6) rfl rfl rfl ?_
                refine pm_R_lo pm_M174 (pc' := 7) rfl rfl rfl ?_
                refine pm_R_icmp pm_M174 (t := 14) (pc' := 10) rfl rfl rfl (fun c78 => ?_) (fun c78 => ?_)
                · have B79 : sf_B 1 2147483647 a5 := sf_ltR c78 B74 B77
                  refine pm_R_op pm_M174 (pc' := 15) (st' := [.int 0]) rfl rfl rfl ?_
                  refine pm_R_ret pm_M174 (r := some (.int 0)) rfl rfl ?_
                  show pm_R _ 246 11 [.ref 41, .int a5] [.int 0] _ _
                  refine pm_R_br pm_M246 (pc' := 23) (st' := []) rfl rfl ?_
                  refine pm_R_op pm_M246 (pc' := 24) (st' := [.int (-1)]) rfl rfl rfl ?_
                  refine pm_R_ret pm_M246 (r := some (.int (-1))) rfl rfl ?_
                  show pm_R _ 290 66 [.ref 41, .int a0, .int a1, .int a2, .int a3, .int a4, .int a5, .int r10] [.int (-1)] _ _
                  refine pm_R_br pm_M290 (pc' := 70) rfl rfl ?_
                  exact pm_R_ret pm_M290 (r := some (.int (-1))) rfl rfl (K (-1) m58 w59 h60 T61 F64 W65 (sf_weak sf_kn1 (by decide) (by decide)))
                · have B80 : sf_B 0 4 a5 := sf_leL (Int32.not_lt.mp c78) B77 B74
                  refine pm_R_op pm_M174 (pc' := 11) (st' := [.int 1]) rfl rfl rfl ?_
                  refine pm_R_br pm_M174 (pc' := 15) rfl rfl ?_
                  refine pm_R_ret pm_M174 (r := some (.int 1)) rfl rfl ?_
                  show pm_R _ 246 11 [.ref 41, .int a5] [.int 1] _ _
                  refine pm_R_br pm_M246 (pc' := 14) (st' := []) rfl rfl ?_
                  refine pm_R_lo pm_M246 (pc' := 15) rfl rfl rfl ?_
                  refine rf_R_get pm_M246 T61 (pc' := 18) (v := .ref 66) rfl rfl rfl rfl ?_
                  refine pm_R_lo pm_M246 (pc' := 19) rfl rfl rfl ?_
                  refine rf_R_ild pm_M246 T61 (pc' := 20) rfl e70 (by decide) (sf_in B80 (by decide) (by decide)) rfl (fun z81 ez82 => ?_)
                  have B83 : sf_B 0 9 z81 := ez82 ▸ (rf_p66 b71 _)
                  refine pm_R_br pm_M246 (pc' := 24) rfl rfl ?_
                  refine pm_R_ret pm_M246 (r := some (.int z81)) rfl (pm_ret_i _) ?_
                  show pm_R _ 290 66 [.ref 41, .int a0, .int a1, .int a2, .int a3, .int a4, .int a5, .int r10] [.int z81] _ _
                  refine pm_R_br pm_M290 (pc' := 70) rfl rfl ?_
                  exact pm_R_ret pm_M290 (r := some (.int z81)) rfl (pm_ret_i _) (K z81 m58 w59 h60 T61 F64 W65 (sf_weak B83 (by decide) (by decide)))

set_option maxRecDepth 100000 in
set_option maxHeartbeats 4000000 in
/-- SilentTableModel.like -/
theorem rf_c293 {d : Nat} {m : Nat → Int32} {w : Int64} {h : pm_H} {Q : Option Value → pm_H → Prop} {a0 : Int32} {a1 : Int32} {a2 : Int32} (T : rf_T m w h)  (K : ∀ (r : Int32) (m' : Nat → Int32) (w' : Int64) (h' : pm_H), rf_T m' w' h' → rf_G [41, 53, 54] h h' → rf_W [0, 23, 24, 26] m m' → sf_B (-1) 50 r → Q (some (.int r)) h') : pm_R (d + 6) 293 0 [.ref 41, .int a0, .int a1, .int a2, pm_no, pm_no] [] h Q := by
  refine pm_R_lo pm_M293 (pc' := 1) rfl rfl rfl ?_
  refine pm_R_op pm_M293 (pc' := 2) (st' := [.int 0, .ref 41]) rfl rfl rfl ?_
  refine rf_R_put pm_M293 T (pc' := 5) rfl rfl rfl (by decide) rfl rfl sf_k0 rfl rfl (fun h1 m4 em5 T2 F3 => ?_)
  have F6 := (rf_G.refl [41, 53, 54] h).trans F3 (by decide)
  have B7 : sf_B 0 0 (m4 0) := by rw [em5]; exact sf_k0
  have W9 : rf_W [0, 23, 24, 26] m m4 := by rw [em5]; exact (rf_W.refl [0, 23, 24, 26] m).put (by decide)
  refine pm_R_lo pm_M293 (pc' := 6) rfl rfl rfl ?_
  refine pm_R_lo pm_M293 (pc' := 7) rfl rfl rfl ?_
  refine pm_R_lo pm_M293 (pc' := 8) rfl rfl rfl ?_
  refine pm_R_cv pm_M293 (pc' := 11) (a := 41) (ra := [.int a1, .int a0]) (rest := []) (ls' := [.ref 41, .int a0, .int a1]) rfl rfl (Or.inl rfl) pm_M200 T2.2.1 rfl (by decide) (Nat.lt_of_lt_of_le (by decide) T2.1) rfl rfl (Nat.le_of_ble_eq_true rfl) rfl rfl ?_
  refine pm_R_lo pm_M200 (pc' := 1) rfl rfl rfl ?_
  refine pm_R_op pm_M200 (pc' := 2) (st' := [.int 0, .ref 41]) rfl rfl rfl ?_
  refine pm_R_lo pm_M200 (pc' := 3) rfl rfl rfl ?_
  refine pm_R_cv pm_M200 (pc' := 6) (a := 41) (ra := [.int a0, .int 0]) (rest := []) (ls' := [.ref 41, .int 0, .int a0]) rfl rfl (Or.inl rfl) pm_M177 T2.2.1 rfl (by decide) (Nat.lt_of_lt_of_le (by decide) T2.1) rfl rfl (Nat.le_of_ble_eq_true rfl) rfl rfl ?_
  refine pm_R_lo pm_M177 (pc' := 1) rfl rfl rfl ?_
  refine pm_R_op pm_M177 (pc' := 2) (st' := [.int 0, .int a0]) rfl rfl rfl ?_
  refine pm_R_lo pm_M177 (pc' := 3) rfl rfl rfl ?_
  refine rf_R_get pm_M177 T2 (pc' := 6) (v := .ref 46) rfl rfl rfl rfl ?_
  refine pm_R_lo pm_M177 (pc' := 7) rfl rfl rfl ?_
  obtain ⟨f10, e11, b12⟩ := T2.2.2.2.1 46 (by decide) (by decide)
  refine rf_R_ild pm_M177 T2 (pc' := 8) rfl e11 (by decide) rfl rfl (fun z13 ez14 => ?_)
  have B15 : sf_B 0 2 z13 := ez14 ▸ (b12 0)
  refine pm_R_op pm_M177 (pc' := 9) (st' := [.int 1, .int z13, .int 0, .int a0]) rfl rfl rfl ?_
  refine sf_R_isub pm_M177 (pc' := 10) rfl rfl B15 sf_k1 (by decide) (by decide) (fun z16 e17 B18 => ?_)
  refine pm_R_cs pm_M177 (pc' := 13) (ra := [.int z16, .int 0, .int a0]) (rest := []) (ls' := [.int a0, .int 0, .int z16]) rfl rfl (Or.inl rfl) pm_M174 rfl rfl (Nat.le_of_ble_eq_true rfl) rfl rfl ?_
  refine pm_R_lo pm_M174 (pc' := 1) rfl rfl rfl ?_
  refine pm_R_lo pm_M174 (pc' := 2) rfl rfl rfl ?_
  refine pm_R_icmp pm_M174 (t := 14) (pc' := 5) rfl rfl rfl (fun c19 => ?_) (fun c19 => ?_)
  · have B20 : sf_B (-2147483648) (-1) a0 := sf_ltL c19 (sf_any a0) sf_k0
    refine pm_R_op pm_M174 (pc' := 15) (st' := [.int 0]) rfl rfl rfl ?_
    refine pm_R_ret pm_M174 (r := some (.int 0)) rfl rfl ?_
    show pm_R _ 177 13 [.ref 41, .int 0, .int a0] [.int 0] _ _
    refine pm_R_ret pm_M177 (r := some (.int 0)) rfl rfl ?_
    show pm_R _ 200 6 [.ref 41, .int a0, .int a1] [.int 0] _ _
    refine pm_R_br pm_M200 (pc' := 18) (st' := []) rfl rfl ?_
    refine pm_R_op pm_M200 (pc' := 19) (st' := [.int 0]) rfl rfl rfl ?_
    refine pm_R_ret pm_M200 (r := some (.int 0)) rfl rfl ?_
    show pm_R _ 293 11 [.ref 41, .int a0, .int a1, .int a2, pm_no, pm_no] [.int 0] _ _
    refine pm_R_br pm_M293 (pc' := 23) (st' := []) rfl rfl ?_
    refine pm_R_op pm_M293 (pc' := 24) (st' := [.int (-1)]) rfl rfl rfl ?_
    exact pm_R_ret pm_M293 (r := some (.int (-1))) rfl rfl (K (-1) m4 w h1 T2 F6 W9 (sf_weak sf_kn1 (by decide) (by decide)))
  · have B21 : sf_B 0 2147483647 a0 := sf_leR (Int32.not_lt.mp c19) sf_k0 (sf_any a0)
    refine pm_R_lo pm_M174 (pc' := 6) rfl rfl rfl ?_
    refine pm_R_lo pm_M174 (pc' := 7) rfl rfl rfl ?_
    refine pm_R_icmp pm_M174 (t := 14) (pc' := 10) rfl rfl rfl (fun c22 => ?_) (fun c22 => ?_)
    · skip
      refine pm_R_op pm_M174 (pc' := 15) (st' := [.int 0]) rfl rfl rfl ?_
      refine pm_R_ret pm_M174 (r := some (.int 0)) rfl rfl ?_
      show pm_R _ 177 13 [.ref 41, .int 0, .int a0] [.int 0] _ _
      refine pm_R_ret pm_M177 (r := some (.int 0)) rfl rfl ?_
      show pm_R _ 200 6 [.ref 41, .int a0, .int a1] [.int 0] _ _
      refine pm_R_br pm_M200 (pc' := 18) (st' := []) rfl rfl ?_
      refine pm_R_op pm_M200 (pc' := 19) (st' := [.int 0]) rfl rfl rfl ?_
      refine pm_R_ret pm_M200 (r := some (.int 0)) rfl rfl ?_
      show pm_R _ 293 11 [.ref 41, .int a0, .int a1, .int a2, pm_no, pm_no] [.int 0] _ _
      refine pm_R_br pm_M293 (pc' := 23) (st' := []) rfl rfl ?_
      refine pm_R_op pm_M293 (pc' := 24) (st' := [.int (-1)]) rfl rfl rfl ?_
      exact pm_R_ret pm_M293 (r := some (.int (-1))) rfl rfl (K (-1) m4 w h1 T2 F6 W9 (sf_weak sf_kn1 (by decide) (by decide)))
    · have B23 : sf_B 0 1 a0 := sf_leL (Int32.not_lt.mp c22) B21 B18
      have B24 : sf_B 0 1 z16 := sf_leR (Int32.not_lt.mp c22) B21 B18
      refine pm_R_op pm_M174 (pc' := 11) (st' := [.int 1]) rfl rfl rfl ?_
      refine pm_R_br pm_M174 (pc' := 15) rfl rfl ?_
      refine pm_R_ret pm_M174 (r := some (.int 1)) rfl rfl ?_
      show pm_R _ 177 13 [.ref 41, .int 0, .int a0] [.int 1] _ _
      refine pm_R_ret pm_M177 (r := some (.int 1)) rfl rfl ?_
      show pm_R _ 200 6 [.ref 41, .int a0, .int a1] [.int 1] _ _
      refine pm_R_br pm_M200 (pc' := 9) (st' := []) rfl rfl ?_
      refine pm_R_lo pm_M200 (pc' := 10) rfl rfl rfl ?_
      refine pm_R_op pm_M200 (pc' := 11) (st' := [.int 1, .ref 41]) rfl rfl rfl ?_
      refine pm_R_lo pm_M200 (pc' := 12) rfl rfl rfl ?_
      refine pm_R_cv pm_M200 (pc' := 15) (a := 41) (ra := [.int a1, .int 1]) (rest := []) (ls' := [.ref 41, .int 1, .int a1]) rfl rfl (Or.inl rfl) pm_M177 T2.2.1 rfl (by decide) (Nat.lt_of_lt_of_le (by decide) T2.1) rfl rfl (Nat.le_of_ble_eq_true rfl) rfl rfl ?_
      refine pm_R_lo pm_M177 (pc' := 1) rfl rfl rfl ?_
      refine pm_R_op pm_M177 (pc' := 2) (st' := [.int 0, .int a1]) rfl rfl rfl ?_
      refine pm_R_lo pm_M177 (pc' := 3) rfl rfl rfl ?_
      refine rf_R_get pm_M177 T2 (pc' := 6) (v := .ref 46) rfl rfl rfl rfl ?_
      refine pm_R_lo pm_M177 (pc' := 7) rfl rfl rfl ?_
      refine rf_R_ild pm_M177 T2 (pc' := 8) rfl e11 (by decide) rfl rfl (fun z25 ez26 => ?_)
      have B27 : sf_B 0 3 z25 := ez26 ▸ (b12 1)
      refine pm_R_op pm_M177 (pc' := 9) (st' := [.int 1, .int z25, .int 0, .int a1]) rfl rfl rfl ?_
      refine sf_R_isub pm_M177 (pc' := 10) rfl rfl B27 sf_k1 (by decide) (by decide) (fun z28 e29 B30 => ?_)
      refine pm_R_cs pm_M177 (pc' := 13) (ra := [.int z28, .int 0, .int a1]) (rest := []) (ls' := [.int a1, .int 0, .int z28]) rfl rfl (Or.inl rfl) pm_M174 rfl rfl (Nat.le_of_ble_eq_true rfl) rfl rfl ?_
      refine pm_R_lo pm_M174 (pc' := 1) rfl rfl rfl ?_
      refine pm_R_lo pm_M174 (pc' := 2) rfl rfl rfl ?_
      refine pm_R_icmp pm_M174 (t := 14) (pc' := 5) rfl rfl rfl (fun c31 => ?_) (fun c31 => ?_)
      · have B32 : sf_B (-2147483648) (-1) a1 := sf_ltL c31 (sf_any a1) sf_k0
        refine pm_R_op pm_M174 (pc' := 15) (st' := [.int 0]) rfl rfl rfl ?_
        refine pm_R_ret pm_M174 (r := some (.int 0)) rfl rfl ?_
        show pm_R _ 177 13 [.ref 41, .int 1, .int a1] [.int 0] _ _
        refine pm_R_ret pm_M177 (r := some (.int 0)) rfl rfl ?_
        show pm_R _ 200 15 [.ref 41, .int a0, .int a1] [.int 0] _ _
        refine pm_R_br pm_M200 (pc' := 18) (st' := []) rfl rfl ?_
        refine pm_R_op pm_M200 (pc' := 19) (st' := [.int 0]) rfl rfl rfl ?_
        refine pm_R_ret pm_M200 (r := some (.int 0)) rfl rfl ?_
        show pm_R _ 293 11 [.ref 41, .int a0, .int a1, .int a2, pm_no, pm_no] [.int 0] _ _
        refine pm_R_br pm_M293 (pc' := 23) (st' := []) rfl rfl ?_
        refine pm_R_op pm_M293 (pc' := 24) (st' := [.int (-1)]) rfl rfl rfl ?_
        exact pm_R_ret pm_M293 (r := some (.int (-1))) rfl rfl (K (-1) m4 w h1 T2 F6 W9 (sf_weak sf_kn1 (by decide) (by decide)))
      · have B33 : sf_B 0 2147483647 a1 := sf_leR (Int32.not_lt.mp c31) sf_k0 (sf_any a1)
        refine pm_R_lo pm_M174 (pc' := 6) rfl rfl rfl ?_
        refine pm_R_lo pm_M174 (pc' := 7) rfl rfl rfl ?_
        refine pm_R_icmp pm_M174 (t := 14) (pc' := 10) rfl rfl rfl (fun c34 => ?_) (fun c34 => ?_)
        · skip
          refine pm_R_op pm_M174 (pc' := 15) (st' := [.int 0]) rfl rfl rfl ?_
          refine pm_R_ret pm_M174 (r := some (.int 0)) rfl rfl ?_
          show pm_R _ 177 13 [.ref 41, .int 1, .int a1] [.int 0] _ _
          refine pm_R_ret pm_M177 (r := some (.int 0)) rfl rfl ?_
          show pm_R _ 200 15 [.ref 41, .int a0, .int a1] [.int 0] _ _
          refine pm_R_br pm_M200 (pc' := 18) (st' := []) rfl rfl ?_
          refine pm_R_op pm_M200 (pc' := 19) (st' := [.int 0]) rfl rfl rfl ?_
          refine pm_R_ret pm_M200 (r := some (.int 0)) rfl rfl ?_
          show pm_R _ 293 11 [.ref 41, .int a0, .int a1, .int a2, pm_no, pm_no] [.int 0] _ _
          refine pm_R_br pm_M293 (pc' := 23) (st' := []) rfl rfl ?_
          refine pm_R_op pm_M293 (pc' := 24) (st' := [.int (-1)]) rfl rfl rfl ?_
          exact pm_R_ret pm_M293 (r := some (.int (-1))) rfl rfl (K (-1) m4 w h1 T2 F6 W9 (sf_weak sf_kn1 (by decide) (by decide)))
        · have V35 := rf_V.mk e11 ez26 e29 (Int32.not_lt.mp c34) B33 (by decide)
          have V35 := V35.back F6 (by decide)
          have B36 : sf_B 0 2 a1 := sf_leL (Int32.not_lt.mp c34) B33 B30
          have B37 : sf_B 0 2 z28 := sf_leR (Int32.not_lt.mp c34) B33 B30
          refine pm_R_op pm_M174 (pc' := 11) (st' := [.int 1]) rfl rfl rfl ?_
          refine pm_R_br pm_M174 (pc' := 15) rfl rfl ?_
          refine pm_R_ret pm_M174 (r := some (.int 1)) rfl rfl ?_
          show pm_R _ 177 13 [.ref 41, .int 1, .int a1] [.int 1] _ _
          refine pm_R_ret pm_M177 (r := some (.int 1)) rfl rfl ?_
          show pm_R _ 200 15 [.ref 41, .int a0, .int a1] [.int 1] _ _
          refine pm_R_br pm_M200 (pc' := 20) (st' := []) rfl rfl ?_
          refine pm_R_lo pm_M200 (pc' := 21) rfl rfl rfl ?_
          refine pm_R_lo pm_M200 (pc' := 22) rfl rfl rfl ?_
          refine pm_R_lo pm_M200 (pc' := 23) rfl rfl rfl ?_
          refine pm_R_cv pm_M200 (pc' := 26) (a := 41) (ra := [.int a1, .int a0]) (rest := []) (ls' := [.ref 41, .int a0, .int a1, pm_no]) rfl rfl (Or.inl rfl) pm_M201 T2.2.1 rfl (by decide) (Nat.lt_of_lt_of_le (by decide) T2.1) rfl rfl (Nat.le_of_ble_eq_true rfl) rfl rfl ?_
          refine rf_c201 (d := d + 4) T2 B23 B36 (V35.F F6 (by decide)) (fun m40 w41 h42 T43 F44 W45 B46 => ?_)
          have F47 := F6.trans F44 (by decide)
          have W48 : rf_W [0, 23, 24, 26] m m40 := W9.trans W45 (by decide)
          show pm_R _ 200 26 [.ref 41, .int a0, .int a1] [] _ _
          refine pm_R_op pm_M200 (pc' := 27) (st' := [.int 1]) rfl rfl rfl ?_
          refine pm_R_ret pm_M200 (r := some (.int 1)) rfl rfl ?_
          show pm_R _ 293 11 [.ref 41, .int a0, .int a1, .int a2, pm_no, pm_no] [.int 1] _ _
          refine pm_R_br pm_M293 (pc' := 14) (st' := []) rfl rfl ?_
          refine pm_R_lo pm_M293 (pc' := 15) rfl rfl rfl ?_
          refine pm_R_op pm_M293 (pc' := 16) (st' := [.int 1, .ref 41]) rfl rfl rfl ?_
          refine pm_R_lo pm_M293 (pc' := 17) rfl rfl rfl ?_
          refine pm_R_cv pm_M293 (pc' := 20) (a := 41) (ra := [.int a2, .int 1]) (rest := []) (ls' := [.ref 41, .int 1, .int a2]) rfl rfl (Or.inl rfl) pm_M177 T43.2.1 rfl (by decide) (Nat.lt_of_lt_of_le (by decide) T43.1) rfl rfl (Nat.le_of_ble_eq_true rfl) rfl rfl ?_
          refine pm_R_lo pm_M177 (pc' := 1) rfl rfl rfl ?_
          refine pm_R_op pm_M177 (pc' := 2) (st' := [.int 0, .int a2]) rfl rfl rfl ?_
          refine pm_R_lo pm_M177 (pc' := 3) rfl rfl rfl ?_
          refine rf_R_get pm_M177 T43 (pc' := 6) (v := .ref 46) rfl rfl rfl rfl ?_
          refine pm_R_lo pm_M177 (pc' := 7) rfl rfl rfl ?_
          have e49 := (F44.cell (by decide) e11)
          refine rf_R_ild pm_M177 T43 (pc' := 8) rfl e49 (by decide) rfl rfl (fun z50 ez51 => ?_)
          have B52 : sf_B 0 3 z50 := ez51 ▸ (b12 1)
          refine pm_R_op pm_M177 (pc' := 9) (st' := [.int 1, .int z50, .int 0, .int a2]) rfl rfl rfl ?_
          refine sf_R_isub pm_M177 (pc' := 10) rfl rfl B52 sf_k1 (by decide) (by decide) (fun z53 e54 B55 => ?_)
          refine pm_R_cs pm_M177 (pc' := 13) (ra := [.int z53, .int 0, .int a2]) (rest := []) (ls' := [.int a2, .int 0, .int z53]) rfl rfl (Or.inl rfl) pm_M174 rfl rfl (Nat.le_of_ble_eq_true rfl) rfl rfl ?_
          refine pm_R_lo pm_M174 (pc' := 1) rfl rfl rfl ?_
          refine pm_R_lo pm_M174 (pc' := 2) rfl rfl rfl ?_
          refine pm_R_icmp pm_M174 (t := 14) (pc' := 5) rfl rfl rfl (fun c56 => ?_) (fun c56 => ?_)
          · have B57 : sf_B (-2147483648) (-1) a2 := sf_ltL c56 (sf_any a2) sf_k0
            refine pm_R_op pm_M174 (pc' := 15) (st' := [.int 0]) rfl rfl rfl ?_
            refine pm_R_ret pm_M174 (r := some (.int 0)) rfl rfl ?_
            show pm_R _ 177 13 [.ref 41, .int 1, .int a2] [.int 0] _ _
            refine pm_R_ret pm_M177 (r := some (.int 0)) rfl rfl ?_
            show pm_R _ 293 20 [.ref 41, .int a0, .int a1, .int a2, pm_no, pm_no] [.int 0] _ _
            refine pm_R_br pm_M293 (pc' := 23) (st' := []) rfl rfl ?_
            refine pm_R_op pm_M293 (pc' := 24) (st' := [.int (-1)]) rfl rfl rfl ?_
            exact pm_R_ret pm_M293 (r := some (.int (-1))) rfl rfl (K (-1) m40 w41 h42 T43 F47 W48 (sf_weak sf_kn1 (by decide) (by decide)))
          · have B58 : sf_B 0 2147483647 a2 := sf_leR (Int32.not_lt.mp c56) sf_k0 (sf_any a2)
            refine pm_R_lo pm_M174 (pc' := 6) rfl rfl rfl ?_
            refine pm_R_lo pm_M174 (pc' := 7) rfl rfl rfl ?_
            refine pm_R_icmp pm_M174 (t := 14) (pc' := 10) rfl rfl rfl (fun c59 => ?_) (fun c59 => ?_)
            · skip
              refine pm_R_op pm_M174 (pc' := 15) (st' := [.int 0]) rfl rfl rfl ?_
              refine pm_R_ret pm_M174 (r := some (.int 0)) rfl rfl ?_
              show pm_R _ 177 13 [.ref 41, .int 1, .int a2] [.int 0] _ _
              refine pm_R_ret pm_M177 (r := some (.int 0)) rfl rfl ?_
              show pm_R _ 293 20 [.ref 41, .int a0, .int a1, .int a2, pm_no, pm_no] [.int 0] _ _
              refine pm_R_br pm_M293 (pc' := 23) (st' := []) rfl rfl ?_
              refine pm_R_op pm_M293 (pc' := 24) (st' := [.int (-1)]) rfl rfl rfl ?_
              exact pm_R_ret pm_M293 (r := some (.int (-1))) rfl rfl (K (-1) m40 w41 h42 T43 F47 W48 (sf_weak sf_kn1 (by decide) (by decide)))
            · have V60 := rf_V.mk e49 ez51 e54 (Int32.not_lt.mp c59) B58 (by decide)
              have V60 := V60.back F47 (by decide)
              have B61 : sf_B 0 2 a2 := sf_leL (Int32.not_lt.mp c59) B58 B55
              have B62 : sf_B 0 2 z53 := sf_leR (Int32.not_lt.mp c59) B58 B55
              refine pm_R_op pm_M174 (pc' := 11) (st' := [.int 1]) rfl rfl rfl ?_
              refine pm_R_br pm_M174 (pc' := 15) rfl rfl ?_
              refine pm_R_ret pm_M174 (r := some (.int 1)) rfl rfl ?_
              show pm_R _ 177 13 [.ref 41, .int 1, .int a2] [.int 1] _ _
              refine pm_R_ret pm_M177 (r := some (.int 1)) rfl rfl ?_
              show pm_R _ 293 20 [.ref 41, .int a0, .int a1, .int a2, pm_no, pm_no] [.int 1] _ _
              refine pm_R_br pm_M293 (pc' := 25) (st' := []) rfl rfl ?_
              refine pm_R_lo pm_M293 (pc' := 26) rfl rfl rfl ?_
              refine pm_R_cv pm_M293 (pc' := 29) (a := 41) (ra := []) (rest := []) (ls' := [.ref 41]) rfl rfl (Or.inl rfl) pm_M215 T43.2.1 rfl (by decide) (Nat.lt_of_lt_of_le (by decide) T43.1) rfl rfl (Nat.le_of_ble_eq_true rfl) rfl rfl ?_
              refine rf_c215 (d := d + 0) T43 B46 (fun r63 m65 w66 h67 T68 F69 W70 => ?_)
              have F71 := F47.trans F69 (by decide)
              have B72 : sf_B 1 12 (m65 24) := by rw [W70 24 (by decide)]; exact B46
              have W73 : rf_W [0, 23, 24, 26] m m65 := W48.trans W70 (by decide)
              show pm_R _ 293 29 [.ref 41, .int a0, .int a1, .int a2, pm_no, pm_no] [.long r63] _ _
              refine pm_R_lo pm_M293 (pc' := 31) (ls' := [.ref 41, .int a0, .int a1, .int a2, .long r63, pm_no]) (st' := []) rfl rfl rfl ?_
              refine pm_R_lo pm_M293 (pc' := 32) rfl rfl rfl ?_
              refine pm_R_lo pm_M293 (pc' := 33) rfl rfl rfl ?_
              refine pm_R_lo pm_M293 (pc' := 34) rfl rfl rfl ?_
              refine pm_R_cv pm_M293 (pc' := 37) (a := 41) (ra := [.int a2, .int a0]) (rest := []) (ls' := [.ref 41, .int a0, .int a2, pm_no]) rfl rfl (Or.inl rfl) pm_M201 T68.2.1 rfl (by decide) (Nat.lt_of_lt_of_le (by decide) T68.1) rfl rfl (Nat.le_of_ble_eq_true rfl) rfl rfl ?_
              refine rf_c201 (d := d + 5) T68 B23 B61 (V60.F F71 (by decide)) (fun m76 w77 h78 T79 F80 W81 B82 => ?_)
              have F83 := F71.trans F80 (by decide)
              have W84 : rf_W [0, 23, 24, 26] m m76 := W73.trans W81 (by decide)
              show pm_R _ 293 37 [.ref 41, .int a0, .int a1, .int a2, .long r63, pm_no] [] _ _
              refine pm_R_lo pm_M293 (pc' := 39) rfl rfl rfl ?_
              refine pm_R_lo pm_M293 (pc' := 40) rfl rfl rfl ?_
              refine pm_R_cv pm_M293 (pc' := 43) (a := 41) (ra := []) (rest := [.long r63]) (ls' := [.ref 41]) rfl rfl (Or.inl rfl) pm_M215 T79.2.1 rfl (by decide) (Nat.lt_of_lt_of_le (by decide) T79.1) rfl rfl (Nat.le_of_ble_eq_true rfl) rfl rfl ?_
              refine rf_c215 (d := d + 0) T79 B82 (fun r85 m87 w88 h89 T90 F91 W92 => ?_)
              have F93 := F83.trans F91 (by decide)
              have B94 : sf_B 1 12 (m87 24) := by rw [W92 24 (by decide)]; exact B82
              have W95 : rf_W [0, 23, 24, 26] m m87 := W84.trans W92 (by decide)
              show pm_R _ 293 43 [.ref 41, .int a0, .int a1, .int a2, .long r63, pm_no] [.long r85, .long r63] _ _
              refine sf_R_lany pm_M293 (pc' := 44) (st := []) rfl rfl rfl (fun z96 => ?_)
              refine pm_R_cs pm_M293 (pc' := 47) (ra := [.long z96]) (rest := []) (ls' := [.long z96, pm_no, pm_no, pm_no]) rfl rfl (Or.inl rfl) pm_M222 rfl rfl (Nat.le_of_ble_eq_true rfl) rfl rfl ?_
              refine rf_c222 (d := d + 4)  (fun r97 B98 => ?_)
              show pm_R _ 293 47 [.ref 41, .int a0, .int a1, .int a2, .long r63, pm_no] [.int r97] _ _
              exact pm_R_ret pm_M293 (r := some (.int r97)) rfl (pm_ret_i _) (K r97 m87 w88 h89 T90 F93 W95 (sf_weak B98 (by decide) (by decide)))

set_option maxRecDepth 100000 in
set_option maxHeartbeats 4000000 in
/-- SilentTableModel.caught -/
theorem rf_c260 {d : Nat} {m : Nat → Int32} {w : Int64} {h : pm_H} {Q : Option Value → pm_H → Prop} {a0 : Int32} {a1 : Int32} {a2 : Int32} {a3 : Int32} (T : rf_T m w h)  (K : ∀ (r : Int32) (m' : Nat → Int32) (w' : Int64) (h' : pm_H), rf_T m' w' h' → rf_G [41, 67, 68, 69] h h' → rf_W [0, 42, 43, 44, 47] m m' → Q (some (.int r)) h') : pm_R (d + 4) 260 0 [.ref 41, .int a0, .int a1, .int a2, .int a3] [] h Q := by
  refine pm_R_lo pm_M260 (pc' := 1) rfl rfl rfl ?_
  refine pm_R_op pm_M260 (pc' := 2) (st' := [.int 0, .ref 41]) rfl rfl rfl ?_
  refine rf_R_put pm_M260 T (pc' := 5) rfl rfl rfl (by decide) rfl rfl sf_k0 rfl rfl (fun h1 m4 em5 T2 F3 => ?_)
  have F6 := (rf_G.refl [41, 67, 68, 69] h).trans F3 (by decide)
  have B7 : sf_B 0 0 (m4 0) := by rw [em5]; exact sf_k0
  have W9 : rf_W [0, 42, 43, 44, 47] m m4 := by rw [em5]; exact (rf_W.refl [0, 42, 43, 44, 47] m).put (by decide)
  refine pm_R_lo pm_M260 (pc' := 6) rfl rfl rfl ?_
  refine pm_R_lo pm_M260 (pc' := 7) rfl rfl rfl ?_
  refine pm_R_lo pm_M260 (pc' := 8) rfl rfl rfl ?_
  refine pm_R_lo pm_M260 (pc' := 9) rfl rfl rfl ?_
  refine pm_R_cv pm_M260 (pc' := 12) (a := 41) (ra := [.int a2, .int a1, .int a0]) (rest := []) (ls' := [.ref 41, .int a0, .int a1, .int a2, pm_no]) rfl rfl (Or.inl rfl) pm_M261 T2.2.1 rfl (by decide) (Nat.lt_of_lt_of_le (by decide) T2.1) rfl rfl (Nat.le_of_ble_eq_true rfl) rfl rfl ?_
  refine rf_c261 (d := d + 0) T2  (fun r10 m12 w13 h14 T15 F16 W17 B11 => ?_)
  have F18 := F6.trans F16 (by decide)
  have W19 : rf_W [0, 42, 43, 44, 47] m m12 := W9.trans W17 (by decide)
  show pm_R _ 260 12 [.ref 41, .int a0, .int a1, .int a2, .int a3] [.int r10] _ _
  refine pm_R_ifc pm_M260 (t := 18) (pc' := 15) rfl rfl rfl (fun c20 => ?_) (fun c20 => ?_)
  · have B21 : sf_B 1 1 r10 := sf_neL0 c20 sf_k0 B11
    refine pm_R_lo pm_M260 (pc' := 20) rfl rfl rfl ?_
    refine pm_R_op pm_M260 (pc' := 21) (st' := [.int (-1), .int a3]) rfl rfl rfl ?_
    refine pm_R_icmp pm_M260 (t := 31) (pc' := 24) rfl rfl rfl (fun c22 => ?_) (fun c22 => ?_)
    · skip
      refine pm_R_lo pm_M260 (pc' := 33) rfl rfl rfl ?_
      refine pm_R_op pm_M260 (pc' := 34) (st' := [.int 0, .int a3]) rfl rfl rfl ?_
      refine pm_R_lo pm_M260 (pc' := 35) rfl rfl rfl ?_
      have B23 : sf_B 0 50 (m12 47) := T15.2.2.1 47
      refine rf_R_get pm_M260 T15 (pc' := 38) (v := .int (m12 47)) rfl rfl rfl rfl ?_
      refine pm_R_op pm_M260 (pc' := 39) (st' := [.int 1, .int (m12 47), .int 0, .int a3]) rfl rfl rfl ?_
      refine sf_R_isub pm_M260 (pc' := 40) rfl rfl B23 sf_k1 (by decide) (by decide) (fun z24 e25 B26 => ?_)
      refine pm_R_cs pm_M260 (pc' := 43) (ra := [.int z24, .int 0, .int a3]) (rest := []) (ls' := [.int a3, .int 0, .int z24]) rfl rfl (Or.inl rfl) pm_M174 rfl rfl (Nat.le_of_ble_eq_true rfl) rfl rfl ?_
      refine pm_R_lo pm_M174 (pc' := 1) rfl rfl rfl ?_
      refine pm_R_lo pm_M174 (pc' := 2) rfl rfl rfl ?_
      refine pm_R_icmp pm_M174 (t := 14) (pc' := 5) rfl rfl rfl (fun c27 => ?_) (fun c27 => ?_)
      · have B28 : sf_B (-2147483648) (-1) a3 := sf_ltL c27 (sf_any a3) sf_k0
        refine pm_R_op pm_M174 (pc' := 15) (st' := [.int 0]) rfl rfl rfl ?_
        refine pm_R_ret pm_M174 (r := some (.int 0)) rfl rfl ?_
        show pm_R _ 260 43 [.ref 41, .int a0, .int a1, .int a2, .int a3] [.int 0] _ _
        refine pm_R_br pm_M260 (pc' := 56) (st' := []) rfl rfl ?_
        refine pm_R_op pm_M260 (pc' := 58) (st' := [.int (-2)]) rfl rfl rfl ?_
        exact pm_R_ret pm_M260 (r := some (.int (-2))) rfl rfl (K (-2) m12 w13 h14 T15 F18 W19)
      · have B29 : sf_B 0 2147483647 a3 := sf_leR (Int32.not_lt.mp c27) sf_k0 (sf_any a3)
        refine pm_R_lo pm_M174 (pc' := 6) rfl rfl rfl ?_
        refine pm_R_lo pm_M174 (pc' := 7) rfl rfl rfl ?_
        refine pm_R_icmp pm_M174 (t := 14) (pc' := 10) rfl rfl rfl (fun c30 => ?_) (fun c30 => ?_)
        · skip
          refine pm_R_op pm_M174 (pc' := 15) (st' := [.int 0]) rfl rfl rfl ?_
          refine pm_R_ret pm_M174 (r := some (.int 0)) rfl rfl ?_
          show pm_R _ 260 43 [.ref 41, .int a0, .int a1, .int a2, .int a3] [.int 0] _ _
          refine pm_R_br pm_M260 (pc' := 56) (st' := []) rfl rfl ?_
          refine pm_R_op pm_M260 (pc' := 58) (st' := [.int (-2)]) rfl rfl rfl ?_
          exact pm_R_ret pm_M260 (r := some (.int (-2))) rfl rfl (K (-2) m12 w13 h14 T15 F18 W19)
        · have B31 : sf_B 0 49 a3 := sf_leL (Int32.not_lt.mp c30) B29 B26
          have B32 : sf_B 0 49 z24 := sf_leR (Int32.not_lt.mp c30) B29 B26
          refine pm_R_op pm_M174 (pc' := 11) (st' := [.int 1]) rfl rfl rfl ?_
          refine pm_R_br pm_M174 (pc' := 15) rfl rfl ?_
          refine pm_R_ret pm_M174 (r := some (.int 1)) rfl rfl ?_
          show pm_R _ 260 43 [.ref 41, .int a0, .int a1, .int a2, .int a3] [.int 1] _ _
          refine pm_R_br pm_M260 (pc' := 46) (st' := []) rfl rfl ?_
          refine pm_R_lo pm_M260 (pc' := 47) rfl rfl rfl ?_
          refine rf_R_get pm_M260 T15 (pc' := 50) (v := .ref 69) rfl rfl rfl rfl ?_
          refine pm_R_lo pm_M260 (pc' := 52) rfl rfl rfl ?_
          obtain ⟨f33, e34⟩ := T15.2.2.2.1 69 (by decide) (by decide)
          refine rf_R_ild pm_M260 T15 (pc' := 53) rfl e34 (by decide) (sf_in B31 (by decide) (by decide)) rfl (fun z36 ez37 => ?_)
          refine pm_R_br pm_M260 (pc' := 58) rfl rfl ?_
          exact pm_R_ret pm_M260 (r := some (.int z36)) rfl (pm_ret_i _) (K z36 m12 w13 h14 T15 F18 W19)
    · have B38 : sf_B (-1) (-1) a3 := sf_eqL (Classical.not_not.mp c22) sf_kn1
      refine pm_R_lo pm_M260 (pc' := 25) rfl rfl rfl ?_
      have B39 : sf_B 0 50 (m12 47) := T15.2.2.1 47
      refine rf_R_get pm_M260 T15 (pc' := 28) (v := .int (m12 47)) rfl rfl rfl rfl ?_
      refine pm_R_br pm_M260 (pc' := 58) rfl rfl ?_
      exact pm_R_ret pm_M260 (r := some (.int (m12 47))) rfl (pm_ret_i _) (K (m12 47) m12 w13 h14 T15 F18 W19)
  · have B40 : sf_B 0 0 r10 := sf_eqL (Classical.not_not.mp c20) sf_k0
    refine pm_R_op pm_M260 (pc' := 17) (st' := [.int (-2)]) rfl rfl rfl ?_
    exact pm_R_ret pm_M260 (r := some (.int (-2))) rfl rfl (K (-2) m12 w13 h14 T15 F18 W19)

set_option maxRecDepth 100000 in
set_option maxHeartbeats 4000000 in
/-- SilentTableModel.knows -/
theorem rf_c262 {d : Nat} {m : Nat → Int32} {w : Int64} {h : pm_H} {Q : Option Value → pm_H → Prop} {a0 : Int32} {a1 : Int32} {a2 : Int32} {a3 : Int32} {a4 : Int32} (T : rf_T m w h)  (K : ∀ (r : Int32) (m' : Nat → Int32) (w' : Int64) (h' : pm_H), rf_T m' w' h' → rf_G [41, 53, 54, 67, 68, 69] h h' → rf_W [0, 23, 24, 26, 42, 43, 44, 47] m m' → sf_B (-2) 50 r → Q (some (.int r)) h') : pm_R (d + 7) 262 0 [.ref 41, .int a0, .int a1, .int a2, .int a3, .int a4] [] h Q := by
  refine pm_R_lo pm_M262 (pc' := 1) rfl rfl rfl ?_
  refine pm_R_op pm_M262 (pc' := 2) (st' := [.int 0, .ref 41]) rfl rfl rfl ?_
  refine rf_R_put pm_M262 T (pc' := 5) rfl rfl rfl (by decide) rfl rfl sf_k0 rfl rfl (fun h1 m4 em5 T2 F3 => ?_)
  have F6 := (rf_G.refl [41, 53, 54, 67, 68, 69] h).trans F3 (by decide)
  have B7 : sf_B 0 0 (m4 0) := by rw [em5]; exact sf_k0
  have W9 : rf_W [0, 23, 24, 26, 42, 43, 44, 47] m m4 := by rw [em5]; exact (rf_W.refl [0, 23, 24, 26, 42, 43, 44, 47] m).put (by decide)
  refine pm_R_lo pm_M262 (pc' := 6) rfl rfl rfl ?_
  refine pm_R_op pm_M262 (pc' := 7) (st' := [.int 0, .ref 41]) rfl rfl rfl ?_
  refine pm_R_lo pm_M262 (pc' := 8) rfl rfl rfl ?_
  refine pm_R_cv pm_M262 (pc' := 11) (a := 41) (ra := [.int a0, .int 0]) (rest := []) (ls' := [.ref 41, .int 0, .int a0]) rfl rfl (Or.inl rfl) pm_M177 T2.2.1 rfl (by decide) (Nat.lt_of_lt_of_le (by decide) T2.1) rfl rfl (Nat.le_of_ble_eq_true rfl) rfl rfl ?_
  refine pm_R_lo pm_M177 (pc' := 1) rfl rfl rfl ?_
  refine pm_R_op pm_M177 (pc' := 2) (st' := [.int 0, .int a0]) rfl rfl rfl ?_
  refine pm_R_lo pm_M177 (pc' := 3) rfl rfl rfl ?_
  refine rf_R_get pm_M177 T2 (pc' := 6) (v := .ref 46) rfl rfl rfl rfl ?_
  refine pm_R_lo pm_M177 (pc' := 7) rfl rfl rfl ?_
  obtain ⟨f10, e11, b12⟩ := T2.2.2.2.1 46 (by decide) (by decide)
  refine rf_R_ild pm_M177 T2 (pc' := 8) rfl e11 (by decide) rfl rfl (fun z13 ez14 => ?_)
  have B15 : sf_B 0 2 z13 := ez14 ▸ (b12 0)
  refine pm_R_op pm_M177 (pc' := 9) (st' := [.int 1, .int z13, .int 0, .int a0]) rfl rfl rfl ?_
  refine sf_R_isub pm_M177 (pc' := 10) rfl rfl B15 sf_k1 (by decide) (by decide) (fun z16 e17 B18 => ?_)
  refine pm_R_cs pm_M177 (pc' := 13) (ra := [.int z16, .int 0, .int a0]) (rest := []) (ls' := [.int a0, .int 0, .int z16]) rfl rfl (Or.inl rfl) pm_M174 rfl rfl (Nat.le_of_ble_eq_true rfl) rfl rfl ?_
  refine pm_R_lo pm_M174 (pc' := 1) rfl rfl rfl ?_
  refine pm_R_lo pm_M174 (pc' := 2) rfl rfl rfl ?_
  refine pm_R_icmp pm_M174 (t := 14) (pc' := 5) rfl rfl rfl (fun c19 => ?_) (fun c19 => ?_)
  · have B20 : sf_B (-2147483648) (-1) a0 := sf_ltL c19 (sf_any a0) sf_k0
    refine pm_R_op pm_M174 (pc' := 15) (st' := [.int 0]) rfl rfl rfl ?_
    refine pm_R_ret pm_M174 (r := some (.int 0)) rfl rfl ?_
    show pm_R _ 177 13 [.ref 41, .int 0, .int a0] [.int 0] _ _
    refine pm_R_ret pm_M177 (r := some (.int 0)) rfl rfl ?_
    show pm_R _ 262 11 [.ref 41, .int a0, .int a1, .int a2, .int a3, .int a4] [.int 0] _ _
    refine pm_R_br pm_M262 (pc' := 38) (st' := []) rfl rfl ?_
    refine pm_R_op pm_M262 (pc' := 40) (st' := [.int (-2)]) rfl rfl rfl ?_
    exact pm_R_ret pm_M262 (r := some (.int (-2))) rfl rfl (K (-2) m4 w h1 T2 F6 W9 (sf_weak sf_kn2 (by decide) (by decide)))
  · have B21 : sf_B 0 2147483647 a0 := sf_leR (Int32.not_lt.mp c19) sf_k0 (sf_any a0)
    refine pm_R_lo pm_M174 (pc' := 6) rfl rfl rfl ?_
    refine pm_R_lo pm_M174 (pc' := 7) rfl rfl rfl ?_
    refine pm_R_icmp pm_M174 (t := 14) (pc' := 10) rfl rfl rfl (fun c22 => ?_) (fun c22 => ?_)
    · skip
      refine pm_R_op pm_M174 (pc' := 15) (st' := [.int 0]) rfl rfl rfl ?_
      refine pm_R_ret pm_M174 (r := some (.int 0)) rfl rfl ?_
      show pm_R _ 177 13 [.ref 41, .int 0, .int a0] [.int 0] _ _
      refine pm_R_ret pm_M177 (r := some (.int 0)) rfl rfl ?_
      show pm_R _ 262 11 [.ref 41, .int a0, .int a1, .int a2, .int a3, .int a4] [.int 0] _ _
      refine pm_R_br pm_M262 (pc' := 38) (st' := []) rfl rfl ?_
      refine pm_R_op pm_M262 (pc' := 40) (st' := [.int (-2)]) rfl rfl rfl ?_
      exact pm_R_ret pm_M262 (r := some (.int (-2))) rfl rfl (K (-2) m4 w h1 T2 F6 W9 (sf_weak sf_kn2 (by decide) (by decide)))
    · have B23 : sf_B 0 1 a0 := sf_leL (Int32.not_lt.mp c22) B21 B18
      have B24 : sf_B 0 1 z16 := sf_leR (Int32.not_lt.mp c22) B21 B18
      refine pm_R_op pm_M174 (pc' := 11) (st' := [.int 1]) rfl rfl rfl ?_
      refine pm_R_br pm_M174 (pc' := 15) rfl rfl ?_
      refine pm_R_ret pm_M174 (r := some (.int 1)) rfl rfl ?_
      show pm_R _ 177 13 [.ref 41, .int 0, .int a0] [.int 1] _ _
      refine pm_R_ret pm_M177 (r := some (.int 1)) rfl rfl ?_
      show pm_R _ 262 11 [.ref 41, .int a0, .int a1, .int a2, .int a3, .int a4] [.int 1] _ _
      refine pm_R_br pm_M262 (pc' := 14) (st' := []) rfl rfl ?_
      refine pm_R_lo pm_M262 (pc' := 15) rfl rfl rfl ?_
      refine pm_R_lo pm_M262 (pc' := 16) rfl rfl rfl ?_
      refine pm_R_lo pm_M262 (pc' := 17) rfl rfl rfl ?_
      refine pm_R_lo pm_M262 (pc' := 19) rfl rfl rfl ?_
      refine pm_R_cv pm_M262 (pc' := 22) (a := 41) (ra := [.int a3, .int a2, .int a1]) (rest := []) (ls' := [.ref 41, .int a1, .int a2, .int a3, pm_no]) rfl rfl (Or.inl rfl) pm_M261 T2.2.1 rfl (by decide) (Nat.lt_of_lt_of_le (by decide) T2.1) rfl rfl (Nat.le_of_ble_eq_true rfl) rfl rfl ?_
      refine rf_c261 (d := d + 3) T2  (fun r25 m27 w28 h29 T30 F31 W32 B26 => ?_)
      have F33 := F6.trans F31 (by decide)
      have W34 : rf_W [0, 23, 24, 26, 42, 43, 44, 47] m m27 := W9.trans W32 (by decide)
      show pm_R _ 262 22 [.ref 41, .int a0, .int a1, .int a2, .int a3, .int a4] [.int r25] _ _
      refine pm_R_ifc pm_M262 (t := 38) (pc' := 25) rfl rfl rfl (fun c35 => ?_) (fun c35 => ?_)
      · have B36 : sf_B 0 0 r25 := sf_eqL c35 sf_k0
        refine pm_R_op pm_M262 (pc' := 40) (st' := [.int (-2)]) rfl rfl rfl ?_
        exact pm_R_ret pm_M262 (r := some (.int (-2))) rfl rfl (K (-2) m27 w28 h29 T30 F33 W34 (sf_weak sf_kn2 (by decide) (by decide)))
      · have B37 : sf_B 1 1 r25 := sf_neL0 c35 sf_k0 B26
        refine pm_R_lo pm_M262 (pc' := 26) rfl rfl rfl ?_
        refine pm_R_lo pm_M262 (pc' := 27) rfl rfl rfl ?_
        refine pm_R_cv pm_M262 (pc' := 30) (a := 41) (ra := [.int a0]) (rest := []) (ls' := [.ref 41, .int a0, pm_no]) rfl rfl (Or.inl rfl) pm_M263 T30.2.1 rfl (by decide) (Nat.lt_of_lt_of_le (by decide) T30.1) rfl rfl (Nat.le_of_ble_eq_true rfl) rfl rfl ?_
        refine rf_c263 (d := d + 0) T30 B23 (fun r38 m40 w41 h42 T43 F44 W45 => ?_)
        have F46 := F33.trans F44 (by decide)
        have W47 : rf_W [0, 23, 24, 26, 42, 43, 44, 47] m m40 := W34.trans W45 (by decide)
        show pm_R _ 262 30 [.ref 41, .int a0, .int a1, .int a2, .int a3, .int a4] [.long r38] _ _
        refine pm_R_lo pm_M262 (pc' := 32) rfl rfl rfl ?_
        refine pm_R_cs pm_M262 (pc' := 35) (ra := [.int a4, .long r38]) (rest := []) (ls' := [.long r38, pm_no, .int a4, pm_no, pm_no]) rfl rfl (Or.inl rfl) pm_M221 rfl rfl (Nat.le_of_ble_eq_true rfl) rfl rfl ?_
        refine rf_c221 (d := d + 4)  (fun r48 B49 => ?_)
        show pm_R _ 262 35 [.ref 41, .int a0, .int a1, .int a2, .int a3, .int a4] [.int r48] _ _
        refine pm_R_br pm_M262 (pc' := 40) rfl rfl ?_
        exact pm_R_ret pm_M262 (r := some (.int r48)) rfl (pm_ret_i _) (K r48 m40 w41 h42 T43 F46 W47 B49)

set_option maxRecDepth 100000 in
set_option maxHeartbeats 4000000 in
/-- SilentTableModel.sure -/
theorem rf_c264 {d : Nat} {m : Nat → Int32} {w : Int64} {h : pm_H} {Q : Option Value → pm_H → Prop} {a0 : Int32} {a1 : Int32} {a2 : Int32} (T : rf_T m w h)  (K : ∀ (r : Int32) (m' : Nat → Int32) (w' : Int64) (h' : pm_H), rf_T m' w' h' → rf_G [41, 53, 54, 67, 68, 69] h h' → rf_W [0, 23, 24, 26, 42, 43, 44, 47] m m' → Q (some (.int r)) h') : pm_R (d + 7) 264 0 [.ref 41, .int a0, .int a1, .int a2, pm_no, pm_no, pm_no, pm_no, pm_no] [] h Q := by
  refine pm_R_lo pm_M264 (pc' := 1) rfl rfl rfl ?_
  refine pm_R_op pm_M264 (pc' := 2) (st' := [.int 0, .ref 41]) rfl rfl rfl ?_
  refine rf_R_put pm_M264 T (pc' := 5) rfl rfl rfl (by decide) rfl rfl sf_k0 rfl rfl (fun h1 m4 em5 T2 F3 => ?_)
  have F6 := (rf_G.refl [41, 53, 54, 67, 68, 69] h).trans F3 (by decide)
  have B7 : sf_B 0 0 (m4 0) := by rw [em5]; exact sf_k0
  have W9 : rf_W [0, 23, 24, 26, 42, 43, 44, 47] m m4 := by rw [em5]; exact (rf_W.refl [0, 23, 24, 26, 42, 43, 44, 47] m).put (by decide)
  refine pm_R_lo pm_M264 (pc' := 6) rfl rfl rfl ?_
  refine pm_R_op pm_M264 (pc' := 7) (st' := [.int 0, .ref 41]) rfl rfl rfl ?_
  refine pm_R_lo pm_M264 (pc' := 8) rfl rfl rfl ?_
  refine pm_R_cv pm_M264 (pc' := 11) (a := 41) (ra := [.int a0, .int 0]) (rest := []) (ls' := [.ref 41, .int 0, .int a0]) rfl rfl (Or.inl rfl) pm_M177 T2.2.1 rfl (by decide) (Nat.lt_of_lt_of_le (by decide) T2.1) rfl rfl (Nat.le_of_ble_eq_true rfl) rfl rfl ?_
  refine pm_R_lo pm_M177 (pc' := 1) rfl rfl rfl ?_
  refine pm_R_op pm_M177 (pc' := 2) (st' := [.int 0, .int a0]) rfl rfl rfl ?_
  refine pm_R_lo pm_M177 (pc' := 3) rfl rfl rfl ?_
  refine rf_R_get pm_M177 T2 (pc' := 6) (v := .ref 46) rfl rfl rfl rfl ?_
  refine pm_R_lo pm_M177 (pc' := 7) rfl rfl rfl ?_
  obtain ⟨f10, e11, b12⟩ := T2.2.2.2.1 46 (by decide) (by decide)
  refine rf_R_ild pm_M177 T2 (pc' := 8) rfl e11 (by decide) rfl rfl (fun z13 ez14 => ?_)
  have B15 : sf_B 0 2 z13 := ez14 ▸ (b12 0)
  refine pm_R_op pm_M177 (pc' := 9) (st' := [.int 1, .int z13, .int 0, .int a0]) rfl rfl rfl ?_
  refine sf_R_isub pm_M177 (pc' := 10) rfl rfl B15 sf_k1 (by decide) (by decide) (fun z16 e17 B18 => ?_)
  refine pm_R_cs pm_M177 (pc' := 13) (ra := [.int z16, .int 0, .int a0]) (rest := []) (ls' := [.int a0, .int 0, .int z16]) rfl rfl (Or.inl rfl) pm_M174 rfl rfl (Nat.le_of_ble_eq_true rfl) rfl rfl ?_
  refine pm_R_lo pm_M174 (pc' := 1) rfl rfl rfl ?_
  refine pm_R_lo pm_M174 (pc' := 2) rfl rfl rfl ?_
  refine pm_R_icmp pm_M174 (t := 14) (pc' := 5) rfl rfl rfl (fun c19 => ?_) (fun c19 => ?_)
  · have B20 : sf_B (-2147483648) (-1) a0 := sf_ltL c19 (sf_any a0) sf_k0
    refine pm_R_op pm_M174 (pc' := 15) (st' := [.int 0]) rfl rfl rfl ?_
    refine pm_R_ret pm_M174 (r := some (.int 0)) rfl rfl ?_
    show pm_R _ 177 13 [.ref 41, .int 0, .int a0] [.int 0] _ _
    refine pm_R_ret pm_M177 (r := some (.int 0)) rfl rfl ?_
    show pm_R _ 264 11 [.ref 41, .int a0, .int a1, .int a2, pm_no, pm_no, pm_no, pm_no, pm_no] [.int 0] _ _
    refine pm_R_br pm_M264 (pc' := 24) (st' := []) rfl rfl ?_
    refine pm_R_op pm_M264 (pc' := 25) (st' := [.int (-1)]) rfl rfl rfl ?_
    exact pm_R_ret pm_M264 (r := some (.int (-1))) rfl rfl (K (-1) m4 w h1 T2 F6 W9)
  · have B21 : sf_B 0 2147483647 a0 := sf_leR (Int32.not_lt.mp c19) sf_k0 (sf_any a0)
    refine pm_R_lo pm_M174 (pc' := 6) rfl rfl rfl ?_
    refine pm_R_lo pm_M174 (pc' := 7) rfl rfl rfl ?_
    refine pm_R_icmp pm_M174 (t := 14) (pc' := 10) rfl rfl rfl (fun c22 => ?_) (fun c22 => ?_)
    · skip
      refine pm_R_op pm_M174 (pc' := 15) (st' := [.int 0]) rfl rfl rfl ?_
      refine pm_R_ret pm_M174 (r := some (.int 0)) rfl rfl ?_
      show pm_R _ 177 13 [.ref 41, .int 0, .int a0] [.int 0] _ _
      refine pm_R_ret pm_M177 (r := some (.int 0)) rfl rfl ?_
      show pm_R _ 264 11 [.ref 41, .int a0, .int a1, .int a2, pm_no, pm_no, pm_no, pm_no, pm_no] [.int 0] _ _
      refine pm_R_br pm_M264 (pc' := 24) (st' := []) rfl rfl ?_
      refine pm_R_op pm_M264 (pc' := 25) (st' := [.int (-1)]) rfl rfl rfl ?_
      exact pm_R_ret pm_M264 (r := some (.int (-1))) rfl rfl (K (-1) m4 w h1 T2 F6 W9)
    · have B23 : sf_B 0 1 a0 := sf_leL (Int32.not_lt.mp c22) B21 B18
      have B24 : sf_B 0 1 z16 := sf_leR (Int32.not_lt.mp c22) B21 B18
      refine pm_R_op pm_M174 (pc' := 11) (st' := [.int 1]) rfl rfl rfl ?_
      refine pm_R_br pm_M174 (pc' := 15) rfl rfl ?_
      refine pm_R_ret pm_M174 (r := some (.int 1)) rfl rfl ?_
      show pm_R _ 177 13 [.ref 41, .int 0, .int a0] [.int 1] _ _
      refine pm_R_ret pm_M177 (r := some (.int 1)) rfl rfl ?_
      show pm_R _ 264 11 [.ref 41, .int a0, .int a1, .int a2, pm_no, pm_no, pm_no, pm_no, pm_no] [.int 1] _ _
      refine pm_R_br pm_M264 (pc' := 14) (st' := []) rfl rfl ?_
      refine pm_R_lo pm_M264 (pc' := 15) rfl rfl rfl ?_
      refine pm_R_lo pm_M264 (pc' := 16) rfl rfl rfl ?_
      refine pm_R_op pm_M264 (pc' := 17) (st' := [.int (-1), .int a1, .ref 41]) rfl rfl rfl ?_
      refine pm_R_lo pm_M264 (pc' := 18) rfl rfl rfl ?_
      refine pm_R_cv pm_M264 (pc' := 21) (a := 41) (ra := [.int a2, .int (-1), .int a1]) (rest := []) (ls' := [.ref 41, .int a1, .int (-1), .int a2, pm_no]) rfl rfl (Or.inl rfl) pm_M261 T2.2.1 rfl (by decide) (Nat.lt_of_lt_of_le (by decide) T2.1) rfl rfl (Nat.le_of_ble_eq_true rfl) rfl rfl ?_
      refine rf_c261 (d := d + 3) T2  (fun r25 m27 w28 h29 T30 F31 W32 B26 => ?_)
      have F33 := F6.trans F31 (by decide)
      have W34 : rf_W [0, 23, 24, 26, 42, 43, 44, 47] m m27 := W9.trans W32 (by decide)
      show pm_R _ 264 21 [.ref 41, .int a0, .int a1, .int a2, pm_no, pm_no, pm_no, pm_no, pm_no] [.int r25] _ _
      refine pm_R_ifc pm_M264 (t := 26) (pc' := 24) rfl rfl rfl (fun c35 => ?_) (fun c35 => ?_)
      · have B36 : sf_B 1 1 r25 := sf_neL0 c35 sf_k0 B26
        refine pm_R_lo pm_M264 (pc' := 27) rfl rfl rfl ?_
        refine pm_R_lo pm_M264 (pc' := 28) rfl rfl rfl ?_
        refine pm_R_cv pm_M264 (pc' := 31) (a := 41) (ra := [.int a0]) (rest := []) (ls' := [.ref 41, .int a0, pm_no]) rfl rfl (Or.inl rfl) pm_M263 T30.2.1 rfl (by decide) (Nat.lt_of_lt_of_le (by decide) T30.1) rfl rfl (Nat.le_of_ble_eq_true rfl) rfl rfl ?_
        refine rf_c263 (d := d + 0) T30 B23 (fun r37 m39 w40 h41 T42 F43 W44 => ?_)
        have F45 := F33.trans F43 (by decide)
        have W46 : rf_W [0, 23, 24, 26, 42, 43, 44, 47] m m39 := W34.trans W44 (by decide)
        show pm_R _ 264 31 [.ref 41, .int a0, .int a1, .int a2, pm_no, pm_no, pm_no, pm_no, pm_no] [.long r37] _ _
        refine pm_R_lo pm_M264 (pc' := 33) (ls' := [.ref 41, .int a0, .int a1, .int a2, .long r37, pm_no, pm_no, pm_no, pm_no]) (st' := []) rfl rfl rfl ?_
        refine pm_R_op pm_M264 (pc' := 34) (st' := [.int 0]) rfl rfl rfl ?_
        refine pm_R_lo pm_M264 (pc' := 36) (ls' := [.ref 41, .int a0, .int a1, .int a2, .long r37, pm_no, .int 0, pm_no, pm_no]) (st' := []) rfl rfl rfl ?_
        refine pm_R_op pm_M264 (pc' := 37) (st' := [.int 0]) rfl rfl rfl ?_
        refine pm_R_lo pm_M264 (pc' := 39) (ls' := [.ref 41, .int a0, .int a1, .int a2, .long r37, pm_no, .int 0, .int 0, pm_no]) (st' := []) rfl rfl rfl ?_
        have L_487 : ∀ (N : Nat) (h_487 : pm_H) (m_487 : Nat → Int32) (w_487 : Int64) (x6_487 : Int32) (x7_487 : Int32) (g8_487 : Value), rf_T m_487 w_487 h_487 → rf_G [41, 53, 54, 67, 68, 69] h h_487 → rf_W [23, 24, 26, 42, 43, 44, 47] m39 m_487 → sf_B (-2147483648) 2147483647 x6_487 → sf_B 0 6 x7_487 → g8_487.category = 1 → (6 - x7_487.toInt).toNat = N → pm_R (d + 7) 264 39 [.ref 41, .int a0, .int a1, .int a2, .long r37, pm_no, .int x6_487, .int x7_487, g8_487] [] h_487 Q := by
          intro N
          induction N using Nat.strongRecOn with
          | ind N ih_487 =>
            intro h_487 m_487 w_487 x6_487 x7_487 g8_487 T_487 F_487 W_487 Bx6_487 Bx7_487 Cg8_487 hN_487
            have W490 : rf_W [0, 23, 24, 26, 42, 43, 44, 47] m m_487 := W46.trans W_487 (by decide)
            refine pm_R_lo pm_M264 (pc' := 41) rfl rfl rfl ?_
            refine pm_R_lo pm_M264 (pc' := 42) rfl rfl rfl ?_
            have B491 : sf_B 0 6 (m_487 42) := T_487.2.2.1 42
            refine rf_R_get pm_M264 T_487 (pc' := 45) (v := .int (m_487 42)) rfl rfl rfl rfl ?_
            refine pm_R_icmp pm_M264 (t := 116) (pc' := 48) rfl rfl rfl (fun c492 => ?_) (fun c492 => ?_)
            · skip
              refine pm_R_lo pm_M264 (pc' := 118) (pm_q264_1 (Nat.le_of_ble_eq_true rfl)) rfl rfl ?_
              exact pm_R_ret pm_M264 (r := some (.int x6_487)) (pm_q264_1 (Nat.le_of_ble_eq_true rfl)) (pm_ret_i _) (K x6_487 m_487 w_487 h_487 T_487 F_487 W490)
            · have B493 : sf_B 0 5 x7_487 := sf_ltL (Int32.not_le.mp c492) Bx7_487 B491
              have B494 : sf_B 1 6 (m_487 42) := sf_ltR (Int32.not_le.mp c492) Bx7_487 B491
              refine pm_R_lo pm_M264 (pc' := 50) rfl rfl rfl ?_
              refine pm_R_lo pm_M264 (pc' := 51) rfl rfl rfl ?_
              refine pm_R_icmp pm_M264 (t := 78) (pc' := 54) rfl rfl rfl (fun c495 => ?_) (fun c495 => ?_)
              · have B496 : sf_B 0 5 a2 := sf_eqR c495 B493
                refine pm_R_op pm_M264 (pc' := 79) (st' := [.int 0]) rfl rfl rfl ?_
                refine pm_R_lo pm_M264 (pc' := 81) (ls' := [.ref 41, .int a0, .int a1, .int a2, .long r37, pm_no, .int x6_487, .int x7_487, .int 0]) (st' := []) rfl rfl rfl ?_
                refine pm_R_lo pm_M264 (pc' := 83) rfl rfl rfl ?_
                refine pm_R_lo pm_M264 (pc' := 85) rfl rfl rfl ?_
                refine pm_R_br pm_M264 (pc' := 106) (st' := [.int x6_487]) rfl rfl ?_
                refine pm_R_op pm_M264 (pc' := 107) (st' := [.int 0, .int x6_487]) rfl rfl rfl ?_
                refine sf_R_iany pm_M264 (pc' := 108) (st := []) rfl rfl rfl (fun z500 => ?_)
                refine pm_R_lo pm_M264 (pc' := 110) (ls' := [.ref 41, .int a0, .int a1, .int a2, .long r37, pm_no, .int z500, .int x7_487, .int 0]) (st' := []) (pm_q264_1 (Nat.le_of_ble_eq_true rfl)) rfl rfl ?_
                refine sf_R_iinc pm_M264 (pc' := 113) (ls' := fun z => [.ref 41, .int a0, .int a1, .int a2, .long r37, pm_no, .int z500, .int z, .int 0]) (pm_q264_1 (Nat.le_of_ble_eq_true rfl)) B493 rfl (by decide) (by decide) (by decide) (fun _ => rfl) rfl (fun z501 e502 B503 => ?_)
                show pm_R _ 264 113 [.ref 41, .int a0, .int a1, .int a2, .long r37, pm_no, .int z500, .int z501, .int 0] [] _ _
                refine pm_R_br pm_M264 (pc' := 39) (pm_q264_1 (Nat.le_of_ble_eq_true rfl)) rfl ?_
                exact ih_487 _ (sf_up hN_487 e502 B493 (by decide) (by decide)) h_487 m_487 w_487 z500 z501 (.int 0) T_487 F_487 W_487 (sf_any z500) (sf_weak B503 (by decide) (by decide)) rfl rfl
              · skip
                refine pm_R_lo pm_M264 (pc' := 56) rfl rfl rfl ?_
                refine pm_R_cs pm_M264 (pc' := 59) (ra := [.long r37]) (rest := []) (ls' := [.long r37, pm_no, pm_no, pm_no]) rfl rfl (Or.inl rfl) pm_M222 rfl rfl (Nat.le_of_ble_eq_true rfl) rfl rfl ?_
                refine rf_c222 (d := d + 5)  (fun r504 B505 => ?_)
                show pm_R _ 264 59 [.ref 41, .int a0, .int a1, .int a2, .long r37, pm_no, .int x6_487, .int x7_487, g8_487] [.int r504] _ _
                refine pm_R_op pm_M264 (pc' := 60) (st' := [.int 1, .int r504]) rfl rfl rfl ?_
                refine pm_R_icmp pm_M264 (t := 78) (pc' := 63) rfl rfl rfl (fun c512 => ?_) (fun c512 => ?_)
                · skip
                  refine pm_R_op pm_M264 (pc' := 79) (st' := [.int 0]) rfl rfl rfl ?_
                  refine pm_R_lo pm_M264 (pc' := 81) (ls' := [.ref 41, .int a0, .int a1, .int a2, .long r37, pm_no, .int x6_487, .int x7_487, .int 0]) (st' := []) rfl rfl rfl ?_
                  refine pm_R_lo pm_M264 (pc' := 83) rfl rfl rfl ?_
                  refine pm_R_lo pm_M264 (pc' := 85) rfl rfl rfl ?_
                  refine pm_R_br pm_M264 (pc' := 106) (st' := [.int x6_487]) rfl rfl ?_
                  refine pm_R_op pm_M264 (pc' := 107) (st' := [.int 0, .int x6_487]) rfl rfl rfl ?_
                  refine sf_R_iany pm_M264 (pc' := 108) (st := []) rfl rfl rfl (fun z516 => ?_)
                  refine pm_R_lo pm_M264 (pc' := 110) (ls' := [.ref 41, .int a0, .int a1, .int a2, .long r37, pm_no, .int z516, .int x7_487, .int 0]) (st' := []) (pm_q264_1 (Nat.le_of_ble_eq_true rfl)) rfl rfl ?_
                  refine sf_R_iinc pm_M264 (pc' := 113) (ls' := fun z => [.ref 41, .int a0, .int a1, .int a2, .long r37, pm_no, .int z516, .int z, .int 0]) (pm_q264_1 (Nat.le_of_ble_eq_true rfl)) B493 rfl (by decide) (by decide) (by decide) (fun _ => rfl) rfl (fun z517 e518 B519 => ?_)
                  show pm_R _ 264 113 [.ref 41, .int a0, .int a1, .int a2, .long r37, pm_no, .int z516, .int z517, .int 0] [] _ _
                  refine pm_R_br pm_M264 (pc' := 39) (pm_q264_1 (Nat.le_of_ble_eq_true rfl)) rfl ?_
                  exact ih_487 _ (sf_up hN_487 e518 B493 (by decide) (by decide)) h_487 m_487 w_487 z516 z517 (.int 0) T_487 F_487 W_487 (sf_any z516) (sf_weak B519 (by decide) (by decide)) rfl rfl
                · have B520 : sf_B 1 1 r504 := sf_eqL (Classical.not_not.mp c512) sf_k1
                  refine pm_R_lo pm_M264 (pc' := 64) rfl rfl rfl ?_
                  refine pm_R_lo pm_M264 (pc' := 65) rfl rfl rfl ?_
                  refine pm_R_lo pm_M264 (pc' := 67) rfl rfl rfl ?_
                  refine pm_R_lo pm_M264 (pc' := 68) rfl rfl rfl ?_
                  refine pm_R_cv pm_M264 (pc' := 71) (a := 41) (ra := [.int a2, .int x7_487, .int a1]) (rest := []) (ls' := [.ref 41, .int a1, .int x7_487, .int a2, pm_no]) rfl rfl (Or.inl rfl) pm_M261 T_487.2.1 rfl (by decide) (Nat.lt_of_lt_of_le (by decide) T_487.1) rfl rfl (Nat.le_of_ble_eq_true rfl) rfl rfl ?_
                  refine rf_c261 (d := d + 3) T_487  (fun r521 m523 w524 h525 T526 F527 W528 B522 => ?_)
                  have F529 := F_487.trans F527 (by decide)
                  have W530 : rf_W [0, 23, 24, 26, 42, 43, 44, 47] m m523 := W490.trans W528 (by decide)
                  have W531 : rf_W [23, 24, 26, 42, 43, 44, 47] m39 m523 := W_487.trans W528 (by decide)
                  show pm_R _ 264 71 [.ref 41, .int a0, .int a1, .int a2, .long r37, pm_no, .int x6_487, .int x7_487, g8_487] [.int r521] _ _
                  refine pm_R_ifc pm_M264 (t := 78) (pc' := 74) rfl rfl rfl (fun c532 => ?_) (fun c532 => ?_)
                  · have B533 : sf_B 0 0 r521 := sf_eqL c532 sf_k0
                    refine pm_R_op pm_M264 (pc' := 79) (st' := [.int 0]) rfl rfl rfl ?_
                    refine pm_R_lo pm_M264 (pc' := 81) (ls' := [.ref 41, .int a0, .int a1, .int a2, .long r37, pm_no, .int x6_487, .int x7_487, .int 0]) (st' := []) rfl rfl rfl ?_
                    refine pm_R_lo pm_M264 (pc' := 83) rfl rfl rfl ?_
                    refine pm_R_lo pm_M264 (pc' := 85) rfl rfl rfl ?_
                    refine pm_R_br pm_M264 (pc' := 106) (st' := [.int x6_487]) rfl rfl ?_
                    refine pm_R_op pm_M264 (pc' := 107) (st' := [.int 0, .int x6_487]) rfl rfl rfl ?_
                    refine sf_R_iany pm_M264 (pc' := 108) (st := []) rfl rfl rfl (fun z537 => ?_)
                    refine pm_R_lo pm_M264 (pc' := 110) (ls' := [.ref 41, .int a0, .int a1, .int a2, .long r37, pm_no, .int z537, .int x7_487, .int 0]) (st' := []) (pm_q264_1 (Nat.le_of_ble_eq_true rfl)) rfl rfl ?_
                    refine sf_R_iinc pm_M264 (pc' := 113) (ls' := fun z => [.ref 41, .int a0, .int a1, .int a2, .long r37, pm_no, .int z537, .int z, .int 0]) (pm_q264_1 (Nat.le_of_ble_eq_true rfl)) B493 rfl (by decide) (by decide) (by decide) (fun _ => rfl) rfl (fun z538 e539 B540 => ?_)
                    show pm_R _ 264 113 [.ref 41, .int a0, .int a1, .int a2, .long r37, pm_no, .int z537, .int z538, .int 0] [] _ _
                    refine pm_R_br pm_M264 (pc' := 39) (pm_q264_1 (Nat.le_of_ble_eq_true rfl)) rfl ?_
                    exact ih_487 _ (sf_up hN_487 e539 B493 (by decide) (by decide)) h525 m523 w524 z537 z538 (.int 0) T526 F529 W531 (sf_any z537) (sf_weak B540 (by decide) (by decide)) rfl rfl
                  · have B541 : sf_B 1 1 r521 := sf_neL0 c532 sf_k0 B522
                    refine pm_R_op pm_M264 (pc' := 75) (st' := [.int 1]) rfl rfl rfl ?_
                    refine pm_R_br pm_M264 (pc' := 79) rfl rfl ?_
                    refine pm_R_lo pm_M264 (pc' := 81) (ls' := [.ref 41, .int a0, .int a1, .int a2, .long r37, pm_no, .int x6_487, .int x7_487, .int 1]) (st' := []) rfl rfl rfl ?_
                    refine pm_R_lo pm_M264 (pc' := 83) rfl rfl rfl ?_
                    refine pm_R_lo pm_M264 (pc' := 85) rfl rfl rfl ?_
                    refine pm_R_br pm_M264 (pc' := 88) (st' := [.int x6_487]) rfl rfl ?_
                    refine pm_R_lo pm_M264 (pc' := 89) rfl rfl rfl ?_
                    refine pm_R_lo pm_M264 (pc' := 90) rfl rfl rfl ?_
                    refine pm_R_cv pm_M264 (pc' := 93) (a := 41) (ra := [.int a0]) (rest := [.int x6_487]) (ls' := [.ref 41, .int a0, pm_no]) rfl rfl (Or.inl rfl) pm_M263 T526.2.1 rfl (by decide) (Nat.lt_of_lt_of_le (by decide) T526.1) rfl rfl (Nat.le_of_ble_eq_true rfl) rfl rfl ?_
                    refine rf_c263 (d := d + 0) T526 B23 (fun r542 m544 w545 h546 T547 F548 W549 => ?_)
                    have F550 := F529.trans F548 (by decide)
                    have W551 : rf_W [0, 23, 24, 26, 42, 43, 44, 47] m m544 := W530.trans W549 (by decide)
                    have W552 : rf_W [23, 24, 26, 42, 43, 44, 47] m39 m544 := W531.trans W549 (by decide)
                    show pm_R _ 264 93 [.ref 41, .int a0, .int a1, .int a2, .long r37, pm_no, .int x6_487, .int x7_487, .int 1] [.long r542, .int x6_487] _ _
                    refine pm_R_lo pm_M264 (pc' := 95) rfl rfl rfl ?_
                    refine sf_R_lcmp pm_M264 (pc' := 96) rfl rfl (fun z553 e554 => ?_)
                    refine pm_R_ifc pm_M264 (t := 106) (pc' := 99) rfl rfl rfl (fun c555 => ?_) (fun c555 => ?_)
                    · have k556 := sf_lneC e554 c555
                      refine pm_R_op pm_M264 (pc' := 107) (st' := [.int 0, .int x6_487]) rfl rfl rfl ?_
                      refine sf_R_iany pm_M264 (pc' := 108) (st := []) rfl rfl rfl (fun z560 => ?_)
                      refine pm_R_lo pm_M264 (pc' := 110) (ls' := [.ref 41, .int a0, .int a1, .int a2, .long r37, pm_no, .int z560, .int x7_487, .int 1]) (st' := []) (pm_q264_1 (Nat.le_of_ble_eq_true rfl)) rfl rfl ?_
                      refine sf_R_iinc pm_M264 (pc' := 113) (ls' := fun z => [.ref 41, .int a0, .int a1, .int a2, .long r37, pm_no, .int z560, .int z, .int 1]) (pm_q264_1 (Nat.le_of_ble_eq_true rfl)) B493 rfl (by decide) (by decide) (by decide) (fun _ => rfl) rfl (fun z561 e562 B563 => ?_)
                      show pm_R _ 264 113 [.ref 41, .int a0, .int a1, .int a2, .long r37, pm_no, .int z560, .int z561, .int 1] [] _ _
                      refine pm_R_br pm_M264 (pc' := 39) (pm_q264_1 (Nat.le_of_ble_eq_true rfl)) rfl ?_
                      exact ih_487 _ (sf_up hN_487 e562 B493 (by decide) (by decide)) h546 m544 w545 z560 z561 (.int 1) T547 F550 W552 (sf_any z560) (sf_weak B563 (by decide) (by decide)) rfl rfl
                    · have B564 : sf_B 0 0 z553 := sf_eqL (Classical.not_not.mp c555) sf_k0
                      refine pm_R_op pm_M264 (pc' := 100) (st' := [.int 1, .int x6_487]) rfl rfl rfl ?_
                      refine pm_R_lo pm_M264 (pc' := 102) rfl rfl rfl ?_
                      refine sf_R_iany pm_M264 (pc' := 103) (st := [.int x6_487]) rfl rfl rfl (fun z568 => ?_)
                      refine pm_R_br pm_M264 (pc' := 107) rfl rfl ?_
                      refine sf_R_iany pm_M264 (pc' := 108) (st := []) rfl rfl rfl (fun z572 => ?_)
                      refine pm_R_lo pm_M264 (pc' := 110) (ls' := [.ref 41, .int a0, .int a1, .int a2, .long r37, pm_no, .int z572, .int x7_487, .int 1]) (st' := []) (pm_q264_1 (Nat.le_of_ble_eq_true rfl)) rfl rfl ?_
                      refine sf_R_iinc pm_M264 (pc' := 113) (ls' := fun z => [.ref 41, .int a0, .int a1, .int a2, .long r37, pm_no, .int z572, .int z, .int 1]) (pm_q264_1 (Nat.le_of_ble_eq_true rfl)) B493 rfl (by decide) (by decide) (by decide) (fun _ => rfl) rfl (fun z573 e574 B575 => ?_)
                      show pm_R _ 264 113 [.ref 41, .int a0, .int a1, .int a2, .long r37, pm_no, .int z572, .int z573, .int 1] [] _ _
                      refine pm_R_br pm_M264 (pc' := 39) (pm_q264_1 (Nat.le_of_ble_eq_true rfl)) rfl ?_
                      exact ih_487 _ (sf_up hN_487 e574 B493 (by decide) (by decide)) h546 m544 w545 z572 z573 (.int 1) T547 F550 W552 (sf_any z572) (sf_weak B575 (by decide) (by decide)) rfl rfl
        exact L_487 _ h41 m39 w40 0 0 (pm_no) T42 F45 (rf_W.refl _ _) (sf_weak sf_k0 (by decide) (by decide)) (sf_weak sf_k0 (by decide) (by decide)) rfl rfl
      · have B576 : sf_B 0 0 r25 := sf_eqL (Classical.not_not.mp c35) sf_k0
        refine pm_R_op pm_M264 (pc' := 25) (st' := [.int (-1)]) rfl rfl rfl ?_
        exact pm_R_ret pm_M264 (r := some (.int (-1))) rfl rfl (K (-1) m27 w28 h29 T30 F33 W34)
