set_option maxRecDepth 100000 in
set_option maxHeartbeats 4000000 in
/-- SilentTableModel.fault -/
theorem rf_c194 {d : Nat} {m : Nat → Int32} {w : Int64} {h : pm_H} {Q : Option Value → pm_H → Prop} {a0 : Int32} (T : rf_T m w h)  (K : ∀ (r : Int32) (m' : Nat → Int32) (w' : Int64) (h' : pm_H), rf_T m' w' h' → rf_G [41] h h' → rf_W [0] m m' → sf_B (-1) 600 r → Q (some (.int r)) h') : pm_R (d + 0) 194 0 [.ref 41, .int a0] [] h Q := by
  refine pm_R_lo pm_M194 (pc' := 1) rfl rfl rfl ?_
  refine pm_R_op pm_M194 (pc' := 2) (st' := [.int 0, .ref 41]) rfl rfl rfl ?_
  refine rf_R_put pm_M194 T (pc' := 5) rfl rfl rfl (by decide) rfl rfl sf_k0 rfl rfl (fun h1 m4 em5 T2 F3 => ?_)
  have F6 := (rf_G.refl [41] h).trans F3 (by decide)
  have B7 : sf_B 0 0 (m4 0) := by rw [em5]; exact sf_k0
  have W9 : rf_W [0] m m4 := by rw [em5]; exact (rf_W.refl [0] m).put (by decide)
  refine pm_R_lo pm_M194 (pc' := 6) rfl rfl rfl ?_
  refine pm_R_ifc pm_M194 (t := 18) (pc' := 9) rfl rfl rfl (fun c10 => ?_) (fun c10 => ?_)
  · skip
    refine pm_R_lo pm_M194 (pc' := 19) rfl rfl rfl ?_
    refine pm_R_op pm_M194 (pc' := 20) (st' := [.int 1, .int a0]) rfl rfl rfl ?_
    refine pm_R_icmp pm_M194 (t := 32) (pc' := 23) rfl rfl rfl (fun c11 => ?_) (fun c11 => ?_)
    · skip
      refine pm_R_op pm_M194 (pc' := 33) (st' := [.int (-1)]) rfl rfl rfl ?_
      exact pm_R_ret pm_M194 (r := some (.int (-1))) rfl rfl (K (-1) m4 w h1 T2 F6 W9 (sf_weak sf_kn1 (by decide) (by decide)))
    · have B12 : sf_B 1 1 a0 := sf_eqL (Classical.not_not.mp c11) sf_k1
      refine pm_R_lo pm_M194 (pc' := 24) rfl rfl rfl ?_
      refine rf_R_get pm_M194 T2 (pc' := 27) (v := .ref 45) rfl rfl rfl rfl ?_
      refine pm_R_op pm_M194 (pc' := 28) (st' := [.int 0, .ref 45]) rfl rfl rfl ?_
      obtain ⟨f13, e14, b15⟩ := T2.2.2.2.1 45 (by decide) (by decide)
      refine rf_R_ild pm_M194 T2 (pc' := 29) rfl e14 (by decide) rfl rfl (fun z16 ez17 => ?_)
      have B18 : sf_B (-1) 600 z16 := ez17 ▸ b15 _
      refine pm_R_br pm_M194 (pc' := 33) rfl rfl ?_
      exact pm_R_ret pm_M194 (r := some (.int z16)) rfl (pm_ret_i _) (K z16 m4 w h1 T2 F6 W9 B18)
  · have B19 : sf_B 0 0 a0 := sf_eqL (Classical.not_not.mp c10) sf_k0
    refine pm_R_lo pm_M194 (pc' := 10) rfl rfl rfl ?_
    refine rf_R_get pm_M194 T2 (pc' := 13) (v := .ref 44) rfl rfl rfl rfl ?_
    refine pm_R_op pm_M194 (pc' := 14) (st' := [.int 0, .ref 44]) rfl rfl rfl ?_
    obtain ⟨f20, e21, b22⟩ := T2.2.2.2.1 44 (by decide) (by decide)
    refine rf_R_ild pm_M194 T2 (pc' := 15) rfl e21 (by decide) rfl rfl (fun z23 ez24 => ?_)
    have B25 : sf_B 0 4 z23 := ez24 ▸ b22 _
    refine pm_R_br pm_M194 (pc' := 33) rfl rfl ?_
    exact pm_R_ret pm_M194 (r := some (.int z23)) rfl (pm_ret_i _) (K z23 m4 w h1 T2 F6 W9 (sf_weak B25 (by decide) (by decide)))

set_option maxRecDepth 100000 in
set_option maxHeartbeats 4000000 in
/-- SilentTableModel.list -/
theorem rf_c195 {d : Nat} {m : Nat → Int32} {w : Int64} {h : pm_H} {Q : Option Value → pm_H → Prop} {a0 : Int32} {a1 : Int32} (T : rf_T m w h)  (K : ∀ (r : Int32) (m' : Nat → Int32) (w' : Int64) (h' : pm_H), rf_T m' w' h' → rf_G [41] h h' → rf_W [0] m m' → Q (some (.int r)) h') : pm_R (d + 2) 195 0 [.ref 41, .int a0, .int a1] [] h Q := by
  refine pm_R_lo pm_M195 (pc' := 1) rfl rfl rfl ?_
  refine pm_R_op pm_M195 (pc' := 2) (st' := [.int 0, .ref 41]) rfl rfl rfl ?_
  refine rf_R_put pm_M195 T (pc' := 5) rfl rfl rfl (by decide) rfl rfl sf_k0 rfl rfl (fun h1 m4 em5 T2 F3 => ?_)
  have F6 := (rf_G.refl [41] h).trans F3 (by decide)
  have B7 : sf_B 0 0 (m4 0) := by rw [em5]; exact sf_k0
  have W9 : rf_W [0] m m4 := by rw [em5]; exact (rf_W.refl [0] m).put (by decide)
  refine pm_R_lo pm_M195 (pc' := 6) rfl rfl rfl ?_
  refine pm_R_op pm_M195 (pc' := 7) (st' := [.int 0, .ref 41]) rfl rfl rfl ?_
  refine pm_R_lo pm_M195 (pc' := 8) rfl rfl rfl ?_
  refine pm_R_cv pm_M195 (pc' := 11) (a := 41) (ra := [.int a0, .int 0]) (rest := []) (ls' := [.ref 41, .int 0, .int a0]) rfl rfl (Or.inl rfl) pm_M177 T2.2.1 rfl (by decide) (Nat.lt_of_lt_of_le (by decide) T2.1) rfl rfl (Nat.le_of_ble_eq_true rfl) rfl rfl ?_
  refine pm_R_lo pm_M177 (pc' := 1) rfl rfl rfl ?_
  refine pm_R_op pm_M177 (pc' := 2) (st' := [.int 0, .int a0]) rfl rfl rfl ?_
  refine pm_R_lo pm_M177 (pc' := 3) rfl rfl rfl ?_
  refine rf_R_get pm_M177 T2 (pc' := 6) (v := .ref 46) rfl rfl rfl rfl ?_
  refine pm_R_lo pm_M177 (pc' := 7) rfl rfl rfl ?_
  obtain ⟨f10, e11, b12⟩ := T2.2.2.2.1 46 (by decide) (by decide)
  refine rf_R_ild pm_M177 T2 (pc' := 8) rfl e11 (by decide) rfl rfl (fun z13 ez14 => ?_)
  have B15 : sf_B 0 2 z13 := ez14 ▸ (b12 0)
  refine pm_R_op pm_M177 (pc' := 9) (st' := [.int 1, .int z13, .int 0, .int a0]) rfl rfl rfl ?_
  refine sf_R_isub pm_M177 (pc' := 10) rfl rfl B15 sf_k1 (by decide) (by decide) (fun z16 e17 B18 => ?_)
  refine pm_R_cs pm_M177 (pc' := 13) (ra := [.int z16, .int 0, .int a0]) (rest := []) (ls' := [.int a0, .int 0, .int z16]) rfl rfl (Or.inl rfl) pm_M174 rfl rfl (Nat.le_of_ble_eq_true rfl) rfl rfl ?_
  refine pm_R_lo pm_M174 (pc' := 1) rfl rfl rfl ?_
  refine pm_R_lo pm_M174 (pc' := 2) rfl rfl rfl ?_
  refine pm_R_icmp pm_M174 (t := 14) (pc' := 5) rfl rfl rfl (fun c19 => ?_) (fun c19 => ?_)
  · have B20 : sf_B (-2147483648) (-1) a0 := sf_ltL c19 (sf_any a0) sf_k0
    refine pm_R_op pm_M174 (pc' := 15) (st' := [.int 0]) rfl rfl rfl ?_
    refine pm_R_ret pm_M174 (r := some (.int 0)) rfl rfl ?_
    show pm_R _ 177 13 [.ref 41, .int 0, .int a0] [.int 0] _ _
    refine pm_R_ret pm_M177 (r := some (.int 0)) rfl rfl ?_
    show pm_R _ 195 11 [.ref 41, .int a0, .int a1] [.int 0] _ _
    refine pm_R_br pm_M195 (pc' := 63) (st' := []) rfl rfl ?_
    refine pm_R_op pm_M195 (pc' := 64) (st' := [.int (-1)]) rfl rfl rfl ?_
    exact pm_R_ret pm_M195 (r := some (.int (-1))) rfl rfl (K (-1) m4 w h1 T2 F6 W9)
  · have B21 : sf_B 0 2147483647 a0 := sf_leR (Int32.not_lt.mp c19) sf_k0 (sf_any a0)
    refine pm_R_lo pm_M174 (pc' := 6) rfl rfl rfl ?_
    refine pm_R_lo pm_M174 (pc' := 7) rfl rfl rfl ?_
    refine pm_R_icmp pm_M174 (t := 14) (pc' := 10) rfl rfl rfl (fun c22 => ?_) (fun c22 => ?_)
    · skip
      refine pm_R_op pm_M174 (pc' := 15) (st' := [.int 0]) rfl rfl rfl ?_
      refine pm_R_ret pm_M174 (r := some (.int 0)) rfl rfl ?_
      show pm_R _ 177 13 [.ref 41, .int 0, .int a0] [.int 0] _ _
      refine pm_R_ret pm_M177 (r := some (.int 0)) rfl rfl ?_
      show pm_R _ 195 11 [.ref 41, .int a0, .int a1] [.int 0] _ _
      refine pm_R_br pm_M195 (pc' := 63) (st' := []) rfl rfl ?_
      refine pm_R_op pm_M195 (pc' := 64) (st' := [.int (-1)]) rfl rfl rfl ?_
      exact pm_R_ret pm_M195 (r := some (.int (-1))) rfl rfl (K (-1) m4 w h1 T2 F6 W9)
    · have B23 : sf_B 0 1 a0 := sf_leL (Int32.not_lt.mp c22) B21 B18
      have B24 : sf_B 0 1 z16 := sf_leR (Int32.not_lt.mp c22) B21 B18
      refine pm_R_op pm_M174 (pc' := 11) (st' := [.int 1]) rfl rfl rfl ?_
      refine pm_R_br pm_M174 (pc' := 15) rfl rfl ?_
      refine pm_R_ret pm_M174 (r := some (.int 1)) rfl rfl ?_
      show pm_R _ 177 13 [.ref 41, .int 0, .int a0] [.int 1] _ _
      refine pm_R_ret pm_M177 (r := some (.int 1)) rfl rfl ?_
      show pm_R _ 195 11 [.ref 41, .int a0, .int a1] [.int 1] _ _
      refine pm_R_br pm_M195 (pc' := 14) (st' := []) rfl rfl ?_
      refine pm_R_lo pm_M195 (pc' := 15) rfl rfl rfl ?_
      refine pm_R_op pm_M195 (pc' := 16) (st' := [.int 0, .int a1]) rfl rfl rfl ?_
      refine pm_R_op pm_M195 (pc' := 17) (st' := [.int 1, .int 0, .int a1]) rfl rfl rfl ?_
      refine pm_R_cs pm_M195 (pc' := 20) (ra := [.int 1, .int 0, .int a1]) (rest := []) (ls' := [.int a1, .int 0, .int 1]) rfl rfl (Or.inl rfl) pm_M174 rfl rfl (Nat.le_of_ble_eq_true rfl) rfl rfl ?_
      refine pm_R_lo pm_M174 (pc' := 1) rfl rfl rfl ?_
      refine pm_R_lo pm_M174 (pc' := 2) rfl rfl rfl ?_
      refine pm_R_icmp pm_M174 (t := 14) (pc' := 5) rfl rfl rfl (fun c25 => ?_) (fun c25 => ?_)
      · have B26 : sf_B (-2147483648) (-1) a1 := sf_ltL c25 (sf_any a1) sf_k0
        refine pm_R_op pm_M174 (pc' := 15) (st' := [.int 0]) rfl rfl rfl ?_
        refine pm_R_ret pm_M174 (r := some (.int 0)) rfl rfl ?_
        show pm_R _ 195 20 [.ref 41, .int a0, .int a1] [.int 0] _ _
        refine pm_R_br pm_M195 (pc' := 23) (st' := []) rfl rfl ?_
        refine pm_R_lo pm_M195 (pc' := 24) rfl rfl rfl ?_
        refine pm_R_op pm_M195 (pc' := 26) (st' := [.int 10, .int a1]) rfl rfl rfl ?_
        refine pm_R_op pm_M195 (pc' := 28) (st' := [.int 19, .int 10, .int a1]) rfl rfl rfl ?_
        refine pm_R_cs pm_M195 (pc' := 31) (ra := [.int 19, .int 10, .int a1]) (rest := []) (ls' := [.int a1, .int 10, .int 19]) rfl rfl (Or.inl rfl) pm_M174 rfl rfl (Nat.le_of_ble_eq_true rfl) rfl rfl ?_
        refine pm_R_lo pm_M174 (pc' := 1) rfl rfl rfl ?_
        refine pm_R_lo pm_M174 (pc' := 2) rfl rfl rfl ?_
        refine pm_R_icmp pm_M174 (t := 14) (pc' := 5) rfl rfl rfl (fun c27 => ?_) (fun c27 => absurd (Int32.not_lt.mp c27) (sf_nle sf_k10 B26 (by decide)))
        skip
        refine pm_R_op pm_M174 (pc' := 15) (st' := [.int 0]) rfl rfl rfl ?_
        refine pm_R_ret pm_M174 (r := some (.int 0)) rfl rfl ?_
        show pm_R _ 195 31 [.ref 41, .int a0, .int a1] [.int 0] _ _
        refine pm_R_br pm_M195 (pc' := 63) (st' := []) rfl rfl ?_
        refine pm_R_op pm_M195 (pc' := 64) (st' := [.int (-1)]) rfl rfl rfl ?_
        exact pm_R_ret pm_M195 (r := some (.int (-1))) rfl rfl (K (-1) m4 w h1 T2 F6 W9)
      · have B28 : sf_B 0 2147483647 a1 := sf_leR (Int32.not_lt.mp c25) sf_k0 (sf_any a1)
        refine pm_R_lo pm_M174 (pc' := 6) rfl rfl rfl ?_
        refine pm_R_lo pm_M174 (pc' := 7) rfl rfl rfl ?_
        refine pm_R_icmp pm_M174 (t := 14) (pc' := 10) rfl rfl rfl (fun c29 => ?_) (fun c29 => ?_)
        · have B30 : sf_B 2 2147483647 a1 := sf_ltR c29 sf_k1 B28
          refine pm_R_op pm_M174 (pc' := 15) (st' := [.int 0]) rfl rfl rfl ?_
          refine pm_R_ret pm_M174 (r := some (.int 0)) rfl rfl ?_
          show pm_R _ 195 20 [.ref 41, .int a0, .int a1] [.int 0] _ _
          refine pm_R_br pm_M195 (pc' := 23) (st' := []) rfl rfl ?_
          refine pm_R_lo pm_M195 (pc' := 24) rfl rfl rfl ?_
          refine pm_R_op pm_M195 (pc' := 26) (st' := [.int 10, .int a1]) rfl rfl rfl ?_
          refine pm_R_op pm_M195 (pc' := 28) (st' := [.int 19, .int 10, .int a1]) rfl rfl rfl ?_
          refine pm_R_cs pm_M195 (pc' := 31) (ra := [.int 19, .int 10, .int a1]) (rest := []) (ls' := [.int a1, .int 10, .int 19]) rfl rfl (Or.inl rfl) pm_M174 rfl rfl (Nat.le_of_ble_eq_true rfl) rfl rfl ?_
          refine pm_R_lo pm_M174 (pc' := 1) rfl rfl rfl ?_
          refine pm_R_lo pm_M174 (pc' := 2) rfl rfl rfl ?_
          refine pm_R_icmp pm_M174 (t := 14) (pc' := 5) rfl rfl rfl (fun c31 => ?_) (fun c31 => ?_)
          · have B32 : sf_B 2 9 a1 := sf_ltL c31 B30 sf_k10
            refine pm_R_op pm_M174 (pc' := 15) (st' := [.int 0]) rfl rfl rfl ?_
            refine pm_R_ret pm_M174 (r := some (.int 0)) rfl rfl ?_
            show pm_R _ 195 31 [.ref 41, .int a0, .int a1] [.int 0] _ _
            refine pm_R_br pm_M195 (pc' := 63) (st' := []) rfl rfl ?_
            refine pm_R_op pm_M195 (pc' := 64) (st' := [.int (-1)]) rfl rfl rfl ?_
            exact pm_R_ret pm_M195 (r := some (.int (-1))) rfl rfl (K (-1) m4 w h1 T2 F6 W9)
          · have B33 : sf_B 10 2147483647 a1 := sf_leR (Int32.not_lt.mp c31) sf_k10 B30
            refine pm_R_lo pm_M174 (pc' := 6) rfl rfl rfl ?_
            refine pm_R_lo pm_M174 (pc' := 7) rfl rfl rfl ?_
            refine pm_R_icmp pm_M174 (t := 14) (pc' := 10) rfl rfl rfl (fun c34 => ?_) (fun c34 => ?_)
            · have B35 : sf_B 20 2147483647 a1 := sf_ltR c34 sf_k19 B33
              refine pm_R_op pm_M174 (pc' := 15) (st' := [.int 0]) rfl rfl rfl ?_
              refine pm_R_ret pm_M174 (r := some (.int 0)) rfl rfl ?_
              show pm_R _ 195 31 [.ref 41, .int a0, .int a1] [.int 0] _ _
              refine pm_R_br pm_M195 (pc' := 63) (st' := []) rfl rfl ?_
              refine pm_R_op pm_M195 (pc' := 64) (st' := [.int (-1)]) rfl rfl rfl ?_
              exact pm_R_ret pm_M195 (r := some (.int (-1))) rfl rfl (K (-1) m4 w h1 T2 F6 W9)
            · have B36 : sf_B 10 19 a1 := sf_leL (Int32.not_lt.mp c34) B33 sf_k19
              refine pm_R_op pm_M174 (pc' := 11) (st' := [.int 1]) rfl rfl rfl ?_
              refine pm_R_br pm_M174 (pc' := 15) rfl rfl ?_
              refine pm_R_ret pm_M174 (r := some (.int 1)) rfl rfl ?_
              show pm_R _ 195 31 [.ref 41, .int a0, .int a1] [.int 1] _ _
              refine pm_R_br pm_M195 (pc' := 34) (st' := []) rfl rfl ?_
              refine pm_R_lo pm_M195 (pc' := 35) rfl rfl rfl ?_
              refine rf_R_get pm_M195 T2 (pc' := 38) (v := .ref 47) rfl rfl rfl rfl ?_
              refine pm_R_op pm_M195 (pc' := 40) (st' := [.int 100, .ref 47]) rfl rfl rfl ?_
              refine pm_R_lo pm_M195 (pc' := 41) rfl rfl rfl ?_
              refine sf_R_imul pm_M195 (pc' := 42) rfl rfl sf_k100 B23 (by decide) (by decide) (by decide) (fun z37 e38 B39 => ?_)
              refine pm_R_lo pm_M195 (pc' := 43) rfl rfl rfl ?_
              refine pm_R_op pm_M195 (pc' := 44) (st' := [.int 2, .int a1, .int z37, .ref 47]) rfl rfl rfl ?_
              refine pm_R_icmp pm_M195 (t := 51) (pc' := 47) rfl rfl rfl (fun c40 => ?_) (fun c40 => absurd (Int32.not_le.mp c40) (sf_nlt B36 sf_k2 (by decide)))
              skip
              refine pm_R_op pm_M195 (pc' := 53) (st' := [.int 90, .int z37, .ref 47]) rfl rfl rfl ?_
              refine pm_R_lo pm_M195 (pc' := 54) rfl rfl rfl ?_
              refine sf_R_iadd pm_M195 (pc' := 55) rfl rfl sf_k90 B36 (by decide) (by decide) (fun z41 e42 B43 => ?_)
              refine pm_R_op pm_M195 (pc' := 57) (st' := [.int 10, .int z41, .int z37, .ref 47]) rfl rfl rfl ?_
              refine sf_R_isub pm_M195 (pc' := 58) rfl rfl B43 sf_k10 (by decide) (by decide) (fun z44 e45 B46 => ?_)
              refine sf_R_iadd pm_M195 (pc' := 59) rfl rfl B39 B46 (by decide) (by decide) (fun z47 e48 B49 => ?_)
              obtain ⟨f50, e51, b52⟩ := T2.2.2.2.1 47 (by decide) (by decide)
              refine rf_R_ild pm_M195 T2 (pc' := 60) rfl e51 (by decide) (sf_in B49 (by decide) (by decide)) rfl (fun z53 ez54 => ?_)
              refine pm_R_br pm_M195 (pc' := 64) rfl rfl ?_
              exact pm_R_ret pm_M195 (r := some (.int z53)) rfl (pm_ret_i _) (K z53 m4 w h1 T2 F6 W9)
        · have B55 : sf_B 0 1 a1 := sf_leL (Int32.not_lt.mp c29) B28 sf_k1
          refine pm_R_op pm_M174 (pc' := 11) (st' := [.int 1]) rfl rfl rfl ?_
          refine pm_R_br pm_M174 (pc' := 15) rfl rfl ?_
          refine pm_R_ret pm_M174 (r := some (.int 1)) rfl rfl ?_
          show pm_R _ 195 20 [.ref 41, .int a0, .int a1] [.int 1] _ _
          refine pm_R_br pm_M195 (pc' := 34) (st' := []) rfl rfl ?_
          refine pm_R_lo pm_M195 (pc' := 35) rfl rfl rfl ?_
          refine rf_R_get pm_M195 T2 (pc' := 38) (v := .ref 47) rfl rfl rfl rfl ?_
          refine pm_R_op pm_M195 (pc' := 40) (st' := [.int 100, .ref 47]) rfl rfl rfl ?_
          refine pm_R_lo pm_M195 (pc' := 41) rfl rfl rfl ?_
          refine sf_R_imul pm_M195 (pc' := 42) rfl rfl sf_k100 B23 (by decide) (by decide) (by decide) (fun z56 e57 B58 => ?_)
          refine pm_R_lo pm_M195 (pc' := 43) rfl rfl rfl ?_
          refine pm_R_op pm_M195 (pc' := 44) (st' := [.int 2, .int a1, .int z56, .ref 47]) rfl rfl rfl ?_
          refine pm_R_icmp pm_M195 (t := 51) (pc' := 47) rfl rfl rfl (fun c59 => absurd c59 (sf_nle sf_k2 B55 (by decide))) (fun c59 => ?_)
          skip
          refine pm_R_lo pm_M195 (pc' := 48) rfl rfl rfl ?_
          refine pm_R_br pm_M195 (pc' := 58) rfl rfl ?_
          refine sf_R_iadd pm_M195 (pc' := 59) rfl rfl B58 B55 (by decide) (by decide) (fun z60 e61 B62 => ?_)
          obtain ⟨f63, e64, b65⟩ := T2.2.2.2.1 47 (by decide) (by decide)
          refine rf_R_ild pm_M195 T2 (pc' := 60) rfl e64 (by decide) (sf_in B62 (by decide) (by decide)) rfl (fun z66 ez67 => ?_)
          refine pm_R_br pm_M195 (pc' := 64) rfl rfl ?_
          exact pm_R_ret pm_M195 (r := some (.int z66)) rfl (pm_ret_i _) (K z66 m4 w h1 T2 F6 W9)

set_option maxRecDepth 100000 in
set_option maxHeartbeats 4000000 in
/-- SilentTableModel.rule -/
theorem rf_c196 {d : Nat} {m : Nat → Int32} {w : Int64} {h : pm_H} {Q : Option Value → pm_H → Prop} {a0 : Int32} {a1 : Int32} {a2 : Int32} (T : rf_T m w h)  (K : ∀ (r : Int32) (m' : Nat → Int32) (w' : Int64) (h' : pm_H), rf_T m' w' h' → rf_G [41] h h' → rf_W [0] m m' → Q (some (.int r)) h') : pm_R (d + 2) 196 0 [.ref 41, .int a0, .int a1, .int a2] [] h Q := by
  refine pm_R_lo pm_M196 (pc' := 1) rfl rfl rfl ?_
  refine pm_R_op pm_M196 (pc' := 2) (st' := [.int 0, .ref 41]) rfl rfl rfl ?_
  refine rf_R_put pm_M196 T (pc' := 5) rfl rfl rfl (by decide) rfl rfl sf_k0 rfl rfl (fun h1 m4 em5 T2 F3 => ?_)
  have F6 := (rf_G.refl [41] h).trans F3 (by decide)
  have B7 : sf_B 0 0 (m4 0) := by rw [em5]; exact sf_k0
  have W9 : rf_W [0] m m4 := by rw [em5]; exact (rf_W.refl [0] m).put (by decide)
  refine pm_R_lo pm_M196 (pc' := 6) rfl rfl rfl ?_
  refine pm_R_op pm_M196 (pc' := 7) (st' := [.int 0, .ref 41]) rfl rfl rfl ?_
  refine pm_R_lo pm_M196 (pc' := 8) rfl rfl rfl ?_
  refine pm_R_cv pm_M196 (pc' := 11) (a := 41) (ra := [.int a0, .int 0]) (rest := []) (ls' := [.ref 41, .int 0, .int a0]) rfl rfl (Or.inl rfl) pm_M177 T2.2.1 rfl (by decide) (Nat.lt_of_lt_of_le (by decide) T2.1) rfl rfl (Nat.le_of_ble_eq_true rfl) rfl rfl ?_
  refine pm_R_lo pm_M177 (pc' := 1) rfl rfl rfl ?_
  refine pm_R_op pm_M177 (pc' := 2) (st' := [.int 0, .int a0]) rfl rfl rfl ?_
  refine pm_R_lo pm_M177 (pc' := 3) rfl rfl rfl ?_
  refine rf_R_get pm_M177 T2 (pc' := 6) (v := .ref 46) rfl rfl rfl rfl ?_
  refine pm_R_lo pm_M177 (pc' := 7) rfl rfl rfl ?_
  obtain ⟨f10, e11, b12⟩ := T2.2.2.2.1 46 (by decide) (by decide)
  refine rf_R_ild pm_M177 T2 (pc' := 8) rfl e11 (by decide) rfl rfl (fun z13 ez14 => ?_)
  have B15 : sf_B 0 2 z13 := ez14 ▸ (b12 0)
  refine pm_R_op pm_M177 (pc' := 9) (st' := [.int 1, .int z13, .int 0, .int a0]) rfl rfl rfl ?_
  refine sf_R_isub pm_M177 (pc' := 10) rfl rfl B15 sf_k1 (by decide) (by decide) (fun z16 e17 B18 => ?_)
  refine pm_R_cs pm_M177 (pc' := 13) (ra := [.int z16, .int 0, .int a0]) (rest := []) (ls' := [.int a0, .int 0, .int z16]) rfl rfl (Or.inl rfl) pm_M174 rfl rfl (Nat.le_of_ble_eq_true rfl) rfl rfl ?_
  refine pm_R_lo pm_M174 (pc' := 1) rfl rfl rfl ?_
  refine pm_R_lo pm_M174 (pc' := 2) rfl rfl rfl ?_
  refine pm_R_icmp pm_M174 (t := 14) (pc' := 5) rfl rfl rfl (fun c19 => ?_) (fun c19 => ?_)
  · have B20 : sf_B (-2147483648) (-1) a0 := sf_ltL c19 (sf_any a0) sf_k0
    refine pm_R_op pm_M174 (pc' := 15) (st' := [.int 0]) rfl rfl rfl ?_
    refine pm_R_ret pm_M174 (r := some (.int 0)) rfl rfl ?_
    show pm_R _ 177 13 [.ref 41, .int 0, .int a0] [.int 0] _ _
    refine pm_R_ret pm_M177 (r := some (.int 0)) rfl rfl ?_
    show pm_R _ 196 11 [.ref 41, .int a0, .int a1, .int a2] [.int 0] _ _
    refine pm_R_br pm_M196 (pc' := 62) (st' := []) rfl rfl ?_
    refine pm_R_op pm_M196 (pc' := 63) (st' := [.int (-1)]) rfl rfl rfl ?_
    exact pm_R_ret pm_M196 (r := some (.int (-1))) rfl rfl (K (-1) m4 w h1 T2 F6 W9)
  · have B21 : sf_B 0 2147483647 a0 := sf_leR (Int32.not_lt.mp c19) sf_k0 (sf_any a0)
    refine pm_R_lo pm_M174 (pc' := 6) rfl rfl rfl ?_
    refine pm_R_lo pm_M174 (pc' := 7) rfl rfl rfl ?_
    refine pm_R_icmp pm_M174 (t := 14) (pc' := 10) rfl rfl rfl (fun c22 => ?_) (fun c22 => ?_)
    · skip
      refine pm_R_op pm_M174 (pc' := 15) (st' := [.int 0]) rfl rfl rfl ?_
      refine pm_R_ret pm_M174 (r := some (.int 0)) rfl rfl ?_
      show pm_R _ 177 13 [.ref 41, .int 0, .int a0] [.int 0] _ _
      refine pm_R_ret pm_M177 (r := some (.int 0)) rfl rfl ?_
      show pm_R _ 196 11 [.ref 41, .int a0, .int a1, .int a2] [.int 0] _ _
      refine pm_R_br pm_M196 (pc' := 62) (st' := []) rfl rfl ?_
      refine pm_R_op pm_M196 (pc' := 63) (st' := [.int (-1)]) rfl rfl rfl ?_
      exact pm_R_ret pm_M196 (r := some (.int (-1))) rfl rfl (K (-1) m4 w h1 T2 F6 W9)
    · have B23 : sf_B 0 1 a0 := sf_leL (Int32.not_lt.mp c22) B21 B18
      have B24 : sf_B 0 1 z16 := sf_leR (Int32.not_lt.mp c22) B21 B18
      refine pm_R_op pm_M174 (pc' := 11) (st' := [.int 1]) rfl rfl rfl ?_
      refine pm_R_br pm_M174 (pc' := 15) rfl rfl ?_
      refine pm_R_ret pm_M174 (r := some (.int 1)) rfl rfl ?_
      show pm_R _ 177 13 [.ref 41, .int 0, .int a0] [.int 1] _ _
      refine pm_R_ret pm_M177 (r := some (.int 1)) rfl rfl ?_
      show pm_R _ 196 11 [.ref 41, .int a0, .int a1, .int a2] [.int 1] _ _
      refine pm_R_br pm_M196 (pc' := 14) (st' := []) rfl rfl ?_
      refine pm_R_lo pm_M196 (pc' := 15) rfl rfl rfl ?_
      refine pm_R_op pm_M196 (pc' := 16) (st' := [.int 0, .int a1]) rfl rfl rfl ?_
      refine pm_R_lo pm_M196 (pc' := 17) rfl rfl rfl ?_
      refine rf_R_get pm_M196 T2 (pc' := 20) (v := .ref 47) rfl rfl rfl rfl ?_
      refine pm_R_op pm_M196 (pc' := 22) (st' := [.int 100, .ref 47, .int 0, .int a1]) rfl rfl rfl ?_
      refine pm_R_lo pm_M196 (pc' := 23) rfl rfl rfl ?_
      refine sf_R_imul pm_M196 (pc' := 24) rfl rfl sf_k100 B23 (by decide) (by decide) (by decide) (fun z25 e26 B27 => ?_)
      obtain ⟨f28, e29, b30⟩ := T2.2.2.2.1 47 (by decide) (by decide)
      refine rf_R_ild pm_M196 T2 (pc' := 25) rfl e29 (by decide) (sf_in B27 (by decide) (by decide)) rfl (fun z31 ez32 => ?_)
      have e33 : (z25).toInt = 100 * (a0).toInt + 0 := by
        have q0 := e26
        simp only [(show (100 : Int32).toInt = 100 from rfl)] at q0
        omega
      have B34 : sf_B 0 10 z31 := ez32 ▸ rf_p47a b30 e33 B23 (by decide)
      refine pm_R_op pm_M196 (pc' := 26) (st' := [.int 1, .int z31, .int 0, .int a1]) rfl rfl rfl ?_
      refine sf_R_isub pm_M196 (pc' := 27) rfl rfl B34 sf_k1 (by decide) (by decide) (fun z35 e36 B37 => ?_)
      refine pm_R_cs pm_M196 (pc' := 30) (ra := [.int z35, .int 0, .int a1]) (rest := []) (ls' := [.int a1, .int 0, .int z35]) rfl rfl (Or.inl rfl) pm_M174 rfl rfl (Nat.le_of_ble_eq_true rfl) rfl rfl ?_
      refine pm_R_lo pm_M174 (pc' := 1) rfl rfl rfl ?_
      refine pm_R_lo pm_M174 (pc' := 2) rfl rfl rfl ?_
      refine pm_R_icmp pm_M174 (t := 14) (pc' := 5) rfl rfl rfl (fun c38 => ?_) (fun c38 => ?_)
      · have B39 : sf_B (-2147483648) (-1) a1 := sf_ltL c38 (sf_any a1) sf_k0
        refine pm_R_op pm_M174 (pc' := 15) (st' := [.int 0]) rfl rfl rfl ?_
        refine pm_R_ret pm_M174 (r := some (.int 0)) rfl rfl ?_
        show pm_R _ 196 30 [.ref 41, .int a0, .int a1, .int a2] [.int 0] _ _
        refine pm_R_br pm_M196 (pc' := 62) (st' := []) rfl rfl ?_
        refine pm_R_op pm_M196 (pc' := 63) (st' := [.int (-1)]) rfl rfl rfl ?_
        exact pm_R_ret pm_M196 (r := some (.int (-1))) rfl rfl (K (-1) m4 w h1 T2 F6 W9)
      · have B40 : sf_B 0 2147483647 a1 := sf_leR (Int32.not_lt.mp c38) sf_k0 (sf_any a1)
        refine pm_R_lo pm_M174 (pc' := 6) rfl rfl rfl ?_
        refine pm_R_lo pm_M174 (pc' := 7) rfl rfl rfl ?_
        refine pm_R_icmp pm_M174 (t := 14) (pc' := 10) rfl rfl rfl (fun c41 => ?_) (fun c41 => ?_)
        · skip
          refine pm_R_op pm_M174 (pc' := 15) (st' := [.int 0]) rfl rfl rfl ?_
          refine pm_R_ret pm_M174 (r := some (.int 0)) rfl rfl ?_
          show pm_R _ 196 30 [.ref 41, .int a0, .int a1, .int a2] [.int 0] _ _
          refine pm_R_br pm_M196 (pc' := 62) (st' := []) rfl rfl ?_
          refine pm_R_op pm_M196 (pc' := 63) (st' := [.int (-1)]) rfl rfl rfl ?_
          exact pm_R_ret pm_M196 (r := some (.int (-1))) rfl rfl (K (-1) m4 w h1 T2 F6 W9)
        · have B42 : sf_B 0 9 a1 := sf_leL (Int32.not_lt.mp c41) B40 B37
          have B43 : sf_B 0 9 z35 := sf_leR (Int32.not_lt.mp c41) B40 B37
          refine pm_R_op pm_M174 (pc' := 11) (st' := [.int 1]) rfl rfl rfl ?_
          refine pm_R_br pm_M174 (pc' := 15) rfl rfl ?_
          refine pm_R_ret pm_M174 (r := some (.int 1)) rfl rfl ?_
          show pm_R _ 196 30 [.ref 41, .int a0, .int a1, .int a2] [.int 1] _ _
          refine pm_R_br pm_M196 (pc' := 33) (st' := []) rfl rfl ?_
          refine pm_R_lo pm_M196 (pc' := 34) rfl rfl rfl ?_
          refine pm_R_op pm_M196 (pc' := 35) (st' := [.int 0, .int a2]) rfl rfl rfl ?_
          refine pm_R_op pm_M196 (pc' := 36) (st' := [.int 3, .int 0, .int a2]) rfl rfl rfl ?_
          refine pm_R_cs pm_M196 (pc' := 39) (ra := [.int 3, .int 0, .int a2]) (rest := []) (ls' := [.int a2, .int 0, .int 3]) rfl rfl (Or.inl rfl) pm_M174 rfl rfl (Nat.le_of_ble_eq_true rfl) rfl rfl ?_
          refine pm_R_lo pm_M174 (pc' := 1) rfl rfl rfl ?_
          refine pm_R_lo pm_M174 (pc' := 2) rfl rfl rfl ?_
          refine pm_R_icmp pm_M174 (t := 14) (pc' := 5) rfl rfl rfl (fun c44 => ?_) (fun c44 => ?_)
          · have B45 : sf_B (-2147483648) (-1) a2 := sf_ltL c44 (sf_any a2) sf_k0
            refine pm_R_op pm_M174 (pc' := 15) (st' := [.int 0]) rfl rfl rfl ?_
            refine pm_R_ret pm_M174 (r := some (.int 0)) rfl rfl ?_
            show pm_R _ 196 39 [.ref 41, .int a0, .int a1, .int a2] [.int 0] _ _
            refine pm_R_br pm_M196 (pc' := 62) (st' := []) rfl rfl ?_
            refine pm_R_op pm_M196 (pc' := 63) (st' := [.int (-1)]) rfl rfl rfl ?_
            exact pm_R_ret pm_M196 (r := some (.int (-1))) rfl rfl (K (-1) m4 w h1 T2 F6 W9)
          · have B46 : sf_B 0 2147483647 a2 := sf_leR (Int32.not_lt.mp c44) sf_k0 (sf_any a2)
            refine pm_R_lo pm_M174 (pc' := 6) rfl rfl rfl ?_
            refine pm_R_lo pm_M174 (pc' := 7) rfl rfl rfl ?_
            refine pm_R_icmp pm_M174 (t := 14) (pc' := 10) rfl rfl rfl (fun c47 => ?_) (fun c47 => ?_)
            · have B48 : sf_B 4 2147483647 a2 := sf_ltR c47 sf_k3 B46
              refine pm_R_op pm_M174 (pc' := 15) (st' := [.int 0]) rfl rfl rfl ?_
              refine pm_R_ret pm_M174 (r := some (.int 0)) rfl rfl ?_
              show pm_R _ 196 39 [.ref 41, .int a0, .int a1, .int a2] [.int 0] _ _
              refine pm_R_br pm_M196 (pc' := 62) (st' := []) rfl rfl ?_
              refine pm_R_op pm_M196 (pc' := 63) (st' := [.int (-1)]) rfl rfl rfl ?_
              exact pm_R_ret pm_M196 (r := some (.int (-1))) rfl rfl (K (-1) m4 w h1 T2 F6 W9)
            · have B49 : sf_B 0 3 a2 := sf_leL (Int32.not_lt.mp c47) B46 sf_k3
              refine pm_R_op pm_M174 (pc' := 11) (st' := [.int 1]) rfl rfl rfl ?_
              refine pm_R_br pm_M174 (pc' := 15) rfl rfl ?_
              refine pm_R_ret pm_M174 (r := some (.int 1)) rfl rfl ?_
              show pm_R _ 196 39 [.ref 41, .int a0, .int a1, .int a2] [.int 1] _ _
              refine pm_R_br pm_M196 (pc' := 42) (st' := []) rfl rfl ?_
              refine pm_R_lo pm_M196 (pc' := 43) rfl rfl rfl ?_
              refine rf_R_get pm_M196 T2 (pc' := 46) (v := .ref 47) rfl rfl rfl rfl ?_
              refine pm_R_op pm_M196 (pc' := 48) (st' := [.int 100, .ref 47]) rfl rfl rfl ?_
              refine pm_R_lo pm_M196 (pc' := 49) rfl rfl rfl ?_
              refine sf_R_imul pm_M196 (pc' := 50) rfl rfl sf_k100 B23 (by decide) (by decide) (by decide) (fun z50 e51 B52 => ?_)
              refine pm_R_op pm_M196 (pc' := 51) (st' := [.int 2, .int z50, .ref 47]) rfl rfl rfl ?_
              refine sf_R_iadd pm_M196 (pc' := 52) rfl rfl B52 sf_k2 (by decide) (by decide) (fun z53 e54 B55 => ?_)
              refine pm_R_op pm_M196 (pc' := 53) (st' := [.int 4, .int z53, .ref 47]) rfl rfl rfl ?_
              refine pm_R_lo pm_M196 (pc' := 54) rfl rfl rfl ?_
              refine sf_R_imul pm_M196 (pc' := 55) rfl rfl sf_k4 B42 (by decide) (by decide) (by decide) (fun z56 e57 B58 => ?_)
              refine sf_R_iadd pm_M196 (pc' := 56) rfl rfl B55 B58 (by decide) (by decide) (fun z59 e60 B61 => ?_)
              refine pm_R_lo pm_M196 (pc' := 57) rfl rfl rfl ?_
              refine sf_R_iadd pm_M196 (pc' := 58) rfl rfl B61 B49 (by decide) (by decide) (fun z62 e63 B64 => ?_)
              refine rf_R_ild pm_M196 T2 (pc' := 59) rfl e29 (by decide) (sf_in B64 (by decide) (by decide)) rfl (fun z65 ez66 => ?_)
              refine pm_R_br pm_M196 (pc' := 63) rfl rfl ?_
              exact pm_R_ret pm_M196 (r := some (.int z65)) rfl (pm_ret_i _) (K z65 m4 w h1 T2 F6 W9)

set_option maxRecDepth 100000 in
set_option maxHeartbeats 4000000 in
/-- SilentTableModel.reading -/
theorem rf_c197 {d : Nat} {m : Nat → Int32} {w : Int64} {h : pm_H} {Q : Option Value → pm_H → Prop} {a0 : Int32} {a1 : Int32} {a2 : Int32} (T : rf_T m w h)  (K : ∀ (r : Int32) (m' : Nat → Int32) (w' : Int64) (h' : pm_H), rf_T m' w' h' → rf_G [41] h h' → rf_W [0] m m' → Q (some (.int r)) h') : pm_R (d + 2) 197 0 [.ref 41, .int a0, .int a1, .int a2] [] h Q := by
  refine pm_R_lo pm_M197 (pc' := 1) rfl rfl rfl ?_
  refine pm_R_op pm_M197 (pc' := 2) (st' := [.int 0, .ref 41]) rfl rfl rfl ?_
  refine rf_R_put pm_M197 T (pc' := 5) rfl rfl rfl (by decide) rfl rfl sf_k0 rfl rfl (fun h1 m4 em5 T2 F3 => ?_)
  have F6 := (rf_G.refl [41] h).trans F3 (by decide)
  have B7 : sf_B 0 0 (m4 0) := by rw [em5]; exact sf_k0
  have W9 : rf_W [0] m m4 := by rw [em5]; exact (rf_W.refl [0] m).put (by decide)
  refine pm_R_lo pm_M197 (pc' := 6) rfl rfl rfl ?_
  refine pm_R_op pm_M197 (pc' := 7) (st' := [.int 0, .ref 41]) rfl rfl rfl ?_
  refine pm_R_lo pm_M197 (pc' := 8) rfl rfl rfl ?_
  refine pm_R_cv pm_M197 (pc' := 11) (a := 41) (ra := [.int a0, .int 0]) (rest := []) (ls' := [.ref 41, .int 0, .int a0]) rfl rfl (Or.inl rfl) pm_M177 T2.2.1 rfl (by decide) (Nat.lt_of_lt_of_le (by decide) T2.1) rfl rfl (Nat.le_of_ble_eq_true rfl) rfl rfl ?_
  refine pm_R_lo pm_M177 (pc' := 1) rfl rfl rfl ?_
  refine pm_R_op pm_M177 (pc' := 2) (st' := [.int 0, .int a0]) rfl rfl rfl ?_
  refine pm_R_lo pm_M177 (pc' := 3) rfl rfl rfl ?_
  refine rf_R_get pm_M177 T2 (pc' := 6) (v := .ref 46) rfl rfl rfl rfl ?_
  refine pm_R_lo pm_M177 (pc' := 7) rfl rfl rfl ?_
  obtain ⟨f10, e11, b12⟩ := T2.2.2.2.1 46 (by decide) (by decide)
  refine rf_R_ild pm_M177 T2 (pc' := 8) rfl e11 (by decide) rfl rfl (fun z13 ez14 => ?_)
  have B15 : sf_B 0 2 z13 := ez14 ▸ (b12 0)
  refine pm_R_op pm_M177 (pc' := 9) (st' := [.int 1, .int z13, .int 0, .int a0]) rfl rfl rfl ?_
  refine sf_R_isub pm_M177 (pc' := 10) rfl rfl B15 sf_k1 (by decide) (by decide) (fun z16 e17 B18 => ?_)
  refine pm_R_cs pm_M177 (pc' := 13) (ra := [.int z16, .int 0, .int a0]) (rest := []) (ls' := [.int a0, .int 0, .int z16]) rfl rfl (Or.inl rfl) pm_M174 rfl rfl (Nat.le_of_ble_eq_true rfl) rfl rfl ?_
  refine pm_R_lo pm_M174 (pc' := 1) rfl rfl rfl ?_
  refine pm_R_lo pm_M174 (pc' := 2) rfl rfl rfl ?_
  refine pm_R_icmp pm_M174 (t := 14) (pc' := 5) rfl rfl rfl (fun c19 => ?_) (fun c19 => ?_)
  · have B20 : sf_B (-2147483648) (-1) a0 := sf_ltL c19 (sf_any a0) sf_k0
    refine pm_R_op pm_M174 (pc' := 15) (st' := [.int 0]) rfl rfl rfl ?_
    refine pm_R_ret pm_M174 (r := some (.int 0)) rfl rfl ?_
    show pm_R _ 177 13 [.ref 41, .int 0, .int a0] [.int 0] _ _
    refine pm_R_ret pm_M177 (r := some (.int 0)) rfl rfl ?_
    show pm_R _ 197 11 [.ref 41, .int a0, .int a1, .int a2] [.int 0] _ _
    refine pm_R_br pm_M197 (pc' := 65) (st' := []) rfl rfl ?_
    refine pm_R_op pm_M197 (pc' := 66) (st' := [.int (-1)]) rfl rfl rfl ?_
    exact pm_R_ret pm_M197 (r := some (.int (-1))) rfl rfl (K (-1) m4 w h1 T2 F6 W9)
  · have B21 : sf_B 0 2147483647 a0 := sf_leR (Int32.not_lt.mp c19) sf_k0 (sf_any a0)
    refine pm_R_lo pm_M174 (pc' := 6) rfl rfl rfl ?_
    refine pm_R_lo pm_M174 (pc' := 7) rfl rfl rfl ?_
    refine pm_R_icmp pm_M174 (t := 14) (pc' := 10) rfl rfl rfl (fun c22 => ?_) (fun c22 => ?_)
    · skip
      refine pm_R_op pm_M174 (pc' := 15) (st' := [.int 0]) rfl rfl rfl ?_
      refine pm_R_ret pm_M174 (r := some (.int 0)) rfl rfl ?_
      show pm_R _ 177 13 [.ref 41, .int 0, .int a0] [.int 0] _ _
      refine pm_R_ret pm_M177 (r := some (.int 0)) rfl rfl ?_
      show pm_R _ 197 11 [.ref 41, .int a0, .int a1, .int a2] [.int 0] _ _
      refine pm_R_br pm_M197 (pc' := 65) (st' := []) rfl rfl ?_
      refine pm_R_op pm_M197 (pc' := 66) (st' := [.int (-1)]) rfl rfl rfl ?_
      exact pm_R_ret pm_M197 (r := some (.int (-1))) rfl rfl (K (-1) m4 w h1 T2 F6 W9)
    · have B23 : sf_B 0 1 a0 := sf_leL (Int32.not_lt.mp c22) B21 B18
      have B24 : sf_B 0 1 z16 := sf_leR (Int32.not_lt.mp c22) B21 B18
      refine pm_R_op pm_M174 (pc' := 11) (st' := [.int 1]) rfl rfl rfl ?_
      refine pm_R_br pm_M174 (pc' := 15) rfl rfl ?_
      refine pm_R_ret pm_M174 (r := some (.int 1)) rfl rfl ?_
      show pm_R _ 177 13 [.ref 41, .int 0, .int a0] [.int 1] _ _
      refine pm_R_ret pm_M177 (r := some (.int 1)) rfl rfl ?_
      show pm_R _ 197 11 [.ref 41, .int a0, .int a1, .int a2] [.int 1] _ _
      refine pm_R_br pm_M197 (pc' := 14) (st' := []) rfl rfl ?_
      refine pm_R_lo pm_M197 (pc' := 15) rfl rfl rfl ?_
      refine pm_R_op pm_M197 (pc' := 16) (st' := [.int 0, .int a1]) rfl rfl rfl ?_
      refine pm_R_lo pm_M197 (pc' := 17) rfl rfl rfl ?_
      refine rf_R_get pm_M197 T2 (pc' := 20) (v := .ref 47) rfl rfl rfl rfl ?_
      refine pm_R_op pm_M197 (pc' := 22) (st' := [.int 100, .ref 47, .int 0, .int a1]) rfl rfl rfl ?_
      refine pm_R_lo pm_M197 (pc' := 23) rfl rfl rfl ?_
      refine sf_R_imul pm_M197 (pc' := 24) rfl rfl sf_k100 B23 (by decide) (by decide) (by decide) (fun z25 e26 B27 => ?_)
      refine pm_R_op pm_M197 (pc' := 25) (st' := [.int 1, .int z25, .ref 47, .int 0, .int a1]) rfl rfl rfl ?_
      refine sf_R_iadd pm_M197 (pc' := 26) rfl rfl B27 sf_k1 (by decide) (by decide) (fun z28 e29 B30 => ?_)
      obtain ⟨f31, e32, b33⟩ := T2.2.2.2.1 47 (by decide) (by decide)
      refine rf_R_ild pm_M197 T2 (pc' := 27) rfl e32 (by decide) (sf_in B30 (by decide) (by decide)) rfl (fun z34 ez35 => ?_)
      have e36 : (z28).toInt = 100 * (a0).toInt + 1 := by
        have q0 := e26
        have q1 := e29
        simp only [(show (1 : Int32).toInt = 1 from rfl), (show (100 : Int32).toInt = 100 from rfl)] at q0 q1
        omega
      have B37 : sf_B 0 16 z34 := ez35 ▸ rf_p47b b33 e36 B23 (by decide)
      refine pm_R_op pm_M197 (pc' := 28) (st' := [.int 1, .int z34, .int 0, .int a1]) rfl rfl rfl ?_
      refine sf_R_isub pm_M197 (pc' := 29) rfl rfl B37 sf_k1 (by decide) (by decide) (fun z38 e39 B40 => ?_)
      refine pm_R_cs pm_M197 (pc' := 32) (ra := [.int z38, .int 0, .int a1]) (rest := []) (ls' := [.int a1, .int 0, .int z38]) rfl rfl (Or.inl rfl) pm_M174 rfl rfl (Nat.le_of_ble_eq_true rfl) rfl rfl ?_
      refine pm_R_lo pm_M174 (pc' := 1) rfl rfl rfl ?_
      refine pm_R_lo pm_M174 (pc' := 2) rfl rfl rfl ?_
      refine pm_R_icmp pm_M174 (t := 14) (pc' := 5) rfl rfl rfl (fun c41 => ?_) (fun c41 => ?_)
      · have B42 : sf_B (-2147483648) (-1) a1 := sf_ltL c41 (sf_any a1) sf_k0
        refine pm_R_op pm_M174 (pc' := 15) (st' := [.int 0]) rfl rfl rfl ?_
        refine pm_R_ret pm_M174 (r := some (.int 0)) rfl rfl ?_
        show pm_R _ 197 32 [.ref 41, .int a0, .int a1, .int a2] [.int 0] _ _
        refine pm_R_br pm_M197 (pc' := 65) (st' := []) rfl rfl ?_
        refine pm_R_op pm_M197 (pc' := 66) (st' := [.int (-1)]) rfl rfl rfl ?_
        exact pm_R_ret pm_M197 (r := some (.int (-1))) rfl rfl (K (-1) m4 w h1 T2 F6 W9)
      · have B43 : sf_B 0 2147483647 a1 := sf_leR (Int32.not_lt.mp c41) sf_k0 (sf_any a1)
        refine pm_R_lo pm_M174 (pc' := 6) rfl rfl rfl ?_
        refine pm_R_lo pm_M174 (pc' := 7) rfl rfl rfl ?_
        refine pm_R_icmp pm_M174 (t := 14) (pc' := 10) rfl rfl rfl (fun c44 => ?_) (fun c44 => ?_)
        · skip
          refine pm_R_op pm_M174 (pc' := 15) (st' := [.int 0]) rfl rfl rfl ?_
          refine pm_R_ret pm_M174 (r := some (.int 0)) rfl rfl ?_
          show pm_R _ 197 32 [.ref 41, .int a0, .int a1, .int a2] [.int 0] _ _
          refine pm_R_br pm_M197 (pc' := 65) (st' := []) rfl rfl ?_
          refine pm_R_op pm_M197 (pc' := 66) (st' := [.int (-1)]) rfl rfl rfl ?_
          exact pm_R_ret pm_M197 (r := some (.int (-1))) rfl rfl (K (-1) m4 w h1 T2 F6 W9)
        · have B45 : sf_B 0 15 a1 := sf_leL (Int32.not_lt.mp c44) B43 B40
          have B46 : sf_B 0 15 z38 := sf_leR (Int32.not_lt.mp c44) B43 B40
          refine pm_R_op pm_M174 (pc' := 11) (st' := [.int 1]) rfl rfl rfl ?_
          refine pm_R_br pm_M174 (pc' := 15) rfl rfl ?_
          refine pm_R_ret pm_M174 (r := some (.int 1)) rfl rfl ?_
          show pm_R _ 197 32 [.ref 41, .int a0, .int a1, .int a2] [.int 1] _ _
          refine pm_R_br pm_M197 (pc' := 35) (st' := []) rfl rfl ?_
          refine pm_R_lo pm_M197 (pc' := 36) rfl rfl rfl ?_
          refine pm_R_op pm_M197 (pc' := 37) (st' := [.int 0, .int a2]) rfl rfl rfl ?_
          refine pm_R_op pm_M197 (pc' := 38) (st' := [.int 2, .int 0, .int a2]) rfl rfl rfl ?_
          refine pm_R_cs pm_M197 (pc' := 41) (ra := [.int 2, .int 0, .int a2]) (rest := []) (ls' := [.int a2, .int 0, .int 2]) rfl rfl (Or.inl rfl) pm_M174 rfl rfl (Nat.le_of_ble_eq_true rfl) rfl rfl ?_
          refine pm_R_lo pm_M174 (pc' := 1) rfl rfl rfl ?_
          refine pm_R_lo pm_M174 (pc' := 2) rfl rfl rfl ?_
          refine pm_R_icmp pm_M174 (t := 14) (pc' := 5) rfl rfl rfl (fun c47 => ?_) (fun c47 => ?_)
          · have B48 : sf_B (-2147483648) (-1) a2 := sf_ltL c47 (sf_any a2) sf_k0
            refine pm_R_op pm_M174 (pc' := 15) (st' := [.int 0]) rfl rfl rfl ?_
            refine pm_R_ret pm_M174 (r := some (.int 0)) rfl rfl ?_
            show pm_R _ 197 41 [.ref 41, .int a0, .int a1, .int a2] [.int 0] _ _
            refine pm_R_br pm_M197 (pc' := 65) (st' := []) rfl rfl ?_
            refine pm_R_op pm_M197 (pc' := 66) (st' := [.int (-1)]) rfl rfl rfl ?_
            exact pm_R_ret pm_M197 (r := some (.int (-1))) rfl rfl (K (-1) m4 w h1 T2 F6 W9)
          · have B49 : sf_B 0 2147483647 a2 := sf_leR (Int32.not_lt.mp c47) sf_k0 (sf_any a2)
            refine pm_R_lo pm_M174 (pc' := 6) rfl rfl rfl ?_
            refine pm_R_lo pm_M174 (pc' := 7) rfl rfl rfl ?_
            refine pm_R_icmp pm_M174 (t := 14) (pc' := 10) rfl rfl rfl (fun c50 => ?_) (fun c50 => ?_)
            · have B51 : sf_B 3 2147483647 a2 := sf_ltR c50 sf_k2 B49
              refine pm_R_op pm_M174 (pc' := 15) (st' := [.int 0]) rfl rfl rfl ?_
              refine pm_R_ret pm_M174 (r := some (.int 0)) rfl rfl ?_
              show pm_R _ 197 41 [.ref 41, .int a0, .int a1, .int a2] [.int 0] _ _
              refine pm_R_br pm_M197 (pc' := 65) (st' := []) rfl rfl ?_
              refine pm_R_op pm_M197 (pc' := 66) (st' := [.int (-1)]) rfl rfl rfl ?_
              exact pm_R_ret pm_M197 (r := some (.int (-1))) rfl rfl (K (-1) m4 w h1 T2 F6 W9)
            · have B52 : sf_B 0 2 a2 := sf_leL (Int32.not_lt.mp c50) B49 sf_k2
              refine pm_R_op pm_M174 (pc' := 11) (st' := [.int 1]) rfl rfl rfl ?_
              refine pm_R_br pm_M174 (pc' := 15) rfl rfl ?_
              refine pm_R_ret pm_M174 (r := some (.int 1)) rfl rfl ?_
              show pm_R _ 197 41 [.ref 41, .int a0, .int a1, .int a2] [.int 1] _ _
              refine pm_R_br pm_M197 (pc' := 44) (st' := []) rfl rfl ?_
              refine pm_R_lo pm_M197 (pc' := 45) rfl rfl rfl ?_
              refine rf_R_get pm_M197 T2 (pc' := 48) (v := .ref 47) rfl rfl rfl rfl ?_
              refine pm_R_op pm_M197 (pc' := 50) (st' := [.int 100, .ref 47]) rfl rfl rfl ?_
              refine pm_R_lo pm_M197 (pc' := 51) rfl rfl rfl ?_
              refine sf_R_imul pm_M197 (pc' := 52) rfl rfl sf_k100 B23 (by decide) (by decide) (by decide) (fun z53 e54 B55 => ?_)
              refine pm_R_op pm_M197 (pc' := 54) (st' := [.int 42, .int z53, .ref 47]) rfl rfl rfl ?_
              refine sf_R_iadd pm_M197 (pc' := 55) rfl rfl B55 sf_k42 (by decide) (by decide) (fun z56 e57 B58 => ?_)
              refine pm_R_op pm_M197 (pc' := 56) (st' := [.int 3, .int z56, .ref 47]) rfl rfl rfl ?_
              refine pm_R_lo pm_M197 (pc' := 57) rfl rfl rfl ?_
              refine sf_R_imul pm_M197 (pc' := 58) rfl rfl sf_k3 B45 (by decide) (by decide) (by decide) (fun z59 e60 B61 => ?_)
              refine sf_R_iadd pm_M197 (pc' := 59) rfl rfl B58 B61 (by decide) (by decide) (fun z62 e63 B64 => ?_)
              refine pm_R_lo pm_M197 (pc' := 60) rfl rfl rfl ?_
              refine sf_R_iadd pm_M197 (pc' := 61) rfl rfl B64 B52 (by decide) (by decide) (fun z65 e66 B67 => ?_)
              refine rf_R_ild pm_M197 T2 (pc' := 62) rfl e32 (by decide) (sf_in B67 (by decide) (by decide)) rfl (fun z68 ez69 => ?_)
              refine pm_R_br pm_M197 (pc' := 66) rfl rfl ?_
              exact pm_R_ret pm_M197 (r := some (.int z68)) rfl (pm_ret_i _) (K z68 m4 w h1 T2 F6 W9)

set_option maxRecDepth 100000 in
set_option maxHeartbeats 4000000 in
/-- SilentTableModel.row -/
theorem rf_c198 {d : Nat} {m : Nat → Int32} {w : Int64} {h : pm_H} {Q : Option Value → pm_H → Prop} {a0 : Int32} {a1 : Int32} (T : rf_T m w h)  (K : ∀ (r : Int32) (m' : Nat → Int32) (w' : Int64) (h' : pm_H), rf_T m' w' h' → rf_G [41] h h' → rf_W [0] m m' → sf_B (-2) 12 r → Q (some (.int r)) h') : pm_R (d + 2) 198 0 [.ref 41, .int a0, .int a1] [] h Q := by
  refine pm_R_lo pm_M198 (pc' := 1) rfl rfl rfl ?_
  refine pm_R_op pm_M198 (pc' := 2) (st' := [.int 0, .ref 41]) rfl rfl rfl ?_
  refine rf_R_put pm_M198 T (pc' := 5) rfl rfl rfl (by decide) rfl rfl sf_k0 rfl rfl (fun h1 m4 em5 T2 F3 => ?_)
  have F6 := (rf_G.refl [41] h).trans F3 (by decide)
  have B7 : sf_B 0 0 (m4 0) := by rw [em5]; exact sf_k0
  have W9 : rf_W [0] m m4 := by rw [em5]; exact (rf_W.refl [0] m).put (by decide)
  refine pm_R_lo pm_M198 (pc' := 6) rfl rfl rfl ?_
  refine pm_R_op pm_M198 (pc' := 7) (st' := [.int 1, .ref 41]) rfl rfl rfl ?_
  refine pm_R_lo pm_M198 (pc' := 8) rfl rfl rfl ?_
  refine pm_R_cv pm_M198 (pc' := 11) (a := 41) (ra := [.int a0, .int 1]) (rest := []) (ls' := [.ref 41, .int 1, .int a0]) rfl rfl (Or.inl rfl) pm_M177 T2.2.1 rfl (by decide) (Nat.lt_of_lt_of_le (by decide) T2.1) rfl rfl (Nat.le_of_ble_eq_true rfl) rfl rfl ?_
  refine pm_R_lo pm_M177 (pc' := 1) rfl rfl rfl ?_
  refine pm_R_op pm_M177 (pc' := 2) (st' := [.int 0, .int a0]) rfl rfl rfl ?_
  refine pm_R_lo pm_M177 (pc' := 3) rfl rfl rfl ?_
  refine rf_R_get pm_M177 T2 (pc' := 6) (v := .ref 46) rfl rfl rfl rfl ?_
  refine pm_R_lo pm_M177 (pc' := 7) rfl rfl rfl ?_
  obtain ⟨f10, e11, b12⟩ := T2.2.2.2.1 46 (by decide) (by decide)
  refine rf_R_ild pm_M177 T2 (pc' := 8) rfl e11 (by decide) rfl rfl (fun z13 ez14 => ?_)
  have B15 : sf_B 0 3 z13 := ez14 ▸ (b12 1)
  refine pm_R_op pm_M177 (pc' := 9) (st' := [.int 1, .int z13, .int 0, .int a0]) rfl rfl rfl ?_
  refine sf_R_isub pm_M177 (pc' := 10) rfl rfl B15 sf_k1 (by decide) (by decide) (fun z16 e17 B18 => ?_)
  refine pm_R_cs pm_M177 (pc' := 13) (ra := [.int z16, .int 0, .int a0]) (rest := []) (ls' := [.int a0, .int 0, .int z16]) rfl rfl (Or.inl rfl) pm_M174 rfl rfl (Nat.le_of_ble_eq_true rfl) rfl rfl ?_
  refine pm_R_lo pm_M174 (pc' := 1) rfl rfl rfl ?_
  refine pm_R_lo pm_M174 (pc' := 2) rfl rfl rfl ?_
  refine pm_R_icmp pm_M174 (t := 14) (pc' := 5) rfl rfl rfl (fun c19 => ?_) (fun c19 => ?_)
  · have B20 : sf_B (-2147483648) (-1) a0 := sf_ltL c19 (sf_any a0) sf_k0
    refine pm_R_op pm_M174 (pc' := 15) (st' := [.int 0]) rfl rfl rfl ?_
    refine pm_R_ret pm_M174 (r := some (.int 0)) rfl rfl ?_
    show pm_R _ 177 13 [.ref 41, .int 1, .int a0] [.int 0] _ _
    refine pm_R_ret pm_M177 (r := some (.int 0)) rfl rfl ?_
    show pm_R _ 198 11 [.ref 41, .int a0, .int a1] [.int 0] _ _
    refine pm_R_br pm_M198 (pc' := 14) (st' := []) rfl rfl ?_
    refine pm_R_op pm_M198 (pc' := 16) (st' := [.int (-2)]) rfl rfl rfl ?_
    exact pm_R_ret pm_M198 (r := some (.int (-2))) rfl rfl (K (-2) m4 w h1 T2 F6 W9 (sf_weak sf_kn2 (by decide) (by decide)))
  · have B21 : sf_B 0 2147483647 a0 := sf_leR (Int32.not_lt.mp c19) sf_k0 (sf_any a0)
    refine pm_R_lo pm_M174 (pc' := 6) rfl rfl rfl ?_
    refine pm_R_lo pm_M174 (pc' := 7) rfl rfl rfl ?_
    refine pm_R_icmp pm_M174 (t := 14) (pc' := 10) rfl rfl rfl (fun c22 => ?_) (fun c22 => ?_)
    · skip
      refine pm_R_op pm_M174 (pc' := 15) (st' := [.int 0]) rfl rfl rfl ?_
      refine pm_R_ret pm_M174 (r := some (.int 0)) rfl rfl ?_
      show pm_R _ 177 13 [.ref 41, .int 1, .int a0] [.int 0] _ _
      refine pm_R_ret pm_M177 (r := some (.int 0)) rfl rfl ?_
      show pm_R _ 198 11 [.ref 41, .int a0, .int a1] [.int 0] _ _
      refine pm_R_br pm_M198 (pc' := 14) (st' := []) rfl rfl ?_
      refine pm_R_op pm_M198 (pc' := 16) (st' := [.int (-2)]) rfl rfl rfl ?_
      exact pm_R_ret pm_M198 (r := some (.int (-2))) rfl rfl (K (-2) m4 w h1 T2 F6 W9 (sf_weak sf_kn2 (by decide) (by decide)))
    · have V23 := rf_V.mk e11 ez14 e17 (Int32.not_lt.mp c22) B21 (by decide)
      have V23 := V23.back F6 (by decide)
      have B24 : sf_B 0 2 a0 := sf_leL (Int32.not_lt.mp c22) B21 B18
      have B25 : sf_B 0 2 z16 := sf_leR (Int32.not_lt.mp c22) B21 B18
      refine pm_R_op pm_M174 (pc' := 11) (st' := [.int 1]) rfl rfl rfl ?_
      refine pm_R_br pm_M174 (pc' := 15) rfl rfl ?_
      refine pm_R_ret pm_M174 (r := some (.int 1)) rfl rfl ?_
      show pm_R _ 177 13 [.ref 41, .int 1, .int a0] [.int 1] _ _
      refine pm_R_ret pm_M177 (r := some (.int 1)) rfl rfl ?_
      show pm_R _ 198 11 [.ref 41, .int a0, .int a1] [.int 1] _ _
      refine pm_R_br pm_M198 (pc' := 17) (st' := []) rfl rfl ?_
      refine pm_R_lo pm_M198 (pc' := 18) rfl rfl rfl ?_
      refine pm_R_op pm_M198 (pc' := 19) (st' := [.int (-1), .int a1]) rfl rfl rfl ?_
      refine pm_R_icmp pm_M198 (t := 34) (pc' := 22) rfl rfl rfl (fun c26 => ?_) (fun c26 => ?_)
      · skip
        refine pm_R_lo pm_M198 (pc' := 35) rfl rfl rfl ?_
        refine pm_R_op pm_M198 (pc' := 36) (st' := [.int 0, .int a1]) rfl rfl rfl ?_
        refine pm_R_lo pm_M198 (pc' := 37) rfl rfl rfl ?_
        refine rf_R_get pm_M198 T2 (pc' := 40) (v := .ref 48) rfl rfl rfl rfl ?_
        refine pm_R_op pm_M198 (pc' := 42) (st' := [.int 13, .ref 48, .int 0, .int a1]) rfl rfl rfl ?_
        refine pm_R_lo pm_M198 (pc' := 43) rfl rfl rfl ?_
        refine sf_R_imul pm_M198 (pc' := 44) rfl rfl sf_k13 B24 (by decide) (by decide) (by decide) (fun z27 e28 B29 => ?_)
        obtain ⟨f30, e31, b32⟩ := T2.2.2.2.1 48 (by decide) (by decide)
        refine rf_R_ild pm_M198 T2 (pc' := 45) rfl e31 (by decide) (sf_in B29 (by decide) (by decide)) rfl (fun z33 ez34 => ?_)
        have e35 : (z27).toInt = 13 * (a0).toInt + 0 := by
          have q0 := e28
          simp only [(show (13 : Int32).toInt = 13 from rfl)] at q0
          omega
        have B36 : sf_B 1 12 z33 := ez34 ▸ rf_p48v T2 e31 (V23.F F6 (by decide)) e35
        refine pm_R_op pm_M198 (pc' := 46) (st' := [.int 1, .int z33, .int 0, .int a1]) rfl rfl rfl ?_
        refine sf_R_isub pm_M198 (pc' := 47) rfl rfl B36 sf_k1 (by decide) (by decide) (fun z37 e38 B39 => ?_)
        refine pm_R_cs pm_M198 (pc' := 50) (ra := [.int z37, .int 0, .int a1]) (rest := []) (ls' := [.int a1, .int 0, .int z37]) rfl rfl (Or.inl rfl) pm_M174 rfl rfl (Nat.le_of_ble_eq_true rfl) rfl rfl ?_
        refine pm_R_lo pm_M174 (pc' := 1) rfl rfl rfl ?_
        refine pm_R_lo pm_M174 (pc' := 2) rfl rfl rfl ?_
        refine pm_R_icmp pm_M174 (t := 14) (pc' := 5) rfl rfl rfl (fun c40 => ?_) (fun c40 => ?_)
        · have B41 : sf_B (-2147483648) (-1) a1 := sf_ltL c40 (sf_any a1) sf_k0
          refine pm_R_op pm_M174 (pc' := 15) (st' := [.int 0]) rfl rfl rfl ?_
          refine pm_R_ret pm_M174 (r := some (.int 0)) rfl rfl ?_
          show pm_R _ 198 50 [.ref 41, .int a0, .int a1] [.int 0] _ _
          refine pm_R_br pm_M198 (pc' := 69) (st' := []) rfl rfl ?_
          refine pm_R_op pm_M198 (pc' := 71) (st' := [.int (-2)]) rfl rfl rfl ?_
          exact pm_R_ret pm_M198 (r := some (.int (-2))) rfl rfl (K (-2) m4 w h1 T2 F6 W9 (sf_weak sf_kn2 (by decide) (by decide)))
        · have B42 : sf_B 0 2147483647 a1 := sf_leR (Int32.not_lt.mp c40) sf_k0 (sf_any a1)
          refine pm_R_lo pm_M174 (pc' := 6) rfl rfl rfl ?_
          refine pm_R_lo pm_M174 (pc' := 7) rfl rfl rfl ?_
          refine pm_R_icmp pm_M174 (t := 14) (pc' := 10) rfl rfl rfl (fun c43 => ?_) (fun c43 => ?_)
          · have B44 : sf_B 1 2147483647 a1 := sf_ltR c43 B39 B42
            refine pm_R_op pm_M174 (pc' := 15) (st' := [.int 0]) rfl rfl rfl ?_
            refine pm_R_ret pm_M174 (r := some (.int 0)) rfl rfl ?_
            show pm_R _ 198 50 [.ref 41, .int a0, .int a1] [.int 0] _ _
            refine pm_R_br pm_M198 (pc' := 69) (st' := []) rfl rfl ?_
            refine pm_R_op pm_M198 (pc' := 71) (st' := [.int (-2)]) rfl rfl rfl ?_
            exact pm_R_ret pm_M198 (r := some (.int (-2))) rfl rfl (K (-2) m4 w h1 T2 F6 W9 (sf_weak sf_kn2 (by decide) (by decide)))
          · have B45 : sf_B 0 11 a1 := sf_leL (Int32.not_lt.mp c43) B42 B39
            refine pm_R_op pm_M174 (pc' := 11) (st' := [.int 1]) rfl rfl rfl ?_
            refine pm_R_br pm_M174 (pc' := 15) rfl rfl ?_
            refine pm_R_ret pm_M174 (r := some (.int 1)) rfl rfl ?_
            show pm_R _ 198 50 [.ref 41, .int a0, .int a1] [.int 1] _ _
            refine pm_R_br pm_M198 (pc' := 53) (st' := []) rfl rfl ?_
            refine pm_R_lo pm_M198 (pc' := 54) rfl rfl rfl ?_
            refine rf_R_get pm_M198 T2 (pc' := 57) (v := .ref 48) rfl rfl rfl rfl ?_
            refine pm_R_op pm_M198 (pc' := 59) (st' := [.int 13, .ref 48]) rfl rfl rfl ?_
            refine pm_R_lo pm_M198 (pc' := 60) rfl rfl rfl ?_
            refine sf_R_imul pm_M198 (pc' := 61) rfl rfl sf_k13 B24 (by decide) (by decide) (by decide) (fun z46 e47 B48 => ?_)
            refine pm_R_op pm_M198 (pc' := 62) (st' := [.int 1, .int z46, .ref 48]) rfl rfl rfl ?_
            refine sf_R_iadd pm_M198 (pc' := 63) rfl rfl B48 sf_k1 (by decide) (by decide) (fun z49 e50 B51 => ?_)
            refine pm_R_lo pm_M198 (pc' := 64) rfl rfl rfl ?_
            refine sf_R_iadd pm_M198 (pc' := 65) rfl rfl B51 B45 (by decide) (by decide) (fun z52 e53 B54 => ?_)
            refine rf_R_ild pm_M198 T2 (pc' := 66) rfl e31 (by decide) (sf_in B54 (by decide) (by decide)) rfl (fun z55 ez56 => ?_)
            have e57 : (z52).toInt = 13 * (a0).toInt + 1 * (a1).toInt + 1 := by
              have q0 := e47
              have q1 := e50
              have q2 := e53
              simp only [(show (1 : Int32).toInt = 1 from rfl), (show (13 : Int32).toInt = 13 from rfl)] at q0 q1 q2
              omega
            have B58 : sf_B 0 9 z55 := ez56 ▸ rf_p48s b32 e57 B24 B45 (by decide) (by decide) (by decide)
            refine pm_R_br pm_M198 (pc' := 71) rfl rfl ?_
            exact pm_R_ret pm_M198 (r := some (.int z55)) rfl (pm_ret_i _) (K z55 m4 w h1 T2 F6 W9 (sf_weak B58 (by decide) (by decide)))
      · have B59 : sf_B (-1) (-1) a1 := sf_eqL (Classical.not_not.mp c26) sf_kn1
        refine pm_R_lo pm_M198 (pc' := 23) rfl rfl rfl ?_
        refine rf_R_get pm_M198 T2 (pc' := 26) (v := .ref 48) rfl rfl rfl rfl ?_
        refine pm_R_op pm_M198 (pc' := 28) (st' := [.int 13, .ref 48]) rfl rfl rfl ?_
        refine pm_R_lo pm_M198 (pc' := 29) rfl rfl rfl ?_
        refine sf_R_imul pm_M198 (pc' := 30) rfl rfl sf_k13 B24 (by decide) (by decide) (by decide) (fun z60 e61 B62 => ?_)
        obtain ⟨f63, e64, b65⟩ := T2.2.2.2.1 48 (by decide) (by decide)
        refine rf_R_ild pm_M198 T2 (pc' := 31) rfl e64 (by decide) (sf_in B62 (by decide) (by decide)) rfl (fun z66 ez67 => ?_)
        have e68 : (z60).toInt = 13 * (a0).toInt + 0 := by
          have q0 := e61
          simp only [(show (13 : Int32).toInt = 13 from rfl)] at q0
          omega
        have B69 : sf_B 1 12 z66 := ez67 ▸ rf_p48v T2 e64 (V23.F F6 (by decide)) e68
        refine pm_R_br pm_M198 (pc' := 71) rfl rfl ?_
        exact pm_R_ret pm_M198 (r := some (.int z66)) rfl (pm_ret_i _) (K z66 m4 w h1 T2 F6 W9 (sf_weak B69 (by decide) (by decide)))

set_option maxRecDepth 100000 in
set_option maxHeartbeats 4000000 in
/-- SilentTableModel.count -/
theorem rf_c294 {d : Nat} {m : Nat → Int32} {w : Int64} {h : pm_H} {Q : Option Value → pm_H → Prop} {a0 : Int32} (T : rf_T m w h)  (K : ∀ (r : Int32) (m' : Nat → Int32) (w' : Int64) (h' : pm_H), rf_T m' w' h' → rf_G [41] h h' → rf_W [0] m m' → Q (some (.int r)) h') : pm_R (d + 1) 294 0 [.ref 41, .int a0] [] h Q := by
  refine pm_R_lo pm_M294 (pc' := 1) rfl rfl rfl ?_
  refine pm_R_op pm_M294 (pc' := 2) (st' := [.int 0, .ref 41]) rfl rfl rfl ?_
  refine rf_R_put pm_M294 T (pc' := 5) rfl rfl rfl (by decide) rfl rfl sf_k0 rfl rfl (fun h1 m4 em5 T2 F3 => ?_)
  have F6 := (rf_G.refl [41] h).trans F3 (by decide)
  have B7 : sf_B 0 0 (m4 0) := by rw [em5]; exact sf_k0
  have W9 : rf_W [0] m m4 := by rw [em5]; exact (rf_W.refl [0] m).put (by decide)
  refine pm_R_lo pm_M294 (pc' := 6) rfl rfl rfl ?_
  refine pm_R_op pm_M294 (pc' := 7) (st' := [.int 0, .int a0]) rfl rfl rfl ?_
  refine pm_R_op pm_M294 (pc' := 8) (st' := [.int 3, .int 0, .int a0]) rfl rfl rfl ?_
  refine pm_R_cs pm_M294 (pc' := 11) (ra := [.int 3, .int 0, .int a0]) (rest := []) (ls' := [.int a0, .int 0, .int 3]) rfl rfl (Or.inl rfl) pm_M174 rfl rfl (Nat.le_of_ble_eq_true rfl) rfl rfl ?_
  refine pm_R_lo pm_M174 (pc' := 1) rfl rfl rfl ?_
  refine pm_R_lo pm_M174 (pc' := 2) rfl rfl rfl ?_
  refine pm_R_icmp pm_M174 (t := 14) (pc' := 5) rfl rfl rfl (fun c10 => ?_) (fun c10 => ?_)
  · have B11 : sf_B (-2147483648) (-1) a0 := sf_ltL c10 (sf_any a0) sf_k0
    refine pm_R_op pm_M174 (pc' := 15) (st' := [.int 0]) rfl rfl rfl ?_
    refine pm_R_ret pm_M174 (r := some (.int 0)) rfl rfl ?_
    show pm_R _ 294 11 [.ref 41, .int a0] [.int 0] _ _
    refine pm_R_br pm_M294 (pc' := 23) (st' := []) rfl rfl ?_
    refine pm_R_op pm_M294 (pc' := 25) (st' := [.int (-2)]) rfl rfl rfl ?_
    exact pm_R_ret pm_M294 (r := some (.int (-2))) rfl rfl (K (-2) m4 w h1 T2 F6 W9)
  · have B12 : sf_B 0 2147483647 a0 := sf_leR (Int32.not_lt.mp c10) sf_k0 (sf_any a0)
    refine pm_R_lo pm_M174 (pc' := 6) rfl rfl rfl ?_
    refine pm_R_lo pm_M174 (pc' := 7) rfl rfl rfl ?_
    refine pm_R_icmp pm_M174 (t := 14) (pc' := 10) rfl rfl rfl (fun c13 => ?_) (fun c13 => ?_)
    · have B14 : sf_B 4 2147483647 a0 := sf_ltR c13 sf_k3 B12
      refine pm_R_op pm_M174 (pc' := 15) (st' := [.int 0]) rfl rfl rfl ?_
      refine pm_R_ret pm_M174 (r := some (.int 0)) rfl rfl ?_
      show pm_R _ 294 11 [.ref 41, .int a0] [.int 0] _ _
      refine pm_R_br pm_M294 (pc' := 23) (st' := []) rfl rfl ?_
      refine pm_R_op pm_M294 (pc' := 25) (st' := [.int (-2)]) rfl rfl rfl ?_
      exact pm_R_ret pm_M294 (r := some (.int (-2))) rfl rfl (K (-2) m4 w h1 T2 F6 W9)
    · have B15 : sf_B 0 3 a0 := sf_leL (Int32.not_lt.mp c13) B12 sf_k3
      refine pm_R_op pm_M174 (pc' := 11) (st' := [.int 1]) rfl rfl rfl ?_
      refine pm_R_br pm_M174 (pc' := 15) rfl rfl ?_
      refine pm_R_ret pm_M174 (r := some (.int 1)) rfl rfl ?_
      show pm_R _ 294 11 [.ref 41, .int a0] [.int 1] _ _
      refine pm_R_br pm_M294 (pc' := 14) (st' := []) rfl rfl ?_
      refine pm_R_lo pm_M294 (pc' := 15) rfl rfl rfl ?_
      refine rf_R_get pm_M294 T2 (pc' := 18) (v := .ref 46) rfl rfl rfl rfl ?_
      refine pm_R_lo pm_M294 (pc' := 19) rfl rfl rfl ?_
      obtain ⟨f16, e17, b18⟩ := T2.2.2.2.1 46 (by decide) (by decide)
      refine rf_R_ild pm_M294 T2 (pc' := 20) rfl e17 (by decide) (sf_in B15 (by decide) (by decide)) rfl (fun z19 ez20 => ?_)
      refine pm_R_br pm_M294 (pc' := 25) rfl rfl ?_
      exact pm_R_ret pm_M294 (r := some (.int z19)) rfl (pm_ret_i _) (K z19 m4 w h1 T2 F6 W9)

set_option maxRecDepth 100000 in
set_option maxHeartbeats 4000000 in
/-- SilentTableModel.trees -/
theorem rf_c199 {d : Nat} {m : Nat → Int32} {w : Int64} {h : pm_H} {Q : Option Value → pm_H → Prop} {a0 : Int32} {a1 : Int32} {a2 : Int32} {a3 : Int32} {a4 : Int32} (T : rf_T m w h)  (K : ∀ (r : Int64) (m' : Nat → Int32) (w' : Int64) (h' : pm_H), rf_T m' w' h' → rf_G [41, 53, 55] h h' → rf_W [0, 23, 24, 26] m m' → lf_B (-1) 1000000000000 r → Q (some (.long r)) h') : pm_R (d + 5) 199 0 [.ref 41, .int a0, .int a1, .int a2, .int a3, .int a4] [] h Q := by
  refine pm_R_lo pm_M199 (pc' := 1) rfl rfl rfl ?_
  refine pm_R_op pm_M199 (pc' := 2) (st' := [.int 0, .ref 41]) rfl rfl rfl ?_
  refine rf_R_put pm_M199 T (pc' := 5) rfl rfl rfl (by decide) rfl rfl sf_k0 rfl rfl (fun h1 m4 em5 T2 F3 => ?_)
  have F6 := (rf_G.refl [41, 53, 55] h).trans F3 (by decide)
  have B7 : sf_B 0 0 (m4 0) := by rw [em5]; exact sf_k0
  have W9 : rf_W [0, 23, 24, 26] m m4 := by rw [em5]; exact (rf_W.refl [0, 23, 24, 26] m).put (by decide)
  refine pm_R_lo pm_M199 (pc' := 6) rfl rfl rfl ?_
  refine pm_R_lo pm_M199 (pc' := 7) rfl rfl rfl ?_
  refine pm_R_lo pm_M199 (pc' := 8) rfl rfl rfl ?_
  refine pm_R_cv pm_M199 (pc' := 11) (a := 41) (ra := [.int a1, .int a0]) (rest := []) (ls' := [.ref 41, .int a0, .int a1]) rfl rfl (Or.inl rfl) pm_M200 T2.2.1 rfl (by decide) (Nat.lt_of_lt_of_le (by decide) T2.1) rfl rfl (Nat.le_of_ble_eq_true rfl) rfl rfl ?_
  refine pm_R_lo pm_M200 (pc' := 1) rfl rfl rfl ?_
  refine pm_R_op pm_M200 (pc' := 2) (st' := [.int 0, .ref 41]) rfl rfl rfl ?_
  refine pm_R_lo pm_M200 (pc' := 3) rfl rfl rfl ?_
  refine pm_R_cv pm_M200 (pc' := 6) (a := 41) (ra := [.int a0, .int 0]) (rest := []) (ls' := [.ref 41, .int 0, .int a0]) rfl rfl (Or.inl rfl) pm_M177 T2.2.1 rfl (by decide) (Nat.lt_of_lt_of_le (by decide) T2.1) rfl rfl (Nat.le_of_ble_eq_true rfl) rfl rfl ?_
  refine pm_R_lo pm_M177 (pc' := 1) rfl rfl rfl ?_
  refine pm_R_op pm_M177 (pc' := 2) (st' := [.int 0, .int a0]) rfl rfl rfl ?_
  refine pm_R_lo pm_M177 (pc' := 3) rfl rfl rfl ?_
  refine rf_R_get pm_M177 T2 (pc' := 6) (v := .ref 46) rfl rfl rfl rfl ?_
  refine pm_R_lo pm_M177 (pc' := 7) rfl rfl rfl ?_
  obtain ⟨f10, e11, b12⟩ := T2.2.2.2.1 46 (by decide) (by decide)
  refine rf_R_ild pm_M177 T2 (pc' := 8) rfl e11 (by decide) rfl rfl (fun z13 ez14 => ?_)
  have B15 : sf_B 0 2 z13 := ez14 ▸ (b12 0)
  refine pm_R_op pm_M177 (pc' := 9) (st' := [.int 1, .int z13, .int 0, .int a0]) rfl rfl rfl ?_
  refine sf_R_isub pm_M177 (pc' := 10) rfl rfl B15 sf_k1 (by decide) (by decide) (fun z16 e17 B18 => ?_)
  refine pm_R_cs pm_M177 (pc' := 13) (ra := [.int z16, .int 0, .int a0]) (rest := []) (ls' := [.int a0, .int 0, .int z16]) rfl rfl (Or.inl rfl) pm_M174 rfl rfl (Nat.le_of_ble_eq_true rfl) rfl rfl ?_
  refine pm_R_lo pm_M174 (pc' := 1) rfl rfl rfl ?_
  refine pm_R_lo pm_M174 (pc' := 2) rfl rfl rfl ?_
  refine pm_R_icmp pm_M174 (t := 14) (pc' := 5) rfl rfl rfl (fun c19 => ?_) (fun c19 => ?_)
  · have B20 : sf_B (-2147483648) (-1) a0 := sf_ltL c19 (sf_any a0) sf_k0
    refine pm_R_op pm_M174 (pc' := 15) (st' := [.int 0]) rfl rfl rfl ?_
    refine pm_R_ret pm_M174 (r := some (.int 0)) rfl rfl ?_
    show pm_R _ 177 13 [.ref 41, .int 0, .int a0] [.int 0] _ _
    refine pm_R_ret pm_M177 (r := some (.int 0)) rfl rfl ?_
    show pm_R _ 200 6 [.ref 41, .int a0, .int a1] [.int 0] _ _
    refine pm_R_br pm_M200 (pc' := 18) (st' := []) rfl rfl ?_
    refine pm_R_op pm_M200 (pc' := 19) (st' := [.int 0]) rfl rfl rfl ?_
    refine pm_R_ret pm_M200 (r := some (.int 0)) rfl rfl ?_
    show pm_R _ 199 11 [.ref 41, .int a0, .int a1, .int a2, .int a3, .int a4] [.int 0] _ _
    refine pm_R_br pm_M199 (pc' := 54) (st' := []) rfl rfl ?_
    refine pm_R_ldc2 pm_M199 (pc' := 57) rfl rfl rfl ?_
    exact pm_R_ret pm_M199 (r := some (.long (-1))) rfl rfl (K (-1) m4 w h1 T2 F6 W9 (lf_weak (⟨by decide, by decide⟩ : lf_B (-1) (-1) (-1)) (by decide) (by decide)))
  · have B21 : sf_B 0 2147483647 a0 := sf_leR (Int32.not_lt.mp c19) sf_k0 (sf_any a0)
    refine pm_R_lo pm_M174 (pc' := 6) rfl rfl rfl ?_
    refine pm_R_lo pm_M174 (pc' := 7) rfl rfl rfl ?_
    refine pm_R_icmp pm_M174 (t := 14) (pc' := 10) rfl rfl rfl (fun c22 => ?_) (fun c22 => ?_)
    · skip
      refine pm_R_op pm_M174 (pc' := 15) (st' := [.int 0]) rfl rfl rfl ?_
      refine pm_R_ret pm_M174 (r := some (.int 0)) rfl rfl ?_
      show pm_R _ 177 13 [.ref 41, .int 0, .int a0] [.int 0] _ _
      refine pm_R_ret pm_M177 (r := some (.int 0)) rfl rfl ?_
      show pm_R _ 200 6 [.ref 41, .int a0, .int a1] [.int 0] _ _
      refine pm_R_br pm_M200 (pc' := 18) (st' := []) rfl rfl ?_
      refine pm_R_op pm_M200 (pc' := 19) (st' := [.int 0]) rfl rfl rfl ?_
      refine pm_R_ret pm_M200 (r := some (.int 0)) rfl rfl ?_
      show pm_R _ 199 11 [.ref 41, .int a0, .int a1, .int a2, .int a3, .int a4] [.int 0] _ _
      refine pm_R_br pm_M199 (pc' := 54) (st' := []) rfl rfl ?_
      refine pm_R_ldc2 pm_M199 (pc' := 57) rfl rfl rfl ?_
      exact pm_R_ret pm_M199 (r := some (.long (-1))) rfl rfl (K (-1) m4 w h1 T2 F6 W9 (lf_weak (⟨by decide, by decide⟩ : lf_B (-1) (-1) (-1)) (by decide) (by decide)))
    · have B23 : sf_B 0 1 a0 := sf_leL (Int32.not_lt.mp c22) B21 B18
      have B24 : sf_B 0 1 z16 := sf_leR (Int32.not_lt.mp c22) B21 B18
      refine pm_R_op pm_M174 (pc' := 11) (st' := [.int 1]) rfl rfl rfl ?_
      refine pm_R_br pm_M174 (pc' := 15) rfl rfl ?_
      refine pm_R_ret pm_M174 (r := some (.int 1)) rfl rfl ?_
      show pm_R _ 177 13 [.ref 41, .int 0, .int a0] [.int 1] _ _
      refine pm_R_ret pm_M177 (r := some (.int 1)) rfl rfl ?_
      show pm_R _ 200 6 [.ref 41, .int a0, .int a1] [.int 1] _ _
      refine pm_R_br pm_M200 (pc' := 9) (st' := []) rfl rfl ?_
      refine pm_R_lo pm_M200 (pc' := 10) rfl rfl rfl ?_
      refine pm_R_op pm_M200 (pc' := 11) (st' := [.int 1, .ref 41]) rfl rfl rfl ?_
      refine pm_R_lo pm_M200 (pc' := 12) rfl rfl rfl ?_
      refine pm_R_cv pm_M200 (pc' := 15) (a := 41) (ra := [.int a1, .int 1]) (rest := []) (ls' := [.ref 41, .int 1, .int a1]) rfl rfl (Or.inl rfl) pm_M177 T2.2.1 rfl (by decide) (Nat.lt_of_lt_of_le (by decide) T2.1) rfl rfl (Nat.le_of_ble_eq_true rfl) rfl rfl ?_
      refine pm_R_lo pm_M177 (pc' := 1) rfl rfl rfl ?_
      refine pm_R_op pm_M177 (pc' := 2) (st' := [.int 0, .int a1]) rfl rfl rfl ?_
      refine pm_R_lo pm_M177 (pc' := 3) rfl rfl rfl ?_
      refine rf_R_get pm_M177 T2 (pc' := 6) (v := .ref 46) rfl rfl rfl rfl ?_
      refine pm_R_lo pm_M177 (pc' := 7) rfl rfl rfl ?_
      refine rf_R_ild pm_M177 T2 (pc' := 8) rfl e11 (by decide) rfl rfl (fun z25 ez26 => ?_)
      have B27 : sf_B 0 3 z25 := ez26 ▸ (b12 1)
      refine pm_R_op pm_M177 (pc' := 9) (st' := [.int 1, .int z25, .int 0, .int a1]) rfl rfl rfl ?_
      refine sf_R_isub pm_M177 (pc' := 10) rfl rfl B27 sf_k1 (by decide) (by decide) (fun z28 e29 B30 => ?_)
      refine pm_R_cs pm_M177 (pc' := 13) (ra := [.int z28, .int 0, .int a1]) (rest := []) (ls' := [.int a1, .int 0, .int z28]) rfl rfl (Or.inl rfl) pm_M174 rfl rfl (Nat.le_of_ble_eq_true rfl) rfl rfl ?_
      refine pm_R_lo pm_M174 (pc' := 1) rfl rfl rfl ?_
      refine pm_R_lo pm_M174 (pc' := 2) rfl rfl rfl ?_
      refine pm_R_icmp pm_M174 (t := 14) (pc' := 5) rfl rfl rfl (fun c31 => ?_) (fun c31 => ?_)
      · have B32 : sf_B (-2147483648) (-1) a1 := sf_ltL c31 (sf_any a1) sf_k0
        refine pm_R_op pm_M174 (pc' := 15) (st' := [.int 0]) rfl rfl rfl ?_
        refine pm_R_ret pm_M174 (r := some (.int 0)) rfl rfl ?_
        show pm_R _ 177 13 [.ref 41, .int 1, .int a1] [.int 0] _ _
        refine pm_R_ret pm_M177 (r := some (.int 0)) rfl rfl ?_
        show pm_R _ 200 15 [.ref 41, .int a0, .int a1] [.int 0] _ _
        refine pm_R_br pm_M200 (pc' := 18) (st' := []) rfl rfl ?_
        refine pm_R_op pm_M200 (pc' := 19) (st' := [.int 0]) rfl rfl rfl ?_
        refine pm_R_ret pm_M200 (r := some (.int 0)) rfl rfl ?_
        show pm_R _ 199 11 [.ref 41, .int a0, .int a1, .int a2, .int a3, .int a4] [.int 0] _ _
        refine pm_R_br pm_M199 (pc' := 54) (st' := []) rfl rfl ?_
        refine pm_R_ldc2 pm_M199 (pc' := 57) rfl rfl rfl ?_
        exact pm_R_ret pm_M199 (r := some (.long (-1))) rfl rfl (K (-1) m4 w h1 T2 F6 W9 (lf_weak (⟨by decide, by decide⟩ : lf_B (-1) (-1) (-1)) (by decide) (by decide)))
      · have B33 : sf_B 0 2147483647 a1 := sf_leR (Int32.not_lt.mp c31) sf_k0 (sf_any a1)
        refine pm_R_lo pm_M174 (pc' := 6) rfl rfl rfl ?_
        refine pm_R_lo pm_M174 (pc' := 7) rfl rfl rfl ?_
        refine pm_R_icmp pm_M174 (t := 14) (pc' := 10) rfl rfl rfl (fun c34 => ?_) (fun c34 => ?_)
        · skip
          refine pm_R_op pm_M174 (pc' := 15) (st' := [.int 0]) rfl rfl rfl ?_
          refine pm_R_ret pm_M174 (r := some (.int 0)) rfl rfl ?_
          show pm_R _ 177 13 [.ref 41, .int 1, .int a1] [.int 0] _ _
          refine pm_R_ret pm_M177 (r := some (.int 0)) rfl rfl ?_
          show pm_R _ 200 15 [.ref 41, .int a0, .int a1] [.int 0] _ _
          refine pm_R_br pm_M200 (pc' := 18) (st' := []) rfl rfl ?_
          refine pm_R_op pm_M200 (pc' := 19) (st' := [.int 0]) rfl rfl rfl ?_
          refine pm_R_ret pm_M200 (r := some (.int 0)) rfl rfl ?_
          show pm_R _ 199 11 [.ref 41, .int a0, .int a1, .int a2, .int a3, .int a4] [.int 0] _ _
          refine pm_R_br pm_M199 (pc' := 54) (st' := []) rfl rfl ?_
          refine pm_R_ldc2 pm_M199 (pc' := 57) rfl rfl rfl ?_
          exact pm_R_ret pm_M199 (r := some (.long (-1))) rfl rfl (K (-1) m4 w h1 T2 F6 W9 (lf_weak (⟨by decide, by decide⟩ : lf_B (-1) (-1) (-1)) (by decide) (by decide)))
        · have V35 := rf_V.mk e11 ez26 e29 (Int32.not_lt.mp c34) B33 (by decide)
          have V35 := V35.back F6 (by decide)
          have B36 : sf_B 0 2 a1 := sf_leL (Int32.not_lt.mp c34) B33 B30
          have B37 : sf_B 0 2 z28 := sf_leR (Int32.not_lt.mp c34) B33 B30
          refine pm_R_op pm_M174 (pc' := 11) (st' := [.int 1]) rfl rfl rfl ?_
          refine pm_R_br pm_M174 (pc' := 15) rfl rfl ?_
          refine pm_R_ret pm_M174 (r := some (.int 1)) rfl rfl ?_
          show pm_R _ 177 13 [.ref 41, .int 1, .int a1] [.int 1] _ _
          refine pm_R_ret pm_M177 (r := some (.int 1)) rfl rfl ?_
          show pm_R _ 200 15 [.ref 41, .int a0, .int a1] [.int 1] _ _
          refine pm_R_br pm_M200 (pc' := 20) (st' := []) rfl rfl ?_
          refine pm_R_lo pm_M200 (pc' := 21) rfl rfl rfl ?_
          refine pm_R_lo pm_M200 (pc' := 22) rfl rfl rfl ?_
          refine pm_R_lo pm_M200 (pc' := 23) rfl rfl rfl ?_
          refine pm_R_cv pm_M200 (pc' := 26) (a := 41) (ra := [.int a1, .int a0]) (rest := []) (ls' := [.ref 41, .int a0, .int a1, pm_no]) rfl rfl (Or.inl rfl) pm_M201 T2.2.1 rfl (by decide) (Nat.lt_of_lt_of_le (by decide) T2.1) rfl rfl (Nat.le_of_ble_eq_true rfl) rfl rfl ?_
          refine rf_c201 (d := d + 3) T2 B23 B36 (V35.F F6 (by decide)) (fun m40 w41 h42 T43 F44 W45 B46 => ?_)
          have F47 := F6.trans F44 (by decide)
          have W48 : rf_W [0, 23, 24, 26] m m40 := W9.trans W45 (by decide)
          show pm_R _ 200 26 [.ref 41, .int a0, .int a1] [] _ _
          refine pm_R_op pm_M200 (pc' := 27) (st' := [.int 1]) rfl rfl rfl ?_
          refine pm_R_ret pm_M200 (r := some (.int 1)) rfl rfl ?_
          show pm_R _ 199 11 [.ref 41, .int a0, .int a1, .int a2, .int a3, .int a4] [.int 1] _ _
          refine pm_R_br pm_M199 (pc' := 14) (st' := []) rfl rfl ?_
          refine pm_R_lo pm_M199 (pc' := 15) rfl rfl rfl ?_
          refine pm_R_op pm_M199 (pc' := 16) (st' := [.int 0, .int a2]) rfl rfl rfl ?_
          refine pm_R_op pm_M199 (pc' := 17) (st' := [.int 5, .int 0, .int a2]) rfl rfl rfl ?_
          refine pm_R_cs pm_M199 (pc' := 20) (ra := [.int 5, .int 0, .int a2]) (rest := []) (ls' := [.int a2, .int 0, .int 5]) rfl rfl (Or.inl rfl) pm_M174 rfl rfl (Nat.le_of_ble_eq_true rfl) rfl rfl ?_
          refine pm_R_lo pm_M174 (pc' := 1) rfl rfl rfl ?_
          refine pm_R_lo pm_M174 (pc' := 2) rfl rfl rfl ?_
          refine pm_R_icmp pm_M174 (t := 14) (pc' := 5) rfl rfl rfl (fun c49 => ?_) (fun c49 => ?_)
          · have B50 : sf_B (-2147483648) (-1) a2 := sf_ltL c49 (sf_any a2) sf_k0
            refine pm_R_op pm_M174 (pc' := 15) (st' := [.int 0]) rfl rfl rfl ?_
            refine pm_R_ret pm_M174 (r := some (.int 0)) rfl rfl ?_
            show pm_R _ 199 20 [.ref 41, .int a0, .int a1, .int a2, .int a3, .int a4] [.int 0] _ _
            refine pm_R_br pm_M199 (pc' := 54) (st' := []) rfl rfl ?_
            refine pm_R_ldc2 pm_M199 (pc' := 57) rfl rfl rfl ?_
            exact pm_R_ret pm_M199 (r := some (.long (-1))) rfl rfl (K (-1) m40 w41 h42 T43 F47 W48 (lf_weak (⟨by decide, by decide⟩ : lf_B (-1) (-1) (-1)) (by decide) (by decide)))
          · have B51 : sf_B 0 2147483647 a2 := sf_leR (Int32.not_lt.mp c49) sf_k0 (sf_any a2)
            refine pm_R_lo pm_M174 (pc' := 6) rfl rfl rfl ?_
            refine pm_R_lo pm_M174 (pc' := 7) rfl rfl rfl ?_
            refine pm_R_icmp pm_M174 (t := 14) (pc' := 10) rfl rfl rfl (fun c52 => ?_) (fun c52 => ?_)
            · have B53 : sf_B 6 2147483647 a2 := sf_ltR c52 sf_k5 B51
              refine pm_R_op pm_M174 (pc' := 15) (st' := [.int 0]) rfl rfl rfl ?_
              refine pm_R_ret pm_M174 (r := some (.int 0)) rfl rfl ?_
              show pm_R _ 199 20 [.ref 41, .int a0, .int a1, .int a2, .int a3, .int a4] [.int 0] _ _
              refine pm_R_br pm_M199 (pc' := 54) (st' := []) rfl rfl ?_
              refine pm_R_ldc2 pm_M199 (pc' := 57) rfl rfl rfl ?_
              exact pm_R_ret pm_M199 (r := some (.long (-1))) rfl rfl (K (-1) m40 w41 h42 T43 F47 W48 (lf_weak (⟨by decide, by decide⟩ : lf_B (-1) (-1) (-1)) (by decide) (by decide)))
            · have B54 : sf_B 0 5 a2 := sf_leL (Int32.not_lt.mp c52) B51 sf_k5
              refine pm_R_op pm_M174 (pc' := 11) (st' := [.int 1]) rfl rfl rfl ?_
              refine pm_R_br pm_M174 (pc' := 15) rfl rfl ?_
              refine pm_R_ret pm_M174 (r := some (.int 1)) rfl rfl ?_
              show pm_R _ 199 20 [.ref 41, .int a0, .int a1, .int a2, .int a3, .int a4] [.int 1] _ _
              refine pm_R_br pm_M199 (pc' := 23) (st' := []) rfl rfl ?_
              refine pm_R_lo pm_M199 (pc' := 25) rfl rfl rfl ?_
              refine pm_R_op pm_M199 (pc' := 26) (st' := [.int 0, .int a3]) rfl rfl rfl ?_
              refine pm_R_lo pm_M199 (pc' := 27) rfl rfl rfl ?_
              refine rf_R_get pm_M199 T43 (pc' := 30) (v := .int (m40 24)) rfl rfl rfl rfl ?_
              refine pm_R_op pm_M199 (pc' := 31) (st' := [.int 1, .int (m40 24), .int 0, .int a3]) rfl rfl rfl ?_
              refine sf_R_isub pm_M199 (pc' := 32) rfl rfl B46 sf_k1 (by decide) (by decide) (fun z55 e56 B57 => ?_)
              refine pm_R_cs pm_M199 (pc' := 35) (ra := [.int z55, .int 0, .int a3]) (rest := []) (ls' := [.int a3, .int 0, .int z55]) rfl rfl (Or.inl rfl) pm_M174 rfl rfl (Nat.le_of_ble_eq_true rfl) rfl rfl ?_
              refine pm_R_lo pm_M174 (pc' := 1) rfl rfl rfl ?_
              refine pm_R_lo pm_M174 (pc' := 2) rfl rfl rfl ?_
              refine pm_R_icmp pm_M174 (t := 14) (pc' := 5) rfl rfl rfl (fun c58 => ?_) (fun c58 => ?_)
              · have B59 : sf_B (-2147483648) (-1) a3 := sf_ltL c58 (sf_any a3) sf_k0
                refine pm_R_op pm_M174 (pc' := 15) (st' := [.int 0]) rfl rfl rfl ?_
                refine pm_R_ret pm_M174 (r := some (.int 0)) rfl rfl ?_
                show pm_R _ 199 35 [.ref 41, .int a0, .int a1, .int a2, .int a3, .int a4] [.int 0] _ _
                refine pm_R_br pm_M199 (pc' := 54) (st' := []) rfl rfl ?_
                refine pm_R_ldc2 pm_M199 (pc' := 57) rfl rfl rfl ?_
                exact pm_R_ret pm_M199 (r := some (.long (-1))) rfl rfl (K (-1) m40 w41 h42 T43 F47 W48 (lf_weak (⟨by decide, by decide⟩ : lf_B (-1) (-1) (-1)) (by decide) (by decide)))
              · have B60 : sf_B 0 2147483647 a3 := sf_leR (Int32.not_lt.mp c58) sf_k0 (sf_any a3)
                refine pm_R_lo pm_M174 (pc' := 6) rfl rfl rfl ?_
                refine pm_R_lo pm_M174 (pc' := 7) rfl rfl rfl ?_
                refine pm_R_icmp pm_M174 (t := 14) (pc' := 10) rfl rfl rfl (fun c61 => ?_) (fun c61 => ?_)
                · have B62 : sf_B 1 2147483647 a3 := sf_ltR c61 B57 B60
                  refine pm_R_op pm_M174 (pc' := 15) (st' := [.int 0]) rfl rfl rfl ?_
                  refine pm_R_ret pm_M174 (r := some (.int 0)) rfl rfl ?_
                  show pm_R _ 199 35 [.ref 41, .int a0, .int a1, .int a2, .int a3, .int a4] [.int 0] _ _
                  refine pm_R_br pm_M199 (pc' := 54) (st' := []) rfl rfl ?_
                  refine pm_R_ldc2 pm_M199 (pc' := 57) rfl rfl rfl ?_
                  exact pm_R_ret pm_M199 (r := some (.long (-1))) rfl rfl (K (-1) m40 w41 h42 T43 F47 W48 (lf_weak (⟨by decide, by decide⟩ : lf_B (-1) (-1) (-1)) (by decide) (by decide)))
                · have B63 : sf_B 0 11 a3 := sf_leL (Int32.not_lt.mp c61) B60 B57
                  refine pm_R_op pm_M174 (pc' := 11) (st' := [.int 1]) rfl rfl rfl ?_
                  refine pm_R_br pm_M174 (pc' := 15) rfl rfl ?_
                  refine pm_R_ret pm_M174 (r := some (.int 1)) rfl rfl ?_
                  show pm_R _ 199 35 [.ref 41, .int a0, .int a1, .int a2, .int a3, .int a4] [.int 1] _ _
                  refine pm_R_br pm_M199 (pc' := 38) (st' := []) rfl rfl ?_
                  refine pm_R_lo pm_M199 (pc' := 40) rfl rfl rfl ?_
                  refine pm_R_lo pm_M199 (pc' := 42) rfl rfl rfl ?_
                  refine pm_R_lo pm_M199 (pc' := 43) rfl rfl rfl ?_
                  refine rf_R_get pm_M199 T43 (pc' := 46) (v := .int (m40 24)) rfl rfl rfl rfl ?_
                  refine pm_R_op pm_M199 (pc' := 47) (st' := [.int 1, .int (m40 24), .int a3, .int a4]) rfl rfl rfl ?_
                  refine sf_R_isub pm_M199 (pc' := 48) rfl rfl B46 sf_k1 (by decide) (by decide) (fun z64 e65 B66 => ?_)
                  refine pm_R_cs pm_M199 (pc' := 51) (ra := [.int z64, .int a3, .int a4]) (rest := []) (ls' := [.int a4, .int a3, .int z64]) rfl rfl (Or.inl rfl) pm_M174 rfl rfl (Nat.le_of_ble_eq_true rfl) rfl rfl ?_
                  refine pm_R_lo pm_M174 (pc' := 1) rfl rfl rfl ?_
                  refine pm_R_lo pm_M174 (pc' := 2) rfl rfl rfl ?_
                  refine pm_R_icmp pm_M174 (t := 14) (pc' := 5) rfl rfl rfl (fun c67 => ?_) (fun c67 => ?_)
                  · have B68 : sf_B (-2147483648) 10 a4 := sf_ltL c67 (sf_any a4) B63
                    refine pm_R_op pm_M174 (pc' := 15) (st' := [.int 0]) rfl rfl rfl ?_
                    refine pm_R_ret pm_M174 (r := some (.int 0)) rfl rfl ?_
                    show pm_R _ 199 51 [.ref 41, .int a0, .int a1, .int a2, .int a3, .int a4] [.int 0] _ _
                    refine pm_R_br pm_M199 (pc' := 54) (st' := []) rfl rfl ?_
                    refine pm_R_ldc2 pm_M199 (pc' := 57) rfl rfl rfl ?_
                    exact pm_R_ret pm_M199 (r := some (.long (-1))) rfl rfl (K (-1) m40 w41 h42 T43 F47 W48 (lf_weak (⟨by decide, by decide⟩ : lf_B (-1) (-1) (-1)) (by decide) (by decide)))
                  · have B69 : sf_B 0 2147483647 a4 := sf_leR (Int32.not_lt.mp c67) B63 (sf_any a4)
                    refine pm_R_lo pm_M174 (pc' := 6) rfl rfl rfl ?_
                    refine pm_R_lo pm_M174 (pc' := 7) rfl rfl rfl ?_
                    refine pm_R_icmp pm_M174 (t := 14) (pc' := 10) rfl rfl rfl (fun c70 => ?_) (fun c70 => ?_)
                    · have B71 : sf_B 1 2147483647 a4 := sf_ltR c70 B66 B69
                      refine pm_R_op pm_M174 (pc' := 15) (st' := [.int 0]) rfl rfl rfl ?_
                      refine pm_R_ret pm_M174 (r := some (.int 0)) rfl rfl ?_
                      show pm_R _ 199 51 [.ref 41, .int a0, .int a1, .int a2, .int a3, .int a4] [.int 0] _ _
                      refine pm_R_br pm_M199 (pc' := 54) (st' := []) rfl rfl ?_
                      refine pm_R_ldc2 pm_M199 (pc' := 57) rfl rfl rfl ?_
                      exact pm_R_ret pm_M199 (r := some (.long (-1))) rfl rfl (K (-1) m40 w41 h42 T43 F47 W48 (lf_weak (⟨by decide, by decide⟩ : lf_B (-1) (-1) (-1)) (by decide) (by decide)))
                    · have B72 : sf_B 0 11 a4 := sf_leL (Int32.not_lt.mp c70) B69 B66
                      refine pm_R_op pm_M174 (pc' := 11) (st' := [.int 1]) rfl rfl rfl ?_
                      refine pm_R_br pm_M174 (pc' := 15) rfl rfl ?_
                      refine pm_R_ret pm_M174 (r := some (.int 1)) rfl rfl ?_
                      show pm_R _ 199 51 [.ref 41, .int a0, .int a1, .int a2, .int a3, .int a4] [.int 1] _ _
                      refine pm_R_br pm_M199 (pc' := 58) (st' := []) rfl rfl ?_
                      refine pm_R_lo pm_M199 (pc' := 59) rfl rfl rfl ?_
                      refine pm_R_cv pm_M199 (pc' := 62) (a := 41) (ra := []) (rest := []) (ls' := [.ref 41, pm_no, pm_no, pm_no, pm_no, pm_no]) rfl rfl (Or.inl rfl) pm_M202 T43.2.1 rfl (by decide) (Nat.lt_of_lt_of_le (by decide) T43.1) rfl rfl (Nat.le_of_ble_eq_true rfl) rfl rfl ?_
                      refine rf_c202 (d := d + 0) T43  (fun m75 w76 h77 T78 F79 W80 => ?_)
                      have F81 := F47.trans F79 (by decide)
                      have B82 : sf_B 1 12 (m75 24) := by rw [W80 24 (by decide)]; exact B46
                      have W83 : rf_W [0, 23, 24, 26] m m75 := W48.trans W80 (by decide)
                      show pm_R _ 199 62 [.ref 41, .int a0, .int a1, .int a2, .int a3, .int a4] [] _ _
                      refine pm_R_lo pm_M199 (pc' := 63) rfl rfl rfl ?_
                      refine rf_R_get pm_M199 T78 (pc' := 66) (v := .ref 55) rfl rfl rfl rfl ?_
                      refine pm_R_lo pm_M199 (pc' := 67) rfl rfl rfl ?_
                      refine pm_R_lo pm_M199 (pc' := 69) rfl rfl rfl ?_
                      refine pm_R_lo pm_M199 (pc' := 71) rfl rfl rfl ?_
                      refine pm_R_cs pm_M199 (pc' := 74) (ra := [.int a4, .int a3, .int a2]) (rest := [.ref 55]) (ls' := [.int a2, .int a3, .int a4]) rfl rfl (Or.inl rfl) pm_M207 rfl rfl (Nat.le_of_ble_eq_true rfl) rfl rfl ?_
                      refine pm_R_op pm_M207 (pc' := 3) (st' := [.int 144]) rfl rfl rfl ?_
                      refine pm_R_lo pm_M207 (pc' := 4) rfl rfl rfl ?_
                      refine sf_R_imul pm_M207 (pc' := 5) rfl rfl sf_k144 B54 (by decide) (by decide) (by decide) (fun z84 e85 B86 => ?_)
                      refine pm_R_op pm_M207 (pc' := 7) (st' := [.int 12, .int z84]) rfl rfl rfl ?_
                      refine pm_R_lo pm_M207 (pc' := 8) rfl rfl rfl ?_
                      refine sf_R_imul pm_M207 (pc' := 9) rfl rfl sf_k12 B63 (by decide) (by decide) (by decide) (fun z87 e88 B89 => ?_)
                      refine sf_R_iadd pm_M207 (pc' := 10) rfl rfl B86 B89 (by decide) (by decide) (fun z90 e91 B92 => ?_)
                      refine pm_R_lo pm_M207 (pc' := 11) rfl rfl rfl ?_
                      refine sf_R_iadd pm_M207 (pc' := 12) rfl rfl B92 B72 (by decide) (by decide) (fun z93 e94 B95 => ?_)
                      refine pm_R_ret pm_M207 (r := some (.int z93)) rfl (pm_ret_i _) ?_
                      show pm_R _ 199 74 [.ref 41, .int a0, .int a1, .int a2, .int a3, .int a4] [.int z93, .ref 55] _ _
                      obtain ⟨f96, e97, b98⟩ := T78.2.2.2.1 55 (by decide) (by decide)
                      refine rf_R_lld pm_M199 T78 (pc' := 75) rfl e97 (by decide) (by decide) (sf_in B95 (by decide) (by decide)) rfl (fun z99 ez100 => ?_)
                      have B101 : lf_B 0 1000000000000 z99 := ez100 ▸ b98 _
                      exact pm_R_ret pm_M199 (r := some (.long z99)) rfl rfl (K z99 m75 w76 h77 T78 F81 W83 (lf_weak B101 (by decide) (by decide)))

set_option maxRecDepth 100000 in
set_option maxHeartbeats 4000000 in
/-- SilentTableModel.means -/
theorem rf_c214 {d : Nat} {m : Nat → Int32} {w : Int64} {h : pm_H} {Q : Option Value → pm_H → Prop} {a0 : Int32} {a1 : Int32} {a2 : Int32} (T : rf_T m w h)  (K : ∀ (r : Int32) (m' : Nat → Int32) (w' : Int64) (h' : pm_H), rf_T m' w' h' → rf_G [41, 53, 54] h h' → rf_W [0, 23, 24, 26] m m' → sf_B (-2) 50 r → Q (some (.int r)) h') : pm_R (d + 6) 214 0 [.ref 41, .int a0, .int a1, .int a2] [] h Q := by
  refine pm_R_lo pm_M214 (pc' := 1) rfl rfl rfl ?_
  refine pm_R_op pm_M214 (pc' := 2) (st' := [.int 0, .ref 41]) rfl rfl rfl ?_
  refine rf_R_put pm_M214 T (pc' := 5) rfl rfl rfl (by decide) rfl rfl sf_k0 rfl rfl (fun h1 m4 em5 T2 F3 => ?_)
  have F6 := (rf_G.refl [41, 53, 54] h).trans F3 (by decide)
  have B7 : sf_B 0 0 (m4 0) := by rw [em5]; exact sf_k0
  have W9 : rf_W [0, 23, 24, 26] m m4 := by rw [em5]; exact (rf_W.refl [0, 23, 24, 26] m).put (by decide)
  refine pm_R_lo pm_M214 (pc' := 6) rfl rfl rfl ?_
  refine pm_R_lo pm_M214 (pc' := 7) rfl rfl rfl ?_
  refine pm_R_lo pm_M214 (pc' := 8) rfl rfl rfl ?_
  refine pm_R_cv pm_M214 (pc' := 11) (a := 41) (ra := [.int a1, .int a0]) (rest := []) (ls' := [.ref 41, .int a0, .int a1]) rfl rfl (Or.inl rfl) pm_M200 T2.2.1 rfl (by decide) (Nat.lt_of_lt_of_le (by decide) T2.1) rfl rfl (Nat.le_of_ble_eq_true rfl) rfl rfl ?_
  refine pm_R_lo pm_M200 (pc' := 1) rfl rfl rfl ?_
  refine pm_R_op pm_M200 (pc' := 2) (st' := [.int 0, .ref 41]) rfl rfl rfl ?_
  refine pm_R_lo pm_M200 (pc' := 3) rfl rfl rfl ?_
  refine pm_R_cv pm_M200 (pc' := 6) (a := 41) (ra := [.int a0, .int 0]) (rest := []) (ls' := [.ref 41, .int 0, .int a0]) rfl rfl (Or.inl rfl) pm_M177 T2.2.1 rfl (by decide) (Nat.lt_of_lt_of_le (by decide) T2.1) rfl rfl (Nat.le_of_ble_eq_true rfl) rfl rfl ?_
  refine pm_R_lo pm_M177 (pc' := 1) rfl rfl rfl ?_
  refine pm_R_op pm_M177 (pc' := 2) (st' := [.int 0, .int a0]) rfl rfl rfl ?_
  refine pm_R_lo pm_M177 (pc' := 3) rfl rfl rfl ?_
  refine rf_R_get pm_M177 T2 (pc' := 6) (v := .ref 46) rfl rfl rfl rfl ?_
  refine pm_R_lo pm_M177 (pc' := 7) rfl rfl rfl ?_
  obtain ⟨f10, e11, b12⟩ := T2.2.2.2.1 46 (by decide) (by decide)
  refine rf_R_ild pm_M177 T2 (pc' := 8) rfl e11 (by decide) rfl rfl (fun z13 ez14 => ?_)
  have B15 : sf_B 0 2 z13 := ez14 ▸ (b12 0)
  refine pm_R_op pm_M177 (pc' := 9) (st' := [.int 1, .int z13, .int 0, .int a0]) rfl rfl rfl ?_
  refine sf_R_isub pm_M177 (pc' := 10) rfl rfl B15 sf_k1 (by decide) (by decide) (fun z16 e17 B18 => ?_)
  refine pm_R_cs pm_M177 (pc' := 13) (ra := [.int z16, .int 0, .int a0]) (rest := []) (ls' := [.int a0, .int 0, .int z16]) rfl rfl (Or.inl rfl) pm_M174 rfl rfl (Nat.le_of_ble_eq_true rfl) rfl rfl ?_
  refine pm_R_lo pm_M174 (pc' := 1) rfl rfl rfl ?_
  refine pm_R_lo pm_M174 (pc' := 2) rfl rfl rfl ?_
  refine pm_R_icmp pm_M174 (t := 14) (pc' := 5) rfl rfl rfl (fun c19 => ?_) (fun c19 => ?_)
  · have B20 : sf_B (-2147483648) (-1) a0 := sf_ltL c19 (sf_any a0) sf_k0
    refine pm_R_op pm_M174 (pc' := 15) (st' := [.int 0]) rfl rfl rfl ?_
    refine pm_R_ret pm_M174 (r := some (.int 0)) rfl rfl ?_
    show pm_R _ 177 13 [.ref 41, .int 0, .int a0] [.int 0] _ _
    refine pm_R_ret pm_M177 (r := some (.int 0)) rfl rfl ?_
    show pm_R _ 200 6 [.ref 41, .int a0, .int a1] [.int 0] _ _
    refine pm_R_br pm_M200 (pc' := 18) (st' := []) rfl rfl ?_
    refine pm_R_op pm_M200 (pc' := 19) (st' := [.int 0]) rfl rfl rfl ?_
    refine pm_R_ret pm_M200 (r := some (.int 0)) rfl rfl ?_
    show pm_R _ 214 11 [.ref 41, .int a0, .int a1, .int a2] [.int 0] _ _
    refine pm_R_br pm_M214 (pc' := 25) (st' := []) rfl rfl ?_
    refine pm_R_op pm_M214 (pc' := 27) (st' := [.int (-2)]) rfl rfl rfl ?_
    exact pm_R_ret pm_M214 (r := some (.int (-2))) rfl rfl (K (-2) m4 w h1 T2 F6 W9 (sf_weak sf_kn2 (by decide) (by decide)))
  · have B21 : sf_B 0 2147483647 a0 := sf_leR (Int32.not_lt.mp c19) sf_k0 (sf_any a0)
    refine pm_R_lo pm_M174 (pc' := 6) rfl rfl rfl ?_
    refine pm_R_lo pm_M174 (pc' := 7) rfl rfl rfl ?_
    refine pm_R_icmp pm_M174 (t := 14) (pc' := 10) rfl rfl rfl (fun c22 => ?_) (fun c22 => ?_)
    · skip
      refine pm_R_op pm_M174 (pc' := 15) (st' := [.int 0]) rfl rfl rfl ?_
      refine pm_R_ret pm_M174 (r := some (.int 0)) rfl rfl ?_
      show pm_R _ 177 13 [.ref 41, .int 0, .int a0] [.int 0] _ _
      refine pm_R_ret pm_M177 (r := some (.int 0)) rfl rfl ?_
      show pm_R _ 200 6 [.ref 41, .int a0, .int a1] [.int 0] _ _
      refine pm_R_br pm_M200 (pc' := 18) (st' := []) rfl rfl ?_
      refine pm_R_op pm_M200 (pc' := 19) (st' := [.int 0]) rfl rfl rfl ?_
      refine pm_R_ret pm_M200 (r := some (.int 0)) rfl rfl ?_
      show pm_R _ 214 11 [.ref 41, .int a0, .int a1, .int a2] [.int 0] _ _
      refine pm_R_br pm_M214 (pc' := 25) (st' := []) rfl rfl ?_
      refine pm_R_op pm_M214 (pc' := 27) (st' := [.int (-2)]) rfl rfl rfl ?_
      exact pm_R_ret pm_M214 (r := some (.int (-2))) rfl rfl (K (-2) m4 w h1 T2 F6 W9 (sf_weak sf_kn2 (by decide) (by decide)))
    · have B23 : sf_B 0 1 a0 := sf_leL (Int32.not_lt.mp c22) B21 B18
      have B24 : sf_B 0 1 z16 := sf_leR (Int32.not_lt.mp c22) B21 B18
      refine pm_R_op pm_M174 (pc' := 11) (st' := [.int 1]) rfl rfl rfl ?_
      refine pm_R_br pm_M174 (pc' := 15) rfl rfl ?_
      refine pm_R_ret pm_M174 (r := some (.int 1)) rfl rfl ?_
      show pm_R _ 177 13 [.ref 41, .int 0, .int a0] [.int 1] _ _
      refine pm_R_ret pm_M177 (r := some (.int 1)) rfl rfl ?_
      show pm_R _ 200 6 [.ref 41, .int a0, .int a1] [.int 1] _ _
      refine pm_R_br pm_M200 (pc' := 9) (st' := []) rfl rfl ?_
      refine pm_R_lo pm_M200 (pc' := 10) rfl rfl rfl ?_
      refine pm_R_op pm_M200 (pc' := 11) (st' := [.int 1, .ref 41]) rfl rfl rfl ?_
      refine pm_R_lo pm_M200 (pc' := 12) rfl rfl rfl ?_
      refine pm_R_cv pm_M200 (pc' := 15) (a := 41) (ra := [.int a1, .int 1]) (rest := []) (ls' := [.ref 41, .int 1, .int a1]) rfl rfl (Or.inl rfl) pm_M177 T2.2.1 rfl (by decide) (Nat.lt_of_lt_of_le (by decide) T2.1) rfl rfl (Nat.le_of_ble_eq_true rfl) rfl rfl ?_
      refine pm_R_lo pm_M177 (pc' := 1) rfl rfl rfl ?_
      refine pm_R_op pm_M177 (pc' := 2) (st' := [.int 0, .int a1]) rfl rfl rfl ?_
      refine pm_R_lo pm_M177 (pc' := 3) rfl rfl rfl ?_
      refine rf_R_get pm_M177 T2 (pc' := 6) (v := .ref 46) rfl rfl rfl rfl ?_
      refine pm_R_lo pm_M177 (pc' := 7) rfl rfl rfl ?_
      refine rf_R_ild pm_M177 T2 (pc' := 8) rfl e11 (by decide) rfl rfl (fun z25 ez26 => ?_)
      have B27 : sf_B 0 3 z25 := ez26 ▸ (b12 1)
      refine pm_R_op pm_M177 (pc' := 9) (st' := [.int 1, .int z25, .int 0, .int a1]) rfl rfl rfl ?_
      refine sf_R_isub pm_M177 (pc' := 10) rfl rfl B27 sf_k1 (by decide) (by decide) (fun z28 e29 B30 => ?_)
      refine pm_R_cs pm_M177 (pc' := 13) (ra := [.int z28, .int 0, .int a1]) (rest := []) (ls' := [.int a1, .int 0, .int z28]) rfl rfl (Or.inl rfl) pm_M174 rfl rfl (Nat.le_of_ble_eq_true rfl) rfl rfl ?_
      refine pm_R_lo pm_M174 (pc' := 1) rfl rfl rfl ?_
      refine pm_R_lo pm_M174 (pc' := 2) rfl rfl rfl ?_
      refine pm_R_icmp pm_M174 (t := 14) (pc' := 5) rfl rfl rfl (fun c31 => ?_) (fun c31 => ?_)
      · have B32 : sf_B (-2147483648) (-1) a1 := sf_ltL c31 (sf_any a1) sf_k0
        refine pm_R_op pm_M174 (pc' := 15) (st' := [.int 0]) rfl rfl rfl ?_
        refine pm_R_ret pm_M174 (r := some (.int 0)) rfl rfl ?_
        show pm_R _ 177 13 [.ref 41, .int 1, .int a1] [.int 0] _ _
        refine pm_R_ret pm_M177 (r := some (.int 0)) rfl rfl ?_
        show pm_R _ 200 15 [.ref 41, .int a0, .int a1] [.int 0] _ _
        refine pm_R_br pm_M200 (pc' := 18) (st' := []) rfl rfl ?_
        refine pm_R_op pm_M200 (pc' := 19) (st' := [.int 0]) rfl rfl rfl ?_
        refine pm_R_ret pm_M200 (r := some (.int 0)) rfl rfl ?_
        show pm_R _ 214 11 [.ref 41, .int a0, .int a1, .int a2] [.int 0] _ _
        refine pm_R_br pm_M214 (pc' := 25) (st' := []) rfl rfl ?_
        refine pm_R_op pm_M214 (pc' := 27) (st' := [.int (-2)]) rfl rfl rfl ?_
        exact pm_R_ret pm_M214 (r := some (.int (-2))) rfl rfl (K (-2) m4 w h1 T2 F6 W9 (sf_weak sf_kn2 (by decide) (by decide)))
      · have B33 : sf_B 0 2147483647 a1 := sf_leR (Int32.not_lt.mp c31) sf_k0 (sf_any a1)
        refine pm_R_lo pm_M174 (pc' := 6) rfl rfl rfl ?_
        refine pm_R_lo pm_M174 (pc' := 7) rfl rfl rfl ?_
        refine pm_R_icmp pm_M174 (t := 14) (pc' := 10) rfl rfl rfl (fun c34 => ?_) (fun c34 => ?_)
        · skip
          refine pm_R_op pm_M174 (pc' := 15) (st' := [.int 0]) rfl rfl rfl ?_
          refine pm_R_ret pm_M174 (r := some (.int 0)) rfl rfl ?_
          show pm_R _ 177 13 [.ref 41, .int 1, .int a1] [.int 0] _ _
          refine pm_R_ret pm_M177 (r := some (.int 0)) rfl rfl ?_
          show pm_R _ 200 15 [.ref 41, .int a0, .int a1] [.int 0] _ _
          refine pm_R_br pm_M200 (pc' := 18) (st' := []) rfl rfl ?_
          refine pm_R_op pm_M200 (pc' := 19) (st' := [.int 0]) rfl rfl rfl ?_
          refine pm_R_ret pm_M200 (r := some (.int 0)) rfl rfl ?_
          show pm_R _ 214 11 [.ref 41, .int a0, .int a1, .int a2] [.int 0] _ _
          refine pm_R_br pm_M214 (pc' := 25) (st' := []) rfl rfl ?_
          refine pm_R_op pm_M214 (pc' := 27) (st' := [.int (-2)]) rfl rfl rfl ?_
          exact pm_R_ret pm_M214 (r := some (.int (-2))) rfl rfl (K (-2) m4 w h1 T2 F6 W9 (sf_weak sf_kn2 (by decide) (by decide)))
        · have V35 := rf_V.mk e11 ez26 e29 (Int32.not_lt.mp c34) B33 (by decide)
          have V35 := V35.back F6 (by decide)
          have B36 : sf_B 0 2 a1 := sf_leL (Int32.not_lt.mp c34) B33 B30
          have B37 : sf_B 0 2 z28 := sf_leR (Int32.not_lt.mp c34) B33 B30
          refine pm_R_op pm_M174 (pc' := 11) (st' := [.int 1]) rfl rfl rfl ?_
          refine pm_R_br pm_M174 (pc' := 15) rfl rfl ?_
          refine pm_R_ret pm_M174 (r := some (.int 1)) rfl rfl ?_
          show pm_R _ 177 13 [.ref 41, .int 1, .int a1] [.int 1] _ _
          refine pm_R_ret pm_M177 (r := some (.int 1)) rfl rfl ?_
          show pm_R _ 200 15 [.ref 41, .int a0, .int a1] [.int 1] _ _
          refine pm_R_br pm_M200 (pc' := 20) (st' := []) rfl rfl ?_
          refine pm_R_lo pm_M200 (pc' := 21) rfl rfl rfl ?_
          refine pm_R_lo pm_M200 (pc' := 22) rfl rfl rfl ?_
          refine pm_R_lo pm_M200 (pc' := 23) rfl rfl rfl ?_
          refine pm_R_cv pm_M200 (pc' := 26) (a := 41) (ra := [.int a1, .int a0]) (rest := []) (ls' := [.ref 41, .int a0, .int a1, pm_no]) rfl rfl (Or.inl rfl) pm_M201 T2.2.1 rfl (by decide) (Nat.lt_of_lt_of_le (by decide) T2.1) rfl rfl (Nat.le_of_ble_eq_true rfl) rfl rfl ?_
          refine rf_c201 (d := d + 4) T2 B23 B36 (V35.F F6 (by decide)) (fun m40 w41 h42 T43 F44 W45 B46 => ?_)
          have F47 := F6.trans F44 (by decide)
          have W48 : rf_W [0, 23, 24, 26] m m40 := W9.trans W45 (by decide)
          show pm_R _ 200 26 [.ref 41, .int a0, .int a1] [] _ _
          refine pm_R_op pm_M200 (pc' := 27) (st' := [.int 1]) rfl rfl rfl ?_
          refine pm_R_ret pm_M200 (r := some (.int 1)) rfl rfl ?_
          show pm_R _ 214 11 [.ref 41, .int a0, .int a1, .int a2] [.int 1] _ _
          refine pm_R_br pm_M214 (pc' := 14) (st' := []) rfl rfl ?_
          refine pm_R_lo pm_M214 (pc' := 15) rfl rfl rfl ?_
          refine pm_R_cv pm_M214 (pc' := 18) (a := 41) (ra := []) (rest := []) (ls' := [.ref 41]) rfl rfl (Or.inl rfl) pm_M215 T43.2.1 rfl (by decide) (Nat.lt_of_lt_of_le (by decide) T43.1) rfl rfl (Nat.le_of_ble_eq_true rfl) rfl rfl ?_
          refine rf_c215 (d := d + 0) T43 B46 (fun r49 m51 w52 h53 T54 F55 W56 => ?_)
          have F57 := F47.trans F55 (by decide)
          have B58 : sf_B 1 12 (m51 24) := by rw [W56 24 (by decide)]; exact B46
          have W59 : rf_W [0, 23, 24, 26] m m51 := W48.trans W56 (by decide)
          show pm_R _ 214 18 [.ref 41, .int a0, .int a1, .int a2] [.long r49] _ _
          refine pm_R_lo pm_M214 (pc' := 19) rfl rfl rfl ?_
          refine pm_R_cs pm_M214 (pc' := 22) (ra := [.int a2, .long r49]) (rest := []) (ls' := [.long r49, pm_no, .int a2, pm_no, pm_no]) rfl rfl (Or.inl rfl) pm_M221 rfl rfl (Nat.le_of_ble_eq_true rfl) rfl rfl ?_
          refine rf_c221 (d := d + 3)  (fun r60 B61 => ?_)
          show pm_R _ 214 22 [.ref 41, .int a0, .int a1, .int a2] [.int r60] _ _
          refine pm_R_br pm_M214 (pc' := 27) rfl rfl ?_
          exact pm_R_ret pm_M214 (r := some (.int r60)) rfl (pm_ret_i _) (K r60 m51 w52 h53 T54 F57 W59 B61)

set_option maxRecDepth 100000 in
set_option maxHeartbeats 4000000 in
/-- SilentTableModel.ways -/
theorem rf_c223 {d : Nat} {m : Nat → Int32} {w : Int64} {h : pm_H} {Q : Option Value → pm_H → Prop} {a0 : Int32} {a1 : Int32} {a2 : Int32} (T : rf_T m w h)  (K : ∀ (r : Int64) (m' : Nat → Int32) (w' : Int64) (h' : pm_H), rf_T m' w' h' → rf_G [41, 53, 56] h h' → rf_W [0, 23, 24, 26] m m' → Q (some (.long r)) h') : pm_R (d + 4) 223 0 [.ref 41, .int a0, .int a1, .int a2] [] h Q := by
  refine pm_R_lo pm_M223 (pc' := 1) rfl rfl rfl ?_
  refine pm_R_op pm_M223 (pc' := 2) (st' := [.int 0, .ref 41]) rfl rfl rfl ?_
  refine rf_R_put pm_M223 T (pc' := 5) rfl rfl rfl (by decide) rfl rfl sf_k0 rfl rfl (fun h1 m4 em5 T2 F3 => ?_)
  have F6 := (rf_G.refl [41, 53, 56] h).trans F3 (by decide)
  have B7 : sf_B 0 0 (m4 0) := by rw [em5]; exact sf_k0
  have W9 : rf_W [0, 23, 24, 26] m m4 := by rw [em5]; exact (rf_W.refl [0, 23, 24, 26] m).put (by decide)
  refine pm_R_lo pm_M223 (pc' := 6) rfl rfl rfl ?_
  refine pm_R_op pm_M223 (pc' := 7) (st' := [.int 0, .int a2]) rfl rfl rfl ?_
  refine pm_R_op pm_M223 (pc' := 9) (st' := [.int 49, .int 0, .int a2]) rfl rfl rfl ?_
  refine pm_R_cs pm_M223 (pc' := 12) (ra := [.int 49, .int 0, .int a2]) (rest := []) (ls' := [.int a2, .int 0, .int 49]) rfl rfl (Or.inl rfl) pm_M174 rfl rfl (Nat.le_of_ble_eq_true rfl) rfl rfl ?_
  refine pm_R_lo pm_M174 (pc' := 1) rfl rfl rfl ?_
  refine pm_R_lo pm_M174 (pc' := 2) rfl rfl rfl ?_
  refine pm_R_icmp pm_M174 (t := 14) (pc' := 5) rfl rfl rfl (fun c10 => ?_) (fun c10 => ?_)
  · have B11 : sf_B (-2147483648) (-1) a2 := sf_ltL c10 (sf_any a2) sf_k0
    refine pm_R_op pm_M174 (pc' := 15) (st' := [.int 0]) rfl rfl rfl ?_
    refine pm_R_ret pm_M174 (r := some (.int 0)) rfl rfl ?_
    show pm_R _ 223 12 [.ref 41, .int a0, .int a1, .int a2] [.int 0] _ _
    refine pm_R_br pm_M223 (pc' := 24) (st' := []) rfl rfl ?_
    refine pm_R_ldc2 pm_M223 (pc' := 27) rfl rfl rfl ?_
    exact pm_R_ret pm_M223 (r := some (.long (-1))) rfl rfl (K (-1) m4 w h1 T2 F6 W9)
  · have B12 : sf_B 0 2147483647 a2 := sf_leR (Int32.not_lt.mp c10) sf_k0 (sf_any a2)
    refine pm_R_lo pm_M174 (pc' := 6) rfl rfl rfl ?_
    refine pm_R_lo pm_M174 (pc' := 7) rfl rfl rfl ?_
    refine pm_R_icmp pm_M174 (t := 14) (pc' := 10) rfl rfl rfl (fun c13 => ?_) (fun c13 => ?_)
    · have B14 : sf_B 50 2147483647 a2 := sf_ltR c13 sf_k49 B12
      refine pm_R_op pm_M174 (pc' := 15) (st' := [.int 0]) rfl rfl rfl ?_
      refine pm_R_ret pm_M174 (r := some (.int 0)) rfl rfl ?_
      show pm_R _ 223 12 [.ref 41, .int a0, .int a1, .int a2] [.int 0] _ _
      refine pm_R_br pm_M223 (pc' := 24) (st' := []) rfl rfl ?_
      refine pm_R_ldc2 pm_M223 (pc' := 27) rfl rfl rfl ?_
      exact pm_R_ret pm_M223 (r := some (.long (-1))) rfl rfl (K (-1) m4 w h1 T2 F6 W9)
    · have B15 : sf_B 0 49 a2 := sf_leL (Int32.not_lt.mp c13) B12 sf_k49
      refine pm_R_op pm_M174 (pc' := 11) (st' := [.int 1]) rfl rfl rfl ?_
      refine pm_R_br pm_M174 (pc' := 15) rfl rfl ?_
      refine pm_R_ret pm_M174 (r := some (.int 1)) rfl rfl ?_
      show pm_R _ 223 12 [.ref 41, .int a0, .int a1, .int a2] [.int 1] _ _
      refine pm_R_br pm_M223 (pc' := 15) (st' := []) rfl rfl ?_
      refine pm_R_lo pm_M223 (pc' := 16) rfl rfl rfl ?_
      refine pm_R_lo pm_M223 (pc' := 17) rfl rfl rfl ?_
      refine pm_R_lo pm_M223 (pc' := 18) rfl rfl rfl ?_
      refine pm_R_cv pm_M223 (pc' := 21) (a := 41) (ra := [.int a1, .int a0]) (rest := []) (ls' := [.ref 41, .int a0, .int a1]) rfl rfl (Or.inl rfl) pm_M200 T2.2.1 rfl (by decide) (Nat.lt_of_lt_of_le (by decide) T2.1) rfl rfl (Nat.le_of_ble_eq_true rfl) rfl rfl ?_
      refine pm_R_lo pm_M200 (pc' := 1) rfl rfl rfl ?_
      refine pm_R_op pm_M200 (pc' := 2) (st' := [.int 0, .ref 41]) rfl rfl rfl ?_
      refine pm_R_lo pm_M200 (pc' := 3) rfl rfl rfl ?_
      refine pm_R_cv pm_M200 (pc' := 6) (a := 41) (ra := [.int a0, .int 0]) (rest := []) (ls' := [.ref 41, .int 0, .int a0]) rfl rfl (Or.inl rfl) pm_M177 T2.2.1 rfl (by decide) (Nat.lt_of_lt_of_le (by decide) T2.1) rfl rfl (Nat.le_of_ble_eq_true rfl) rfl rfl ?_
      refine pm_R_lo pm_M177 (pc' := 1) rfl rfl rfl ?_
      refine pm_R_op pm_M177 (pc' := 2) (st' := [.int 0, .int a0]) rfl rfl rfl ?_
      refine pm_R_lo pm_M177 (pc' := 3) rfl rfl rfl ?_
      refine rf_R_get pm_M177 T2 (pc' := 6) (v := .ref 46) rfl rfl rfl rfl ?_
      refine pm_R_lo pm_M177 (pc' := 7) rfl rfl rfl ?_
      obtain ⟨f16, e17, b18⟩ := T2.2.2.2.1 46 (by decide) (by decide)
      refine rf_R_ild pm_M177 T2 (pc' := 8) rfl e17 (by decide) rfl rfl (fun z19 ez20 => ?_)
      have B21 : sf_B 0 2 z19 := ez20 ▸ (b18 0)
      refine pm_R_op pm_M177 (pc' := 9) (st' := [.int 1, .int z19, .int 0, .int a0]) rfl rfl rfl ?_
      refine sf_R_isub pm_M177 (pc' := 10) rfl rfl B21 sf_k1 (by decide) (by decide) (fun z22 e23 B24 => ?_)
      refine pm_R_cs pm_M177 (pc' := 13) (ra := [.int z22, .int 0, .int a0]) (rest := []) (ls' := [.int a0, .int 0, .int z22]) rfl rfl (Or.inl rfl) pm_M174 rfl rfl (Nat.le_of_ble_eq_true rfl) rfl rfl ?_
      refine pm_R_lo pm_M174 (pc' := 1) rfl rfl rfl ?_
      refine pm_R_lo pm_M174 (pc' := 2) rfl rfl rfl ?_
      refine pm_R_icmp pm_M174 (t := 14) (pc' := 5) rfl rfl rfl (fun c25 => ?_) (fun c25 => ?_)
      · have B26 : sf_B (-2147483648) (-1) a0 := sf_ltL c25 (sf_any a0) sf_k0
        refine pm_R_op pm_M174 (pc' := 15) (st' := [.int 0]) rfl rfl rfl ?_
        refine pm_R_ret pm_M174 (r := some (.int 0)) rfl rfl ?_
        show pm_R _ 177 13 [.ref 41, .int 0, .int a0] [.int 0] _ _
        refine pm_R_ret pm_M177 (r := some (.int 0)) rfl rfl ?_
        show pm_R _ 200 6 [.ref 41, .int a0, .int a1] [.int 0] _ _
        refine pm_R_br pm_M200 (pc' := 18) (st' := []) rfl rfl ?_
        refine pm_R_op pm_M200 (pc' := 19) (st' := [.int 0]) rfl rfl rfl ?_
        refine pm_R_ret pm_M200 (r := some (.int 0)) rfl rfl ?_
        show pm_R _ 223 21 [.ref 41, .int a0, .int a1, .int a2] [.int 0] _ _
        refine pm_R_br pm_M223 (pc' := 24) (st' := []) rfl rfl ?_
        refine pm_R_ldc2 pm_M223 (pc' := 27) rfl rfl rfl ?_
        exact pm_R_ret pm_M223 (r := some (.long (-1))) rfl rfl (K (-1) m4 w h1 T2 F6 W9)
      · have B27 : sf_B 0 2147483647 a0 := sf_leR (Int32.not_lt.mp c25) sf_k0 (sf_any a0)
        refine pm_R_lo pm_M174 (pc' := 6) rfl rfl rfl ?_
        refine pm_R_lo pm_M174 (pc' := 7) rfl rfl rfl ?_
        refine pm_R_icmp pm_M174 (t := 14) (pc' := 10) rfl rfl rfl (fun c28 => ?_) (fun c28 => ?_)
        · skip
          refine pm_R_op pm_M174 (pc' := 15) (st' := [.int 0]) rfl rfl rfl ?_
          refine pm_R_ret pm_M174 (r := some (.int 0)) rfl rfl ?_
          show pm_R _ 177 13 [.ref 41, .int 0, .int a0] [.int 0] _ _
          refine pm_R_ret pm_M177 (r := some (.int 0)) rfl rfl ?_
          show pm_R _ 200 6 [.ref 41, .int a0, .int a1] [.int 0] _ _
          refine pm_R_br pm_M200 (pc' := 18) (st' := []) rfl rfl ?_
          refine pm_R_op pm_M200 (pc' := 19) (st' := [.int 0]) rfl rfl rfl ?_
          refine pm_R_ret pm_M200 (r := some (.int 0)) rfl rfl ?_
          show pm_R _ 223 21 [.ref 41, .int a0, .int a1, .int a2] [.int 0] _ _
          refine pm_R_br pm_M223 (pc' := 24) (st' := []) rfl rfl ?_
          refine pm_R_ldc2 pm_M223 (pc' := 27) rfl rfl rfl ?_
          exact pm_R_ret pm_M223 (r := some (.long (-1))) rfl rfl (K (-1) m4 w h1 T2 F6 W9)
        · have B29 : sf_B 0 1 a0 := sf_leL (Int32.not_lt.mp c28) B27 B24
          have B30 : sf_B 0 1 z22 := sf_leR (Int32.not_lt.mp c28) B27 B24
          refine pm_R_op pm_M174 (pc' := 11) (st' := [.int 1]) rfl rfl rfl ?_
          refine pm_R_br pm_M174 (pc' := 15) rfl rfl ?_
          refine pm_R_ret pm_M174 (r := some (.int 1)) rfl rfl ?_
          show pm_R _ 177 13 [.ref 41, .int 0, .int a0] [.int 1] _ _
          refine pm_R_ret pm_M177 (r := some (.int 1)) rfl rfl ?_
          show pm_R _ 200 6 [.ref 41, .int a0, .int a1] [.int 1] _ _
          refine pm_R_br pm_M200 (pc' := 9) (st' := []) rfl rfl ?_
          refine pm_R_lo pm_M200 (pc' := 10) rfl rfl rfl ?_
          refine pm_R_op pm_M200 (pc' := 11) (st' := [.int 1, .ref 41]) rfl rfl rfl ?_
          refine pm_R_lo pm_M200 (pc' := 12) rfl rfl rfl ?_
          refine pm_R_cv pm_M200 (pc' := 15) (a := 41) (ra := [.int a1, .int 1]) (rest := []) (ls' := [.ref 41, .int 1, .int a1]) rfl rfl (Or.inl rfl) pm_M177 T2.2.1 rfl (by decide) (Nat.lt_of_lt_of_le (by decide) T2.1) rfl rfl (Nat.le_of_ble_eq_true rfl) rfl rfl ?_
          refine pm_R_lo pm_M177 (pc' := 1) rfl rfl rfl ?_
          refine pm_R_op pm_M177 (pc' := 2) (st' := [.int 0, .int a1]) rfl rfl rfl ?_
          refine pm_R_lo pm_M177 (pc' := 3) rfl rfl rfl ?_
          refine rf_R_get pm_M177 T2 (pc' := 6) (v := .ref 46) rfl rfl rfl rfl ?_
          refine pm_R_lo pm_M177 (pc' := 7) rfl rfl rfl ?_
          refine rf_R_ild pm_M177 T2 (pc' := 8) rfl e17 (by decide) rfl rfl (fun z31 ez32 => ?_)
          have B33 : sf_B 0 3 z31 := ez32 ▸ (b18 1)
          refine pm_R_op pm_M177 (pc' := 9) (st' := [.int 1, .int z31, .int 0, .int a1]) rfl rfl rfl ?_
          refine sf_R_isub pm_M177 (pc' := 10) rfl rfl B33 sf_k1 (by decide) (by decide) (fun z34 e35 B36 => ?_)
          refine pm_R_cs pm_M177 (pc' := 13) (ra := [.int z34, .int 0, .int a1]) (rest := []) (ls' := [.int a1, .int 0, .int z34]) rfl rfl (Or.inl rfl) pm_M174 rfl rfl (Nat.le_of_ble_eq_true rfl) rfl rfl ?_
          refine pm_R_lo pm_M174 (pc' := 1) rfl rfl rfl ?_
          refine pm_R_lo pm_M174 (pc' := 2) rfl rfl rfl ?_
          refine pm_R_icmp pm_M174 (t := 14) (pc' := 5) rfl rfl rfl (fun c37 => ?_) (fun c37 => ?_)
          · have B38 : sf_B (-2147483648) (-1) a1 := sf_ltL c37 (sf_any a1) sf_k0
            refine pm_R_op pm_M174 (pc' := 15) (st' := [.int 0]) rfl rfl rfl ?_
            refine pm_R_ret pm_M174 (r := some (.int 0)) rfl rfl ?_
            show pm_R _ 177 13 [.ref 41, .int 1, .int a1] [.int 0] _ _
            refine pm_R_ret pm_M177 (r := some (.int 0)) rfl rfl ?_
            show pm_R _ 200 15 [.ref 41, .int a0, .int a1] [.int 0] _ _
            refine pm_R_br pm_M200 (pc' := 18) (st' := []) rfl rfl ?_
            refine pm_R_op pm_M200 (pc' := 19) (st' := [.int 0]) rfl rfl rfl ?_
            refine pm_R_ret pm_M200 (r := some (.int 0)) rfl rfl ?_
            show pm_R _ 223 21 [.ref 41, .int a0, .int a1, .int a2] [.int 0] _ _
            refine pm_R_br pm_M223 (pc' := 24) (st' := []) rfl rfl ?_
            refine pm_R_ldc2 pm_M223 (pc' := 27) rfl rfl rfl ?_
            exact pm_R_ret pm_M223 (r := some (.long (-1))) rfl rfl (K (-1) m4 w h1 T2 F6 W9)
          · have B39 : sf_B 0 2147483647 a1 := sf_leR (Int32.not_lt.mp c37) sf_k0 (sf_any a1)
            refine pm_R_lo pm_M174 (pc' := 6) rfl rfl rfl ?_
            refine pm_R_lo pm_M174 (pc' := 7) rfl rfl rfl ?_
            refine pm_R_icmp pm_M174 (t := 14) (pc' := 10) rfl rfl rfl (fun c40 => ?_) (fun c40 => ?_)
            · skip
              refine pm_R_op pm_M174 (pc' := 15) (st' := [.int 0]) rfl rfl rfl ?_
              refine pm_R_ret pm_M174 (r := some (.int 0)) rfl rfl ?_
              show pm_R _ 177 13 [.ref 41, .int 1, .int a1] [.int 0] _ _
              refine pm_R_ret pm_M177 (r := some (.int 0)) rfl rfl ?_
              show pm_R _ 200 15 [.ref 41, .int a0, .int a1] [.int 0] _ _
              refine pm_R_br pm_M200 (pc' := 18) (st' := []) rfl rfl ?_
              refine pm_R_op pm_M200 (pc' := 19) (st' := [.int 0]) rfl rfl rfl ?_
              refine pm_R_ret pm_M200 (r := some (.int 0)) rfl rfl ?_
              show pm_R _ 223 21 [.ref 41, .int a0, .int a1, .int a2] [.int 0] _ _
              refine pm_R_br pm_M223 (pc' := 24) (st' := []) rfl rfl ?_
              refine pm_R_ldc2 pm_M223 (pc' := 27) rfl rfl rfl ?_
              exact pm_R_ret pm_M223 (r := some (.long (-1))) rfl rfl (K (-1) m4 w h1 T2 F6 W9)
            · have V41 := rf_V.mk e17 ez32 e35 (Int32.not_lt.mp c40) B39 (by decide)
              have V41 := V41.back F6 (by decide)
              have B42 : sf_B 0 2 a1 := sf_leL (Int32.not_lt.mp c40) B39 B36
              have B43 : sf_B 0 2 z34 := sf_leR (Int32.not_lt.mp c40) B39 B36
              refine pm_R_op pm_M174 (pc' := 11) (st' := [.int 1]) rfl rfl rfl ?_
              refine pm_R_br pm_M174 (pc' := 15) rfl rfl ?_
              refine pm_R_ret pm_M174 (r := some (.int 1)) rfl rfl ?_
              show pm_R _ 177 13 [.ref 41, .int 1, .int a1] [.int 1] _ _
              refine pm_R_ret pm_M177 (r := some (.int 1)) rfl rfl ?_
              show pm_R _ 200 15 [.ref 41, .int a0, .int a1] [.int 1] _ _
              refine pm_R_br pm_M200 (pc' := 20) (st' := []) rfl rfl ?_
              refine pm_R_lo pm_M200 (pc' := 21) rfl rfl rfl ?_
              refine pm_R_lo pm_M200 (pc' := 22) rfl rfl rfl ?_
              refine pm_R_lo pm_M200 (pc' := 23) rfl rfl rfl ?_
              refine pm_R_cv pm_M200 (pc' := 26) (a := 41) (ra := [.int a1, .int a0]) (rest := []) (ls' := [.ref 41, .int a0, .int a1, pm_no]) rfl rfl (Or.inl rfl) pm_M201 T2.2.1 rfl (by decide) (Nat.lt_of_lt_of_le (by decide) T2.1) rfl rfl (Nat.le_of_ble_eq_true rfl) rfl rfl ?_
              refine rf_c201 (d := d + 2) T2 B29 B42 (V41.F F6 (by decide)) (fun m46 w47 h48 T49 F50 W51 B52 => ?_)
              have F53 := F6.trans F50 (by decide)
              have W54 : rf_W [0, 23, 24, 26] m m46 := W9.trans W51 (by decide)
              show pm_R _ 200 26 [.ref 41, .int a0, .int a1] [] _ _
              refine pm_R_op pm_M200 (pc' := 27) (st' := [.int 1]) rfl rfl rfl ?_
              refine pm_R_ret pm_M200 (r := some (.int 1)) rfl rfl ?_
              show pm_R _ 223 21 [.ref 41, .int a0, .int a1, .int a2] [.int 1] _ _
              refine pm_R_br pm_M223 (pc' := 28) (st' := []) rfl rfl ?_
              refine pm_R_lo pm_M223 (pc' := 29) rfl rfl rfl ?_
              refine pm_R_cv pm_M223 (pc' := 32) (a := 41) (ra := []) (rest := []) (ls' := [.ref 41, pm_no, pm_no, pm_no, pm_no]) rfl rfl (Or.inl rfl) pm_M224 T49.2.1 rfl (by decide) (Nat.lt_of_lt_of_le (by decide) T49.1) rfl rfl (Nat.le_of_ble_eq_true rfl) rfl rfl ?_
              refine rf_c224 (d := d + 0) T49  (fun m57 w58 h59 T60 F61 W62 => ?_)
              have F63 := F53.trans F61 (by decide)
              have B64 : sf_B 1 12 (m57 24) := by rw [W62 24 (by decide)]; exact B52
              have W65 : rf_W [0, 23, 24, 26] m m57 := W54.trans W62 (by decide)
              show pm_R _ 223 32 [.ref 41, .int a0, .int a1, .int a2] [] _ _
              refine pm_R_lo pm_M223 (pc' := 33) rfl rfl rfl ?_
              refine rf_R_get pm_M223 T60 (pc' := 36) (v := .ref 56) rfl rfl rfl rfl ?_
              refine pm_R_op pm_M223 (pc' := 37) (st' := [.int 0, .ref 56]) rfl rfl rfl ?_
              refine pm_R_op pm_M223 (pc' := 38) (st' := [.int 0, .int 0, .ref 56]) rfl rfl rfl ?_
              refine pm_R_lo pm_M223 (pc' := 39) rfl rfl rfl ?_
              refine rf_R_get pm_M223 T60 (pc' := 42) (v := .int (m57 24)) rfl rfl rfl rfl ?_
              refine pm_R_op pm_M223 (pc' := 43) (st' := [.int 1, .int (m57 24), .int 0, .int 0, .ref 56]) rfl rfl rfl ?_
              refine sf_R_isub pm_M223 (pc' := 44) rfl rfl B64 sf_k1 (by decide) (by decide) (fun z66 e67 B68 => ?_)
              refine pm_R_lo pm_M223 (pc' := 45) rfl rfl rfl ?_
              refine pm_R_cs pm_M223 (pc' := 48) (ra := [.int a2, .int z66, .int 0, .int 0]) (rest := [.ref 56]) (ls' := [.int 0, .int 0, .int z66, .int a2]) rfl rfl (Or.inl rfl) pm_M225 rfl rfl (Nat.le_of_ble_eq_true rfl) rfl rfl ?_
              refine pm_R_op pm_M225 (pc' := 2) (st' := [.int 50]) rfl rfl rfl ?_
              refine pm_R_lo pm_M225 (pc' := 3) rfl rfl rfl ?_
              refine pm_R_lo pm_M225 (pc' := 4) rfl rfl rfl ?_
              refine pm_R_lo pm_M225 (pc' := 5) rfl rfl rfl ?_
              refine pm_R_cs pm_M225 (pc' := 8) (ra := [.int z66, .int 0, .int 0]) (rest := [.int 50]) (ls' := [.int 0, .int 0, .int z66]) rfl rfl (Or.inl rfl) pm_M207 rfl rfl (Nat.le_of_ble_eq_true rfl) rfl rfl ?_
              refine pm_R_op pm_M207 (pc' := 3) (st' := [.int 144]) rfl rfl rfl ?_
              refine pm_R_lo pm_M207 (pc' := 4) rfl rfl rfl ?_
              refine pm_R_op pm_M207 (pc' := 5) (st' := [.int 0]) rfl rfl rfl ?_
              refine pm_R_op pm_M207 (pc' := 7) (st' := [.int 12, .int 0]) rfl rfl rfl ?_
              refine pm_R_lo pm_M207 (pc' := 8) rfl rfl rfl ?_
              refine pm_R_op pm_M207 (pc' := 9) (st' := [.int 0, .int 0]) rfl rfl rfl ?_
              refine pm_R_op pm_M207 (pc' := 10) (st' := [.int 0]) rfl rfl rfl ?_
              refine pm_R_lo pm_M207 (pc' := 11) rfl rfl rfl ?_
              refine sf_R_iadd pm_M207 (pc' := 12) rfl rfl sf_k0 B68 (by decide) (by decide) (fun z69 e70 B71 => ?_)
              refine pm_R_ret pm_M207 (r := some (.int z69)) rfl (pm_ret_i _) ?_
              show pm_R _ 225 8 [.int 0, .int 0, .int z66, .int a2] [.int z69, .int 50] _ _
              refine sf_R_imul pm_M225 (pc' := 9) rfl rfl sf_k50 B71 (by decide) (by decide) (by decide) (fun z72 e73 B74 => ?_)
              refine pm_R_lo pm_M225 (pc' := 10) rfl rfl rfl ?_
              refine sf_R_iadd pm_M225 (pc' := 11) rfl rfl B74 B15 (by decide) (by decide) (fun z75 e76 B77 => ?_)
              refine pm_R_ret pm_M225 (r := some (.int z75)) rfl (pm_ret_i _) ?_
              show pm_R _ 223 48 [.ref 41, .int a0, .int a1, .int a2] [.int z75, .ref 56] _ _
              obtain ⟨f78, e79⟩ := T60.2.2.2.1 56 (by decide) (by decide)
              refine rf_R_lld pm_M223 T60 (pc' := 49) rfl e79 (by decide) (by decide) (sf_in B77 (by decide) (by decide)) rfl (fun z81 ez82 => ?_)
              exact pm_R_ret pm_M223 (r := some (.long z81)) rfl rfl (K z81 m57 w58 h59 T60 F63 W65)

set_option maxRecDepth 100000 in
set_option maxHeartbeats 4000000 in
/-- SilentTableModel.could -/
theorem rf_c233 {d : Nat} {m : Nat → Int32} {w : Int64} {h : pm_H} {Q : Option Value → pm_H → Prop} {a0 : Int32} {a1 : Int32} {a2 : Int32} {a3 : Int32} (T : rf_T m w h)  (K : ∀ (r : Int32) (m' : Nat → Int32) (w' : Int64) (h' : pm_H), rf_T m' w' h' → rf_G [41, 53, 54] h h' → rf_W [0, 23, 24, 26] m m' → sf_B (-2) 50 r → Q (some (.int r)) h') : pm_R (d + 7) 233 0 [.ref 41, .int a0, .int a1, .int a2, .int a3] [] h Q := by
  refine pm_R_lo pm_M233 (pc' := 1) rfl rfl rfl ?_
  refine pm_R_op pm_M233 (pc' := 2) (st' := [.int 0, .ref 41]) rfl rfl rfl ?_
  refine rf_R_put pm_M233 T (pc' := 5) rfl rfl rfl (by decide) rfl rfl sf_k0 rfl rfl (fun h1 m4 em5 T2 F3 => ?_)
  have F6 := (rf_G.refl [41, 53, 54] h).trans F3 (by decide)
  have B7 : sf_B 0 0 (m4 0) := by rw [em5]; exact sf_k0
  have W9 : rf_W [0, 23, 24, 26] m m4 := by rw [em5]; exact (rf_W.refl [0, 23, 24, 26] m).put (by decide)
  refine pm_R_lo pm_M233 (pc' := 6) rfl rfl rfl ?_
  refine pm_R_op pm_M233 (pc' := 7) (st' := [.int 0, .int a2]) rfl rfl rfl ?_
  refine pm_R_op pm_M233 (pc' := 9) (st' := [.int 9, .int 0, .int a2]) rfl rfl rfl ?_
  refine pm_R_cs pm_M233 (pc' := 12) (ra := [.int 9, .int 0, .int a2]) (rest := []) (ls' := [.int a2, .int 0, .int 9]) rfl rfl (Or.inl rfl) pm_M174 rfl rfl (Nat.le_of_ble_eq_true rfl) rfl rfl ?_
  refine pm_R_lo pm_M174 (pc' := 1) rfl rfl rfl ?_
  refine pm_R_lo pm_M174 (pc' := 2) rfl rfl rfl ?_
  refine pm_R_icmp pm_M174 (t := 14) (pc' := 5) rfl rfl rfl (fun c10 => ?_) (fun c10 => ?_)
  · have B11 : sf_B (-2147483648) (-1) a2 := sf_ltL c10 (sf_any a2) sf_k0
    refine pm_R_op pm_M174 (pc' := 15) (st' := [.int 0]) rfl rfl rfl ?_
    refine pm_R_ret pm_M174 (r := some (.int 0)) rfl rfl ?_
    show pm_R _ 233 12 [.ref 41, .int a0, .int a1, .int a2, .int a3] [.int 0] _ _
    refine pm_R_br pm_M233 (pc' := 37) (st' := []) rfl rfl ?_
    refine pm_R_op pm_M233 (pc' := 39) (st' := [.int (-2)]) rfl rfl rfl ?_
    exact pm_R_ret pm_M233 (r := some (.int (-2))) rfl rfl (K (-2) m4 w h1 T2 F6 W9 (sf_weak sf_kn2 (by decide) (by decide)))
  · have B12 : sf_B 0 2147483647 a2 := sf_leR (Int32.not_lt.mp c10) sf_k0 (sf_any a2)
    refine pm_R_lo pm_M174 (pc' := 6) rfl rfl rfl ?_
    refine pm_R_lo pm_M174 (pc' := 7) rfl rfl rfl ?_
    refine pm_R_icmp pm_M174 (t := 14) (pc' := 10) rfl rfl rfl (fun c13 => ?_) (fun c13 => ?_)
    · have B14 : sf_B 10 2147483647 a2 := sf_ltR c13 sf_k9 B12
      refine pm_R_op pm_M174 (pc' := 15) (st' := [.int 0]) rfl rfl rfl ?_
      refine pm_R_ret pm_M174 (r := some (.int 0)) rfl rfl ?_
      show pm_R _ 233 12 [.ref 41, .int a0, .int a1, .int a2, .int a3] [.int 0] _ _
      refine pm_R_br pm_M233 (pc' := 37) (st' := []) rfl rfl ?_
      refine pm_R_op pm_M233 (pc' := 39) (st' := [.int (-2)]) rfl rfl rfl ?_
      exact pm_R_ret pm_M233 (r := some (.int (-2))) rfl rfl (K (-2) m4 w h1 T2 F6 W9 (sf_weak sf_kn2 (by decide) (by decide)))
    · have B15 : sf_B 0 9 a2 := sf_leL (Int32.not_lt.mp c13) B12 sf_k9
      refine pm_R_op pm_M174 (pc' := 11) (st' := [.int 1]) rfl rfl rfl ?_
      refine pm_R_br pm_M174 (pc' := 15) rfl rfl ?_
      refine pm_R_ret pm_M174 (r := some (.int 1)) rfl rfl ?_
      show pm_R _ 233 12 [.ref 41, .int a0, .int a1, .int a2, .int a3] [.int 1] _ _
      refine pm_R_br pm_M233 (pc' := 15) (st' := []) rfl rfl ?_
      refine pm_R_lo pm_M233 (pc' := 16) rfl rfl rfl ?_
      refine pm_R_lo pm_M233 (pc' := 17) rfl rfl rfl ?_
      refine pm_R_lo pm_M233 (pc' := 18) rfl rfl rfl ?_
      refine pm_R_cv pm_M233 (pc' := 21) (a := 41) (ra := [.int a1, .int a0]) (rest := []) (ls' := [.ref 41, .int a0, .int a1]) rfl rfl (Or.inl rfl) pm_M200 T2.2.1 rfl (by decide) (Nat.lt_of_lt_of_le (by decide) T2.1) rfl rfl (Nat.le_of_ble_eq_true rfl) rfl rfl ?_
      refine pm_R_lo pm_M200 (pc' := 1) rfl rfl rfl ?_
      refine pm_R_op pm_M200 (pc' := 2) (st' := [.int 0, .ref 41]) rfl rfl rfl ?_
      refine pm_R_lo pm_M200 (pc' := 3) rfl rfl rfl ?_
      refine pm_R_cv pm_M200 (pc' := 6) (a := 41) (ra := [.int a0, .int 0]) (rest := []) (ls' := [.ref 41, .int 0, .int a0]) rfl rfl (Or.inl rfl) pm_M177 T2.2.1 rfl (by decide) (Nat.lt_of_lt_of_le (by decide) T2.1) rfl rfl (Nat.le_of_ble_eq_true rfl) rfl rfl ?_
      refine pm_R_lo pm_M177 (pc' := 1) rfl rfl rfl ?_
      refine pm_R_op pm_M177 (pc' := 2) (st' := [.int 0, .int a0]) rfl rfl rfl ?_
      refine pm_R_lo pm_M177 (pc' := 3) rfl rfl rfl ?_
      refine rf_R_get pm_M177 T2 (pc' := 6) (v := .ref 46) rfl rfl rfl rfl ?_
      refine pm_R_lo pm_M177 (pc' := 7) rfl rfl rfl ?_
      obtain ⟨f16, e17, b18⟩ := T2.2.2.2.1 46 (by decide) (by decide)
      refine rf_R_ild pm_M177 T2 (pc' := 8) rfl e17 (by decide) rfl rfl (fun z19 ez20 => ?_)
      have B21 : sf_B 0 2 z19 := ez20 ▸ (b18 0)
      refine pm_R_op pm_M177 (pc' := 9) (st' := [.int 1, .int z19, .int 0, .int a0]) rfl rfl rfl ?_
      refine sf_R_isub pm_M177 (pc' := 10) rfl rfl B21 sf_k1 (by decide) (by decide) (fun z22 e23 B24 => ?_)
      refine pm_R_cs pm_M177 (pc' := 13) (ra := [.int z22, .int 0, .int a0]) (rest := []) (ls' := [.int a0, .int 0, .int z22]) rfl rfl (Or.inl rfl) pm_M174 rfl rfl (Nat.le_of_ble_eq_true rfl) rfl rfl ?_
      refine pm_R_lo pm_M174 (pc' := 1) rfl rfl rfl ?_
      refine pm_R_lo pm_M174 (pc' := 2) rfl rfl rfl ?_
      refine pm_R_icmp pm_M174 (t := 14) (pc' := 5) rfl rfl rfl (fun c25 => ?_) (fun c25 => ?_)
      · have B26 : sf_B (-2147483648) (-1) a0 := sf_ltL c25 (sf_any a0) sf_k0
        refine pm_R_op pm_M174 (pc' := 15) (st' := [.int 0]) rfl rfl rfl ?_
        refine pm_R_ret pm_M174 (r := some (.int 0)) rfl rfl ?_
        show pm_R _ 177 13 [.ref 41, .int 0, .int a0] [.int 0] _ _
        refine pm_R_ret pm_M177 (r := some (.int 0)) rfl rfl ?_
        show pm_R _ 200 6 [.ref 41, .int a0, .int a1] [.int 0] _ _
        refine pm_R_br pm_M200 (pc' := 18) (st' := []) rfl rfl ?_
        refine pm_R_op pm_M200 (pc' := 19) (st' := [.int 0]) rfl rfl rfl ?_
        refine pm_R_ret pm_M200 (r := some (.int 0)) rfl rfl ?_
        show pm_R _ 233 21 [.ref 41, .int a0, .int a1, .int a2, .int a3] [.int 0] _ _
        refine pm_R_br pm_M233 (pc' := 37) (st' := []) rfl rfl ?_
        refine pm_R_op pm_M233 (pc' := 39) (st' := [.int (-2)]) rfl rfl rfl ?_
        exact pm_R_ret pm_M233 (r := some (.int (-2))) rfl rfl (K (-2) m4 w h1 T2 F6 W9 (sf_weak sf_kn2 (by decide) (by decide)))
      · have B27 : sf_B 0 2147483647 a0 := sf_leR (Int32.not_lt.mp c25) sf_k0 (sf_any a0)
        refine pm_R_lo pm_M174 (pc' := 6) rfl rfl rfl ?_
        refine pm_R_lo pm_M174 (pc' := 7) rfl rfl rfl ?_
        refine pm_R_icmp pm_M174 (t := 14) (pc' := 10) rfl rfl rfl (fun c28 => ?_) (fun c28 => ?_)
        · skip
          refine pm_R_op pm_M174 (pc' := 15) (st' := [.int 0]) rfl rfl rfl ?_
          refine pm_R_ret pm_M174 (r := some (.int 0)) rfl rfl ?_
          show pm_R _ 177 13 [.ref 41, .int 0, .int a0] [.int 0] _ _
          refine pm_R_ret pm_M177 (r := some (.int 0)) rfl rfl ?_
          show pm_R _ 200 6 [.ref 41, .int a0, .int a1] [.int 0] _ _
          refine pm_R_br pm_M200 (pc' := 18) (st' := []) rfl rfl ?_
          refine pm_R_op pm_M200 (pc' := 19) (st' := [.int 0]) rfl rfl rfl ?_
          refine pm_R_ret pm_M200 (r := some (.int 0)) rfl rfl ?_
          show pm_R _ 233 21 [.ref 41, .int a0, .int a1, .int a2, .int a3] [.int 0] _ _
          refine pm_R_br pm_M233 (pc' := 37) (st' := []) rfl rfl ?_
          refine pm_R_op pm_M233 (pc' := 39) (st' := [.int (-2)]) rfl rfl rfl ?_
          exact pm_R_ret pm_M233 (r := some (.int (-2))) rfl rfl (K (-2) m4 w h1 T2 F6 W9 (sf_weak sf_kn2 (by decide) (by decide)))
        · have B29 : sf_B 0 1 a0 := sf_leL (Int32.not_lt.mp c28) B27 B24
          have B30 : sf_B 0 1 z22 := sf_leR (Int32.not_lt.mp c28) B27 B24
          refine pm_R_op pm_M174 (pc' := 11) (st' := [.int 1]) rfl rfl rfl ?_
          refine pm_R_br pm_M174 (pc' := 15) rfl rfl ?_
          refine pm_R_ret pm_M174 (r := some (.int 1)) rfl rfl ?_
          show pm_R _ 177 13 [.ref 41, .int 0, .int a0] [.int 1] _ _
          refine pm_R_ret pm_M177 (r := some (.int 1)) rfl rfl ?_
          show pm_R _ 200 6 [.ref 41, .int a0, .int a1] [.int 1] _ _
          refine pm_R_br pm_M200 (pc' := 9) (st' := []) rfl rfl ?_
          refine pm_R_lo pm_M200 (pc' := 10) rfl rfl rfl ?_
          refine pm_R_op pm_M200 (pc' := 11) (st' := [.int 1, .ref 41]) rfl rfl rfl ?_
          refine pm_R_lo pm_M200 (pc' := 12) rfl rfl rfl ?_
          refine pm_R_cv pm_M200 (pc' := 15) (a := 41) (ra := [.int a1, .int 1]) (rest := []) (ls' := [.ref 41, .int 1, .int a1]) rfl rfl (Or.inl rfl) pm_M177 T2.2.1 rfl (by decide) (Nat.lt_of_lt_of_le (by decide) T2.1) rfl rfl (Nat.le_of_ble_eq_true rfl) rfl rfl ?_
          refine pm_R_lo pm_M177 (pc' := 1) rfl rfl rfl ?_
          refine pm_R_op pm_M177 (pc' := 2) (st' := [.int 0, .int a1]) rfl rfl rfl ?_
          refine pm_R_lo pm_M177 (pc' := 3) rfl rfl rfl ?_
          refine rf_R_get pm_M177 T2 (pc' := 6) (v := .ref 46) rfl rfl rfl rfl ?_
          refine pm_R_lo pm_M177 (pc' := 7) rfl rfl rfl ?_
          refine rf_R_ild pm_M177 T2 (pc' := 8) rfl e17 (by decide) rfl rfl (fun z31 ez32 => ?_)
          have B33 : sf_B 0 3 z31 := ez32 ▸ (b18 1)
          refine pm_R_op pm_M177 (pc' := 9) (st' := [.int 1, .int z31, .int 0, .int a1]) rfl rfl rfl ?_
          refine sf_R_isub pm_M177 (pc' := 10) rfl rfl B33 sf_k1 (by decide) (by decide) (fun z34 e35 B36 => ?_)
          refine pm_R_cs pm_M177 (pc' := 13) (ra := [.int z34, .int 0, .int a1]) (rest := []) (ls' := [.int a1, .int 0, .int z34]) rfl rfl (Or.inl rfl) pm_M174 rfl rfl (Nat.le_of_ble_eq_true rfl) rfl rfl ?_
          refine pm_R_lo pm_M174 (pc' := 1) rfl rfl rfl ?_
          refine pm_R_lo pm_M174 (pc' := 2) rfl rfl rfl ?_
          refine pm_R_icmp pm_M174 (t := 14) (pc' := 5) rfl rfl rfl (fun c37 => ?_) (fun c37 => ?_)
          · have B38 : sf_B (-2147483648) (-1) a1 := sf_ltL c37 (sf_any a1) sf_k0
            refine pm_R_op pm_M174 (pc' := 15) (st' := [.int 0]) rfl rfl rfl ?_
            refine pm_R_ret pm_M174 (r := some (.int 0)) rfl rfl ?_
            show pm_R _ 177 13 [.ref 41, .int 1, .int a1] [.int 0] _ _
            refine pm_R_ret pm_M177 (r := some (.int 0)) rfl rfl ?_
            show pm_R _ 200 15 [.ref 41, .int a0, .int a1] [.int 0] _ _
            refine pm_R_br pm_M200 (pc' := 18) (st' := []) rfl rfl ?_
            refine pm_R_op pm_M200 (pc' := 19) (st' := [.int 0]) rfl rfl rfl ?_
            refine pm_R_ret pm_M200 (r := some (.int 0)) rfl rfl ?_
            show pm_R _ 233 21 [.ref 41, .int a0, .int a1, .int a2, .int a3] [.int 0] _ _
            refine pm_R_br pm_M233 (pc' := 37) (st' := []) rfl rfl ?_
            refine pm_R_op pm_M233 (pc' := 39) (st' := [.int (-2)]) rfl rfl rfl ?_
            exact pm_R_ret pm_M233 (r := some (.int (-2))) rfl rfl (K (-2) m4 w h1 T2 F6 W9 (sf_weak sf_kn2 (by decide) (by decide)))
          · have B39 : sf_B 0 2147483647 a1 := sf_leR (Int32.not_lt.mp c37) sf_k0 (sf_any a1)
            refine pm_R_lo pm_M174 (pc' := 6) rfl rfl rfl ?_
            refine pm_R_lo pm_M174 (pc' := 7) rfl rfl rfl ?_
            refine pm_R_icmp pm_M174 (t := 14) (pc' := 10) rfl rfl rfl (fun c40 => ?_) (fun c40 => ?_)
            · skip
              refine pm_R_op pm_M174 (pc' := 15) (st' := [.int 0]) rfl rfl rfl ?_
              refine pm_R_ret pm_M174 (r := some (.int 0)) rfl rfl ?_
              show pm_R _ 177 13 [.ref 41, .int 1, .int a1] [.int 0] _ _
              refine pm_R_ret pm_M177 (r := some (.int 0)) rfl rfl ?_
              show pm_R _ 200 15 [.ref 41, .int a0, .int a1] [.int 0] _ _
              refine pm_R_br pm_M200 (pc' := 18) (st' := []) rfl rfl ?_
              refine pm_R_op pm_M200 (pc' := 19) (st' := [.int 0]) rfl rfl rfl ?_
              refine pm_R_ret pm_M200 (r := some (.int 0)) rfl rfl ?_
              show pm_R _ 233 21 [.ref 41, .int a0, .int a1, .int a2, .int a3] [.int 0] _ _
              refine pm_R_br pm_M233 (pc' := 37) (st' := []) rfl rfl ?_
              refine pm_R_op pm_M233 (pc' := 39) (st' := [.int (-2)]) rfl rfl rfl ?_
              exact pm_R_ret pm_M233 (r := some (.int (-2))) rfl rfl (K (-2) m4 w h1 T2 F6 W9 (sf_weak sf_kn2 (by decide) (by decide)))
            · have V41 := rf_V.mk e17 ez32 e35 (Int32.not_lt.mp c40) B39 (by decide)
              have V41 := V41.back F6 (by decide)
              have B42 : sf_B 0 2 a1 := sf_leL (Int32.not_lt.mp c40) B39 B36
              have B43 : sf_B 0 2 z34 := sf_leR (Int32.not_lt.mp c40) B39 B36
              refine pm_R_op pm_M174 (pc' := 11) (st' := [.int 1]) rfl rfl rfl ?_
              refine pm_R_br pm_M174 (pc' := 15) rfl rfl ?_
              refine pm_R_ret pm_M174 (r := some (.int 1)) rfl rfl ?_
              show pm_R _ 177 13 [.ref 41, .int 1, .int a1] [.int 1] _ _
              refine pm_R_ret pm_M177 (r := some (.int 1)) rfl rfl ?_
              show pm_R _ 200 15 [.ref 41, .int a0, .int a1] [.int 1] _ _
              refine pm_R_br pm_M200 (pc' := 20) (st' := []) rfl rfl ?_
              refine pm_R_lo pm_M200 (pc' := 21) rfl rfl rfl ?_
              refine pm_R_lo pm_M200 (pc' := 22) rfl rfl rfl ?_
              refine pm_R_lo pm_M200 (pc' := 23) rfl rfl rfl ?_
              refine pm_R_cv pm_M200 (pc' := 26) (a := 41) (ra := [.int a1, .int a0]) (rest := []) (ls' := [.ref 41, .int a0, .int a1, pm_no]) rfl rfl (Or.inl rfl) pm_M201 T2.2.1 rfl (by decide) (Nat.lt_of_lt_of_le (by decide) T2.1) rfl rfl (Nat.le_of_ble_eq_true rfl) rfl rfl ?_
              refine rf_c201 (d := d + 5) T2 B29 B42 (V41.F F6 (by decide)) (fun m46 w47 h48 T49 F50 W51 B52 => ?_)
              have F53 := F6.trans F50 (by decide)
              have W54 : rf_W [0, 23, 24, 26] m m46 := W9.trans W51 (by decide)
              show pm_R _ 200 26 [.ref 41, .int a0, .int a1] [] _ _
              refine pm_R_op pm_M200 (pc' := 27) (st' := [.int 1]) rfl rfl rfl ?_
              refine pm_R_ret pm_M200 (r := some (.int 1)) rfl rfl ?_
              show pm_R _ 233 21 [.ref 41, .int a0, .int a1, .int a2, .int a3] [.int 1] _ _
              refine pm_R_br pm_M233 (pc' := 24) (st' := []) rfl rfl ?_
              refine pm_R_lo pm_M233 (pc' := 25) rfl rfl rfl ?_
              refine pm_R_lo pm_M233 (pc' := 26) rfl rfl rfl ?_
              refine pm_R_cv pm_M233 (pc' := 29) (a := 41) (ra := [.int a2]) (rest := []) (ls' := [.ref 41, .int a2]) rfl rfl (Or.inl rfl) pm_M234 T49.2.1 rfl (by decide) (Nat.lt_of_lt_of_le (by decide) T49.1) rfl rfl (Nat.le_of_ble_eq_true rfl) rfl rfl ?_
              refine pm_R_lo pm_M234 (pc' := 1) rfl rfl rfl ?_
              refine pm_R_lo pm_M234 (pc' := 2) rfl rfl rfl ?_
              refine pm_R_cv pm_M234 (pc' := 5) (a := 41) (ra := [.int a2]) (rest := []) (ls' := [.ref 41, .int a2, pm_no, pm_no, pm_no, pm_no]) rfl rfl (Or.inl rfl) pm_M235 T49.2.1 rfl (by decide) (Nat.lt_of_lt_of_le (by decide) T49.1) rfl rfl (Nat.le_of_ble_eq_true rfl) rfl rfl ?_
              refine rf_c235 (d := d + 4) T49 (sf_weak B15 (by decide) (by decide)) (fun m57 w58 h59 T60 F61 W62 => ?_)
              have F63 := F53.trans F61 (by decide)
              have B64 : sf_B 1 12 (m57 24) := by rw [W62 24 (by decide)]; exact B52
              have W65 : rf_W [0, 23, 24, 26] m m57 := W54.trans W62 (by decide)
              show pm_R _ 234 5 [.ref 41, .int a2] [] _ _
              refine pm_R_lo pm_M234 (pc' := 6) rfl rfl rfl ?_
              refine pm_R_cv pm_M234 (pc' := 9) (a := 41) (ra := []) (rest := []) (ls' := [.ref 41]) rfl rfl (Or.inl rfl) pm_M215 T60.2.1 rfl (by decide) (Nat.lt_of_lt_of_le (by decide) T60.1) rfl rfl (Nat.le_of_ble_eq_true rfl) rfl rfl ?_
              refine rf_c215 (d := d + 0) T60 B64 (fun r66 m68 w69 h70 T71 F72 W73 => ?_)
              have F74 := F63.trans F72 (by decide)
              have B75 : sf_B 1 12 (m68 24) := by rw [W73 24 (by decide)]; exact B64
              have W76 : rf_W [0, 23, 24, 26] m m68 := W65.trans W73 (by decide)
              show pm_R _ 234 9 [.ref 41, .int a2] [.long r66] _ _
              refine pm_R_ret pm_M234 (r := some (.long r66)) rfl rfl ?_
              show pm_R _ 233 29 [.ref 41, .int a0, .int a1, .int a2, .int a3] [.long r66] _ _
              refine pm_R_lo pm_M233 (pc' := 31) rfl rfl rfl ?_
              refine pm_R_cs pm_M233 (pc' := 34) (ra := [.int a3, .long r66]) (rest := []) (ls' := [.long r66, pm_no, .int a3, pm_no, pm_no]) rfl rfl (Or.inl rfl) pm_M221 rfl rfl (Nat.le_of_ble_eq_true rfl) rfl rfl ?_
              refine rf_c221 (d := d + 4)  (fun r77 B78 => ?_)
              show pm_R _ 233 34 [.ref 41, .int a0, .int a1, .int a2, .int a3] [.int r77] _ _
              refine pm_R_br pm_M233 (pc' := 39) rfl rfl ?_
              exact pm_R_ret pm_M233 (r := some (.int r77)) rfl (pm_ret_i _) (K r77 m68 w69 h70 T71 F74 W76 B78)

set_option maxRecDepth 100000 in
set_option maxHeartbeats 4000000 in
/-- SilentTableModel.worn -/
theorem rf_c237 {d : Nat} {m : Nat → Int32} {w : Int64} {h : pm_H} {Q : Option Value → pm_H → Prop} {a0 : Int32} {a1 : Int32} {a2 : Int32} (T : rf_T m w h)  (K : ∀ (r : Int64) (m' : Nat → Int32) (w' : Int64) (h' : pm_H), rf_T m' w' h' → rf_G [41, 53] h h' → rf_W [0, 23, 24, 26] m m' → Q (some (.long r)) h') : pm_R (d + 3) 237 0 [.ref 41, .int a0, .int a1, .int a2, pm_no, pm_no, pm_no] [] h Q := by
  refine pm_R_lo pm_M237 (pc' := 1) rfl rfl rfl ?_
  refine pm_R_op pm_M237 (pc' := 2) (st' := [.int 0, .ref 41]) rfl rfl rfl ?_
  refine rf_R_put pm_M237 T (pc' := 5) rfl rfl rfl (by decide) rfl rfl sf_k0 rfl rfl (fun h1 m4 em5 T2 F3 => ?_)
  have F6 := (rf_G.refl [41, 53] h).trans F3 (by decide)
  have B7 : sf_B 0 0 (m4 0) := by rw [em5]; exact sf_k0
  have W9 : rf_W [0, 23, 24, 26] m m4 := by rw [em5]; exact (rf_W.refl [0, 23, 24, 26] m).put (by decide)
  refine pm_R_lo pm_M237 (pc' := 6) rfl rfl rfl ?_
  refine pm_R_op pm_M237 (pc' := 7) (st' := [.int 0, .int a2]) rfl rfl rfl ?_
  refine pm_R_op pm_M237 (pc' := 9) (st' := [.int 9, .int 0, .int a2]) rfl rfl rfl ?_
  refine pm_R_cs pm_M237 (pc' := 12) (ra := [.int 9, .int 0, .int a2]) (rest := []) (ls' := [.int a2, .int 0, .int 9]) rfl rfl (Or.inl rfl) pm_M174 rfl rfl (Nat.le_of_ble_eq_true rfl) rfl rfl ?_
  refine pm_R_lo pm_M174 (pc' := 1) rfl rfl rfl ?_
  refine pm_R_lo pm_M174 (pc' := 2) rfl rfl rfl ?_
  refine pm_R_icmp pm_M174 (t := 14) (pc' := 5) rfl rfl rfl (fun c10 => ?_) (fun c10 => ?_)
  · have B11 : sf_B (-2147483648) (-1) a2 := sf_ltL c10 (sf_any a2) sf_k0
    refine pm_R_op pm_M174 (pc' := 15) (st' := [.int 0]) rfl rfl rfl ?_
    refine pm_R_ret pm_M174 (r := some (.int 0)) rfl rfl ?_
    show pm_R _ 237 12 [.ref 41, .int a0, .int a1, .int a2, pm_no, pm_no, pm_no] [.int 0] _ _
    refine pm_R_br pm_M237 (pc' := 24) (st' := []) rfl rfl ?_
    refine pm_R_ldc2 pm_M237 (pc' := 27) rfl rfl rfl ?_
    exact pm_R_ret pm_M237 (r := some (.long (-1))) rfl rfl (K (-1) m4 w h1 T2 F6 W9)
  · have B12 : sf_B 0 2147483647 a2 := sf_leR (Int32.not_lt.mp c10) sf_k0 (sf_any a2)
    refine pm_R_lo pm_M174 (pc' := 6) rfl rfl rfl ?_
    refine pm_R_lo pm_M174 (pc' := 7) rfl rfl rfl ?_
    refine pm_R_icmp pm_M174 (t := 14) (pc' := 10) rfl rfl rfl (fun c13 => ?_) (fun c13 => ?_)
    · have B14 : sf_B 10 2147483647 a2 := sf_ltR c13 sf_k9 B12
      refine pm_R_op pm_M174 (pc' := 15) (st' := [.int 0]) rfl rfl rfl ?_
      refine pm_R_ret pm_M174 (r := some (.int 0)) rfl rfl ?_
      show pm_R _ 237 12 [.ref 41, .int a0, .int a1, .int a2, pm_no, pm_no, pm_no] [.int 0] _ _
      refine pm_R_br pm_M237 (pc' := 24) (st' := []) rfl rfl ?_
      refine pm_R_ldc2 pm_M237 (pc' := 27) rfl rfl rfl ?_
      exact pm_R_ret pm_M237 (r := some (.long (-1))) rfl rfl (K (-1) m4 w h1 T2 F6 W9)
    · have B15 : sf_B 0 9 a2 := sf_leL (Int32.not_lt.mp c13) B12 sf_k9
      refine pm_R_op pm_M174 (pc' := 11) (st' := [.int 1]) rfl rfl rfl ?_
      refine pm_R_br pm_M174 (pc' := 15) rfl rfl ?_
      refine pm_R_ret pm_M174 (r := some (.int 1)) rfl rfl ?_
      show pm_R _ 237 12 [.ref 41, .int a0, .int a1, .int a2, pm_no, pm_no, pm_no] [.int 1] _ _
      refine pm_R_br pm_M237 (pc' := 15) (st' := []) rfl rfl ?_
      refine pm_R_lo pm_M237 (pc' := 16) rfl rfl rfl ?_
      refine pm_R_lo pm_M237 (pc' := 17) rfl rfl rfl ?_
      refine pm_R_lo pm_M237 (pc' := 18) rfl rfl rfl ?_
      refine pm_R_cv pm_M237 (pc' := 21) (a := 41) (ra := [.int a1, .int a0]) (rest := []) (ls' := [.ref 41, .int a0, .int a1]) rfl rfl (Or.inl rfl) pm_M200 T2.2.1 rfl (by decide) (Nat.lt_of_lt_of_le (by decide) T2.1) rfl rfl (Nat.le_of_ble_eq_true rfl) rfl rfl ?_
      refine pm_R_lo pm_M200 (pc' := 1) rfl rfl rfl ?_
      refine pm_R_op pm_M200 (pc' := 2) (st' := [.int 0, .ref 41]) rfl rfl rfl ?_
      refine pm_R_lo pm_M200 (pc' := 3) rfl rfl rfl ?_
      refine pm_R_cv pm_M200 (pc' := 6) (a := 41) (ra := [.int a0, .int 0]) (rest := []) (ls' := [.ref 41, .int 0, .int a0]) rfl rfl (Or.inl rfl) pm_M177 T2.2.1 rfl (by decide) (Nat.lt_of_lt_of_le (by decide) T2.1) rfl rfl (Nat.le_of_ble_eq_true rfl) rfl rfl ?_
      refine pm_R_lo pm_M177 (pc' := 1) rfl rfl rfl ?_
      refine pm_R_op pm_M177 (pc' := 2) (st' := [.int 0, .int a0]) rfl rfl rfl ?_
      refine pm_R_lo pm_M177 (pc' := 3) rfl rfl rfl ?_
      refine rf_R_get pm_M177 T2 (pc' := 6) (v := .ref 46) rfl rfl rfl rfl ?_
      refine pm_R_lo pm_M177 (pc' := 7) rfl rfl rfl ?_
      obtain ⟨f16, e17, b18⟩ := T2.2.2.2.1 46 (by decide) (by decide)
      refine rf_R_ild pm_M177 T2 (pc' := 8) rfl e17 (by decide) rfl rfl (fun z19 ez20 => ?_)
      have B21 : sf_B 0 2 z19 := ez20 ▸ (b18 0)
      refine pm_R_op pm_M177 (pc' := 9) (st' := [.int 1, .int z19, .int 0, .int a0]) rfl rfl rfl ?_
      refine sf_R_isub pm_M177 (pc' := 10) rfl rfl B21 sf_k1 (by decide) (by decide) (fun z22 e23 B24 => ?_)
      refine pm_R_cs pm_M177 (pc' := 13) (ra := [.int z22, .int 0, .int a0]) (rest := []) (ls' := [.int a0, .int 0, .int z22]) rfl rfl (Or.inl rfl) pm_M174 rfl rfl (Nat.le_of_ble_eq_true rfl) rfl rfl ?_
      refine pm_R_lo pm_M174 (pc' := 1) rfl rfl rfl ?_
      refine pm_R_lo pm_M174 (pc' := 2) rfl rfl rfl ?_
      refine pm_R_icmp pm_M174 (t := 14) (pc' := 5) rfl rfl rfl (fun c25 => ?_) (fun c25 => ?_)
      · have B26 : sf_B (-2147483648) (-1) a0 := sf_ltL c25 (sf_any a0) sf_k0
        refine pm_R_op pm_M174 (pc' := 15) (st' := [.int 0]) rfl rfl rfl ?_
        refine pm_R_ret pm_M174 (r := some (.int 0)) rfl rfl ?_
        show pm_R _ 177 13 [.ref 41, .int 0, .int a0] [.int 0] _ _
        refine pm_R_ret pm_M177 (r := some (.int 0)) rfl rfl ?_
        show pm_R _ 200 6 [.ref 41, .int a0, .int a1] [.int 0] _ _
        refine pm_R_br pm_M200 (pc' := 18) (st' := []) rfl rfl ?_
        refine pm_R_op pm_M200 (pc' := 19) (st' := [.int 0]) rfl rfl rfl ?_
        refine pm_R_ret pm_M200 (r := some (.int 0)) rfl rfl ?_
        show pm_R _ 237 21 [.ref 41, .int a0, .int a1, .int a2, pm_no, pm_no, pm_no] [.int 0] _ _
        refine pm_R_br pm_M237 (pc' := 24) (st' := []) rfl rfl ?_
        refine pm_R_ldc2 pm_M237 (pc' := 27) rfl rfl rfl ?_
        exact pm_R_ret pm_M237 (r := some (.long (-1))) rfl rfl (K (-1) m4 w h1 T2 F6 W9)
      · have B27 : sf_B 0 2147483647 a0 := sf_leR (Int32.not_lt.mp c25) sf_k0 (sf_any a0)
        refine pm_R_lo pm_M174 (pc' := 6) rfl rfl rfl ?_
        refine pm_R_lo pm_M174 (pc' := 7) rfl rfl rfl ?_
        refine pm_R_icmp pm_M174 (t := 14) (pc' := 10) rfl rfl rfl (fun c28 => ?_) (fun c28 => ?_)
        · skip
          refine pm_R_op pm_M174 (pc' := 15) (st' := [.int 0]) rfl rfl rfl ?_
          refine pm_R_ret pm_M174 (r := some (.int 0)) rfl rfl ?_
          show pm_R _ 177 13 [.ref 41, .int 0, .int a0] [.int 0] _ _
          refine pm_R_ret pm_M177 (r := some (.int 0)) rfl rfl ?_
          show pm_R _ 200 6 [.ref 41, .int a0, .int a1] [.int 0] _ _
          refine pm_R_br pm_M200 (pc' := 18) (st' := []) rfl rfl ?_
          refine pm_R_op pm_M200 (pc' := 19) (st' := [.int 0]) rfl rfl rfl ?_
          refine pm_R_ret pm_M200 (r := some (.int 0)) rfl rfl ?_
          show pm_R _ 237 21 [.ref 41, .int a0, .int a1, .int a2, pm_no, pm_no, pm_no] [.int 0] _ _
          refine pm_R_br pm_M237 (pc' := 24) (st' := []) rfl rfl ?_
          refine pm_R_ldc2 pm_M237 (pc' := 27) rfl rfl rfl ?_
          exact pm_R_ret pm_M237 (r := some (.long (-1))) rfl rfl (K (-1) m4 w h1 T2 F6 W9)
        · have B29 : sf_B 0 1 a0 := sf_leL (Int32.not_lt.mp c28) B27 B24
          have B30 : sf_B 0 1 z22 := sf_leR (Int32.not_lt.mp c28) B27 B24
          refine pm_R_op pm_M174 (pc' := 11) (st' := [.int 1]) rfl rfl rfl ?_
          refine pm_R_br pm_M174 (pc' := 15) rfl rfl ?_
          refine pm_R_ret pm_M174 (r := some (.int 1)) rfl rfl ?_
          show pm_R _ 177 13 [.ref 41, .int 0, .int a0] [.int 1] _ _
          refine pm_R_ret pm_M177 (r := some (.int 1)) rfl rfl ?_
          show pm_R _ 200 6 [.ref 41, .int a0, .int a1] [.int 1] _ _
          refine pm_R_br pm_M200 (pc' := 9) (st' := []) rfl rfl ?_
          refine pm_R_lo pm_M200 (pc' := 10) rfl rfl rfl ?_
          refine pm_R_op pm_M200 (pc' := 11) (st' := [.int 1, .ref 41]) rfl rfl rfl ?_
          refine pm_R_lo pm_M200 (pc' := 12) rfl rfl rfl ?_
          refine pm_R_cv pm_M200 (pc' := 15) (a := 41) (ra := [.int a1, .int 1]) (rest := []) (ls' := [.ref 41, .int 1, .int a1]) rfl rfl (Or.inl rfl) pm_M177 T2.2.1 rfl (by decide) (Nat.lt_of_lt_of_le (by decide) T2.1) rfl rfl (Nat.le_of_ble_eq_true rfl) rfl rfl ?_
          refine pm_R_lo pm_M177 (pc' := 1) rfl rfl rfl ?_
          refine pm_R_op pm_M177 (pc' := 2) (st' := [.int 0, .int a1]) rfl rfl rfl ?_
          refine pm_R_lo pm_M177 (pc' := 3) rfl rfl rfl ?_
          refine rf_R_get pm_M177 T2 (pc' := 6) (v := .ref 46) rfl rfl rfl rfl ?_
          refine pm_R_lo pm_M177 (pc' := 7) rfl rfl rfl ?_
          refine rf_R_ild pm_M177 T2 (pc' := 8) rfl e17 (by decide) rfl rfl (fun z31 ez32 => ?_)
          have B33 : sf_B 0 3 z31 := ez32 ▸ (b18 1)
          refine pm_R_op pm_M177 (pc' := 9) (st' := [.int 1, .int z31, .int 0, .int a1]) rfl rfl rfl ?_
          refine sf_R_isub pm_M177 (pc' := 10) rfl rfl B33 sf_k1 (by decide) (by decide) (fun z34 e35 B36 => ?_)
          refine pm_R_cs pm_M177 (pc' := 13) (ra := [.int z34, .int 0, .int a1]) (rest := []) (ls' := [.int a1, .int 0, .int z34]) rfl rfl (Or.inl rfl) pm_M174 rfl rfl (Nat.le_of_ble_eq_true rfl) rfl rfl ?_
          refine pm_R_lo pm_M174 (pc' := 1) rfl rfl rfl ?_
          refine pm_R_lo pm_M174 (pc' := 2) rfl rfl rfl ?_
          refine pm_R_icmp pm_M174 (t := 14) (pc' := 5) rfl rfl rfl (fun c37 => ?_) (fun c37 => ?_)
          · have B38 : sf_B (-2147483648) (-1) a1 := sf_ltL c37 (sf_any a1) sf_k0
            refine pm_R_op pm_M174 (pc' := 15) (st' := [.int 0]) rfl rfl rfl ?_
            refine pm_R_ret pm_M174 (r := some (.int 0)) rfl rfl ?_
            show pm_R _ 177 13 [.ref 41, .int 1, .int a1] [.int 0] _ _
            refine pm_R_ret pm_M177 (r := some (.int 0)) rfl rfl ?_
            show pm_R _ 200 15 [.ref 41, .int a0, .int a1] [.int 0] _ _
            refine pm_R_br pm_M200 (pc' := 18) (st' := []) rfl rfl ?_
            refine pm_R_op pm_M200 (pc' := 19) (st' := [.int 0]) rfl rfl rfl ?_
            refine pm_R_ret pm_M200 (r := some (.int 0)) rfl rfl ?_
            show pm_R _ 237 21 [.ref 41, .int a0, .int a1, .int a2, pm_no, pm_no, pm_no] [.int 0] _ _
            refine pm_R_br pm_M237 (pc' := 24) (st' := []) rfl rfl ?_
            refine pm_R_ldc2 pm_M237 (pc' := 27) rfl rfl rfl ?_
            exact pm_R_ret pm_M237 (r := some (.long (-1))) rfl rfl (K (-1) m4 w h1 T2 F6 W9)
          · have B39 : sf_B 0 2147483647 a1 := sf_leR (Int32.not_lt.mp c37) sf_k0 (sf_any a1)
            refine pm_R_lo pm_M174 (pc' := 6) rfl rfl rfl ?_
            refine pm_R_lo pm_M174 (pc' := 7) rfl rfl rfl ?_
            refine pm_R_icmp pm_M174 (t := 14) (pc' := 10) rfl rfl rfl (fun c40 => ?_) (fun c40 => ?_)
            · skip
              refine pm_R_op pm_M174 (pc' := 15) (st' := [.int 0]) rfl rfl rfl ?_
              refine pm_R_ret pm_M174 (r := some (.int 0)) rfl rfl ?_
              show pm_R _ 177 13 [.ref 41, .int 1, .int a1] [.int 0] _ _
              refine pm_R_ret pm_M177 (r := some (.int 0)) rfl rfl ?_
              show pm_R _ 200 15 [.ref 41, .int a0, .int a1] [.int 0] _ _
              refine pm_R_br pm_M200 (pc' := 18) (st' := []) rfl rfl ?_
              refine pm_R_op pm_M200 (pc' := 19) (st' := [.int 0]) rfl rfl rfl ?_
              refine pm_R_ret pm_M200 (r := some (.int 0)) rfl rfl ?_
              show pm_R _ 237 21 [.ref 41, .int a0, .int a1, .int a2, pm_no, pm_no, pm_no] [.int 0] _ _
              refine pm_R_br pm_M237 (pc' := 24) (st' := []) rfl rfl ?_
              refine pm_R_ldc2 pm_M237 (pc' := 27) rfl rfl rfl ?_
              exact pm_R_ret pm_M237 (r := some (.long (-1))) rfl rfl (K (-1) m4 w h1 T2 F6 W9)
            · have V41 := rf_V.mk e17 ez32 e35 (Int32.not_lt.mp c40) B39 (by decide)
              have V41 := V41.back F6 (by decide)
              have B42 : sf_B 0 2 a1 := sf_leL (Int32.not_lt.mp c40) B39 B36
              have B43 : sf_B 0 2 z34 := sf_leR (Int32.not_lt.mp c40) B39 B36
              refine pm_R_op pm_M174 (pc' := 11) (st' := [.int 1]) rfl rfl rfl ?_
              refine pm_R_br pm_M174 (pc' := 15) rfl rfl ?_
              refine pm_R_ret pm_M174 (r := some (.int 1)) rfl rfl ?_
              show pm_R _ 177 13 [.ref 41, .int 1, .int a1] [.int 1] _ _
              refine pm_R_ret pm_M177 (r := some (.int 1)) rfl rfl ?_
              show pm_R _ 200 15 [.ref 41, .int a0, .int a1] [.int 1] _ _
              refine pm_R_br pm_M200 (pc' := 20) (st' := []) rfl rfl ?_
              refine pm_R_lo pm_M200 (pc' := 21) rfl rfl rfl ?_
              refine pm_R_lo pm_M200 (pc' := 22) rfl rfl rfl ?_
              refine pm_R_lo pm_M200 (pc' := 23) rfl rfl rfl ?_
              refine pm_R_cv pm_M200 (pc' := 26) (a := 41) (ra := [.int a1, .int a0]) (rest := []) (ls' := [.ref 41, .int a0, .int a1, pm_no]) rfl rfl (Or.inl rfl) pm_M201 T2.2.1 rfl (by decide) (Nat.lt_of_lt_of_le (by decide) T2.1) rfl rfl (Nat.le_of_ble_eq_true rfl) rfl rfl ?_
              refine rf_c201 (d := d + 1) T2 B29 B42 (V41.F F6 (by decide)) (fun m46 w47 h48 T49 F50 W51 B52 => ?_)
              have F53 := F6.trans F50 (by decide)
              have W54 : rf_W [0, 23, 24, 26] m m46 := W9.trans W51 (by decide)
              show pm_R _ 200 26 [.ref 41, .int a0, .int a1] [] _ _
              refine pm_R_op pm_M200 (pc' := 27) (st' := [.int 1]) rfl rfl rfl ?_
              refine pm_R_ret pm_M200 (r := some (.int 1)) rfl rfl ?_
              show pm_R _ 237 21 [.ref 41, .int a0, .int a1, .int a2, pm_no, pm_no, pm_no] [.int 1] _ _
              refine pm_R_br pm_M237 (pc' := 28) (st' := []) rfl rfl ?_
              refine pm_R_lo pm_M237 (pc' := 29) rfl rfl rfl ?_
              refine pm_R_lo pm_M237 (pc' := 30) rfl rfl rfl ?_
              refine pm_R_cv pm_M237 (pc' := 33) (a := 41) (ra := [.int a2]) (rest := []) (ls' := [.ref 41, .int a2, pm_no, pm_no, pm_no, pm_no]) rfl rfl (Or.inl rfl) pm_M235 T49.2.1 rfl (by decide) (Nat.lt_of_lt_of_le (by decide) T49.1) rfl rfl (Nat.le_of_ble_eq_true rfl) rfl rfl ?_
              refine rf_c235 (d := d + 1) T49 (sf_weak B15 (by decide) (by decide)) (fun m57 w58 h59 T60 F61 W62 => ?_)
              have F63 := F53.trans F61 (by decide)
              have B64 : sf_B 1 12 (m57 24) := by rw [W62 24 (by decide)]; exact B52
              have W65 : rf_W [0, 23, 24, 26] m m57 := W54.trans W62 (by decide)
              show pm_R _ 237 33 [.ref 41, .int a0, .int a1, .int a2, pm_no, pm_no, pm_no] [] _ _
              refine pm_R_op pm_M237 (pc' := 34) (st' := [.long 1]) rfl rfl rfl ?_
              refine pm_R_lo pm_M237 (pc' := 36) (ls' := [.ref 41, .int a0, .int a1, .int a2, .long 1, pm_no, pm_no]) (st' := []) rfl rfl rfl ?_
              refine pm_R_op pm_M237 (pc' := 37) (st' := [.int 0]) rfl rfl rfl ?_
              refine pm_R_lo pm_M237 (pc' := 39) (ls' := [.ref 41, .int a0, .int a1, .int a2, .long 1, pm_no, .int 0]) (st' := []) rfl rfl rfl ?_
              have L_220 : ∀ (N : Nat) (x6_220 : Int32) (y4_220 : Int64), sf_B 0 12 x6_220 → (12 - x6_220.toInt).toNat = N → pm_R (d + 3) 237 39 [.ref 41, .int a0, .int a1, .int a2, .long y4_220, pm_no, .int x6_220] [] h59 Q := by
                intro N
                induction N using Nat.strongRecOn with
                | ind N ih_220 =>
                  intro x6_220 y4_220 Bx6_220 hN_220
                  refine pm_R_lo pm_M237 (pc' := 41) rfl rfl rfl ?_
                  refine pm_R_lo pm_M237 (pc' := 42) rfl rfl rfl ?_
                  refine rf_R_get pm_M237 T60 (pc' := 45) (v := .int (m57 24)) rfl rfl rfl rfl ?_
                  refine pm_R_icmp pm_M237 (t := 71) (pc' := 48) rfl rfl rfl (fun c221 => ?_) (fun c221 => ?_)
                  · have B222 : sf_B 1 12 x6_220 := sf_leR c221 B64 Bx6_220
                    refine pm_R_lo pm_M237 (pc' := 73) rfl rfl rfl ?_
                    exact pm_R_ret pm_M237 (r := some (.long y4_220)) rfl rfl (K y4_220 m57 w58 h59 T60 F63 W65)
                  · have B223 : sf_B 0 11 x6_220 := sf_ltL (Int32.not_le.mp c221) Bx6_220 B64
                    refine pm_R_lo pm_M237 (pc' := 50) rfl rfl rfl ?_
                    refine pm_R_lo pm_M237 (pc' := 51) rfl rfl rfl ?_
                    refine rf_R_get pm_M237 T60 (pc' := 54) (v := .ref 53) rfl rfl rfl rfl ?_
                    refine pm_R_lo pm_M237 (pc' := 56) rfl rfl rfl ?_
                    obtain ⟨f224, e225⟩ := T60.2.2.2.1 53 (by decide) (by decide)
                    refine rf_R_ild pm_M237 T60 (pc' := 57) rfl e225 (by decide) (sf_in B223 (by decide) (by decide)) rfl (fun z227 ez228 => ?_)
                    refine sf_R_lany pm_M237 (pc' := 58) (st := [.long y4_220]) rfl rfl rfl (fun z229 => ?_)
                    refine pm_R_cs pm_M237 (pc' := 61) (ra := [.long z229]) (rest := [.long y4_220]) (ls' := [.long z229, pm_no, pm_no, pm_no]) rfl rfl (Or.inl rfl) pm_M222 rfl rfl (Nat.le_of_ble_eq_true rfl) rfl rfl ?_
                    refine rf_c222 (d := d + 1)  (fun r230 B231 => ?_)
                    show pm_R _ 237 61 [.ref 41, .int a0, .int a1, .int a2, .long y4_220, pm_no, .int x6_220] [.int r230, .long y4_220] _ _
                    refine sf_R_i2l pm_M237 (pc' := 62) rfl rfl B231 (fun z238 e239 B240 => ?_)
                    refine sf_R_lany pm_M237 (pc' := 63) (st := []) rfl rfl rfl (fun z241 => ?_)
                    refine pm_R_lo pm_M237 (pc' := 65) (ls' := [.ref 41, .int a0, .int a1, .int a2, .long z241, pm_no, .int x6_220]) (st' := []) rfl rfl rfl ?_
                    refine sf_R_iinc pm_M237 (pc' := 68) (ls' := fun z => [.ref 41, .int a0, .int a1, .int a2, .long z241, pm_no, .int z]) rfl B223 rfl (by decide) (by decide) (by decide) (fun _ => rfl) rfl (fun z242 e243 B244 => ?_)
                    show pm_R _ 237 68 [.ref 41, .int a0, .int a1, .int a2, .long z241, pm_no, .int z242] [] _ _
                    refine pm_R_br pm_M237 (pc' := 39) rfl rfl ?_
                    exact ih_220 _ (sf_up hN_220 e243 B223 (by decide) (by decide)) z242 z241 (sf_weak B244 (by decide) (by decide)) rfl
              exact L_220 _ 0 1 (sf_weak sf_k0 (by decide) (by decide)) rfl

set_option maxRecDepth 100000 in
set_option maxHeartbeats 4000000 in
/-- SilentTableModel.lasts -/
theorem rf_c238 {d : Nat} {m : Nat → Int32} {w : Int64} {h : pm_H} {Q : Option Value → pm_H → Prop} {a0 : Int32} {a1 : Int32} (T : rf_T m w h)  (K : ∀ (r : Int32) (m' : Nat → Int32) (w' : Int64) (h' : pm_H), rf_T m' w' h' → rf_G [41, 53, 54] h h' → rf_W [0, 23, 24, 26] m m' → sf_B (-1) 2147483647 r → Q (some (.int r)) h') : pm_R (d + 8) 238 0 [.ref 41, .int a0, .int a1, pm_no, pm_no] [] h Q := by
  refine pm_R_lo pm_M238 (pc' := 1) rfl rfl rfl ?_
  refine pm_R_op pm_M238 (pc' := 2) (st' := [.int 0, .ref 41]) rfl rfl rfl ?_
  refine rf_R_put pm_M238 T (pc' := 5) rfl rfl rfl (by decide) rfl rfl sf_k0 rfl rfl (fun h1 m4 em5 T2 F3 => ?_)
  have F6 := (rf_G.refl [41, 53, 54] h).trans F3 (by decide)
  have B7 : sf_B 0 0 (m4 0) := by rw [em5]; exact sf_k0
  have W9 : rf_W [0, 23, 24, 26] m m4 := by rw [em5]; exact (rf_W.refl [0, 23, 24, 26] m).put (by decide)
  refine pm_R_lo pm_M238 (pc' := 6) rfl rfl rfl ?_
  refine pm_R_lo pm_M238 (pc' := 7) rfl rfl rfl ?_
  refine pm_R_lo pm_M238 (pc' := 8) rfl rfl rfl ?_
  refine pm_R_cv pm_M238 (pc' := 11) (a := 41) (ra := [.int a1, .int a0]) (rest := []) (ls' := [.ref 41, .int a0, .int a1]) rfl rfl (Or.inl rfl) pm_M200 T2.2.1 rfl (by decide) (Nat.lt_of_lt_of_le (by decide) T2.1) rfl rfl (Nat.le_of_ble_eq_true rfl) rfl rfl ?_
  refine pm_R_lo pm_M200 (pc' := 1) rfl rfl rfl ?_
  refine pm_R_op pm_M200 (pc' := 2) (st' := [.int 0, .ref 41]) rfl rfl rfl ?_
  refine pm_R_lo pm_M200 (pc' := 3) rfl rfl rfl ?_
  refine pm_R_cv pm_M200 (pc' := 6) (a := 41) (ra := [.int a0, .int 0]) (rest := []) (ls' := [.ref 41, .int 0, .int a0]) rfl rfl (Or.inl rfl) pm_M177 T2.2.1 rfl (by decide) (Nat.lt_of_lt_of_le (by decide) T2.1) rfl rfl (Nat.le_of_ble_eq_true rfl) rfl rfl ?_
  refine pm_R_lo pm_M177 (pc' := 1) rfl rfl rfl ?_
  refine pm_R_op pm_M177 (pc' := 2) (st' := [.int 0, .int a0]) rfl rfl rfl ?_
  refine pm_R_lo pm_M177 (pc' := 3) rfl rfl rfl ?_
  refine rf_R_get pm_M177 T2 (pc' := 6) (v := .ref 46) rfl rfl rfl rfl ?_
  refine pm_R_lo pm_M177 (pc' := 7) rfl rfl rfl ?_
  obtain ⟨f10, e11, b12⟩ := T2.2.2.2.1 46 (by decide) (by decide)
  refine rf_R_ild pm_M177 T2 (pc' := 8) rfl e11 (by decide) rfl rfl (fun z13 ez14 => ?_)
  have B15 : sf_B 0 2 z13 := ez14 ▸ (b12 0)
  refine pm_R_op pm_M177 (pc' := 9) (st' := [.int 1, .int z13, .int 0, .int a0]) rfl rfl rfl ?_
  refine sf_R_isub pm_M177 (pc' := 10) rfl rfl B15 sf_k1 (by decide) (by decide) (fun z16 e17 B18 => ?_)
  refine pm_R_cs pm_M177 (pc' := 13) (ra := [.int z16, .int 0, .int a0]) (rest := []) (ls' := [.int a0, .int 0, .int z16]) rfl rfl (Or.inl rfl) pm_M174 rfl rfl (Nat.le_of_ble_eq_true rfl) rfl rfl ?_
  refine pm_R_lo pm_M174 (pc' := 1) rfl rfl rfl ?_
  refine pm_R_lo pm_M174 (pc' := 2) rfl rfl rfl ?_
  refine pm_R_icmp pm_M174 (t := 14) (pc' := 5) rfl rfl rfl (fun c19 => ?_) (fun c19 => ?_)
  · have B20 : sf_B (-2147483648) (-1) a0 := sf_ltL c19 (sf_any a0) sf_k0
    refine pm_R_op pm_M174 (pc' := 15) (st' := [.int 0]) rfl rfl rfl ?_
    refine pm_R_ret pm_M174 (r := some (.int 0)) rfl rfl ?_
    show pm_R _ 177 13 [.ref 41, .int 0, .int a0] [.int 0] _ _
    refine pm_R_ret pm_M177 (r := some (.int 0)) rfl rfl ?_
    show pm_R _ 200 6 [.ref 41, .int a0, .int a1] [.int 0] _ _
    refine pm_R_br pm_M200 (pc' := 18) (st' := []) rfl rfl ?_
    refine pm_R_op pm_M200 (pc' := 19) (st' := [.int 0]) rfl rfl rfl ?_
    refine pm_R_ret pm_M200 (r := some (.int 0)) rfl rfl ?_
    show pm_R _ 238 11 [.ref 41, .int a0, .int a1, pm_no, pm_no] [.int 0] _ _
    refine pm_R_br pm_M238 (pc' := 14) (st' := []) rfl rfl ?_
    refine pm_R_op pm_M238 (pc' := 15) (st' := [.int (-1)]) rfl rfl rfl ?_
    exact pm_R_ret pm_M238 (r := some (.int (-1))) rfl rfl (K (-1) m4 w h1 T2 F6 W9 (sf_weak sf_kn1 (by decide) (by decide)))
  · have B21 : sf_B 0 2147483647 a0 := sf_leR (Int32.not_lt.mp c19) sf_k0 (sf_any a0)
    refine pm_R_lo pm_M174 (pc' := 6) rfl rfl rfl ?_
    refine pm_R_lo pm_M174 (pc' := 7) rfl rfl rfl ?_
    refine pm_R_icmp pm_M174 (t := 14) (pc' := 10) rfl rfl rfl (fun c22 => ?_) (fun c22 => ?_)
    · skip
      refine pm_R_op pm_M174 (pc' := 15) (st' := [.int 0]) rfl rfl rfl ?_
      refine pm_R_ret pm_M174 (r := some (.int 0)) rfl rfl ?_
      show pm_R _ 177 13 [.ref 41, .int 0, .int a0] [.int 0] _ _
      refine pm_R_ret pm_M177 (r := some (.int 0)) rfl rfl ?_
      show pm_R _ 200 6 [.ref 41, .int a0, .int a1] [.int 0] _ _
      refine pm_R_br pm_M200 (pc' := 18) (st' := []) rfl rfl ?_
      refine pm_R_op pm_M200 (pc' := 19) (st' := [.int 0]) rfl rfl rfl ?_
      refine pm_R_ret pm_M200 (r := some (.int 0)) rfl rfl ?_
      show pm_R _ 238 11 [.ref 41, .int a0, .int a1, pm_no, pm_no] [.int 0] _ _
      refine pm_R_br pm_M238 (pc' := 14) (st' := []) rfl rfl ?_
      refine pm_R_op pm_M238 (pc' := 15) (st' := [.int (-1)]) rfl rfl rfl ?_
      exact pm_R_ret pm_M238 (r := some (.int (-1))) rfl rfl (K (-1) m4 w h1 T2 F6 W9 (sf_weak sf_kn1 (by decide) (by decide)))
    · have B23 : sf_B 0 1 a0 := sf_leL (Int32.not_lt.mp c22) B21 B18
      have B24 : sf_B 0 1 z16 := sf_leR (Int32.not_lt.mp c22) B21 B18
      refine pm_R_op pm_M174 (pc' := 11) (st' := [.int 1]) rfl rfl rfl ?_
      refine pm_R_br pm_M174 (pc' := 15) rfl rfl ?_
      refine pm_R_ret pm_M174 (r := some (.int 1)) rfl rfl ?_
      show pm_R _ 177 13 [.ref 41, .int 0, .int a0] [.int 1] _ _
      refine pm_R_ret pm_M177 (r := some (.int 1)) rfl rfl ?_
      show pm_R _ 200 6 [.ref 41, .int a0, .int a1] [.int 1] _ _
      refine pm_R_br pm_M200 (pc' := 9) (st' := []) rfl rfl ?_
      refine pm_R_lo pm_M200 (pc' := 10) rfl rfl rfl ?_
      refine pm_R_op pm_M200 (pc' := 11) (st' := [.int 1, .ref 41]) rfl rfl rfl ?_
      refine pm_R_lo pm_M200 (pc' := 12) rfl rfl rfl ?_
      refine pm_R_cv pm_M200 (pc' := 15) (a := 41) (ra := [.int a1, .int 1]) (rest := []) (ls' := [.ref 41, .int 1, .int a1]) rfl rfl (Or.inl rfl) pm_M177 T2.2.1 rfl (by decide) (Nat.lt_of_lt_of_le (by decide) T2.1) rfl rfl (Nat.le_of_ble_eq_true rfl) rfl rfl ?_
      refine pm_R_lo pm_M177 (pc' := 1) rfl rfl rfl ?_
      refine pm_R_op pm_M177 (pc' := 2) (st' := [.int 0, .int a1]) rfl rfl rfl ?_
      refine pm_R_lo pm_M177 (pc' := 3) rfl rfl rfl ?_
      refine rf_R_get pm_M177 T2 (pc' := 6) (v := .ref 46) rfl rfl rfl rfl ?_
      refine pm_R_lo pm_M177 (pc' := 7) rfl rfl rfl ?_
      refine rf_R_ild pm_M177 T2 (pc' := 8) rfl e11 (by decide) rfl rfl (fun z25 ez26 => ?_)
      have B27 : sf_B 0 3 z25 := ez26 ▸ (b12 1)
      refine pm_R_op pm_M177 (pc' := 9) (st' := [.int 1, .int z25, .int 0, .int a1]) rfl rfl rfl ?_
      refine sf_R_isub pm_M177 (pc' := 10) rfl rfl B27 sf_k1 (by decide) (by decide) (fun z28 e29 B30 => ?_)
      refine pm_R_cs pm_M177 (pc' := 13) (ra := [.int z28, .int 0, .int a1]) (rest := []) (ls' := [.int a1, .int 0, .int z28]) rfl rfl (Or.inl rfl) pm_M174 rfl rfl (Nat.le_of_ble_eq_true rfl) rfl rfl ?_
      refine pm_R_lo pm_M174 (pc' := 1) rfl rfl rfl ?_
      refine pm_R_lo pm_M174 (pc' := 2) rfl rfl rfl ?_
      refine pm_R_icmp pm_M174 (t := 14) (pc' := 5) rfl rfl rfl (fun c31 => ?_) (fun c31 => ?_)
      · have B32 : sf_B (-2147483648) (-1) a1 := sf_ltL c31 (sf_any a1) sf_k0
        refine pm_R_op pm_M174 (pc' := 15) (st' := [.int 0]) rfl rfl rfl ?_
        refine pm_R_ret pm_M174 (r := some (.int 0)) rfl rfl ?_
        show pm_R _ 177 13 [.ref 41, .int 1, .int a1] [.int 0] _ _
        refine pm_R_ret pm_M177 (r := some (.int 0)) rfl rfl ?_
        show pm_R _ 200 15 [.ref 41, .int a0, .int a1] [.int 0] _ _
        refine pm_R_br pm_M200 (pc' := 18) (st' := []) rfl rfl ?_
        refine pm_R_op pm_M200 (pc' := 19) (st' := [.int 0]) rfl rfl rfl ?_
        refine pm_R_ret pm_M200 (r := some (.int 0)) rfl rfl ?_
        show pm_R _ 238 11 [.ref 41, .int a0, .int a1, pm_no, pm_no] [.int 0] _ _
        refine pm_R_br pm_M238 (pc' := 14) (st' := []) rfl rfl ?_
        refine pm_R_op pm_M238 (pc' := 15) (st' := [.int (-1)]) rfl rfl rfl ?_
        exact pm_R_ret pm_M238 (r := some (.int (-1))) rfl rfl (K (-1) m4 w h1 T2 F6 W9 (sf_weak sf_kn1 (by decide) (by decide)))
      · have B33 : sf_B 0 2147483647 a1 := sf_leR (Int32.not_lt.mp c31) sf_k0 (sf_any a1)
        refine pm_R_lo pm_M174 (pc' := 6) rfl rfl rfl ?_
        refine pm_R_lo pm_M174 (pc' := 7) rfl rfl rfl ?_
        refine pm_R_icmp pm_M174 (t := 14) (pc' := 10) rfl rfl rfl (fun c34 => ?_) (fun c34 => ?_)
        · skip
          refine pm_R_op pm_M174 (pc' := 15) (st' := [.int 0]) rfl rfl rfl ?_
          refine pm_R_ret pm_M174 (r := some (.int 0)) rfl rfl ?_
          show pm_R _ 177 13 [.ref 41, .int 1, .int a1] [.int 0] _ _
          refine pm_R_ret pm_M177 (r := some (.int 0)) rfl rfl ?_
          show pm_R _ 200 15 [.ref 41, .int a0, .int a1] [.int 0] _ _
          refine pm_R_br pm_M200 (pc' := 18) (st' := []) rfl rfl ?_
          refine pm_R_op pm_M200 (pc' := 19) (st' := [.int 0]) rfl rfl rfl ?_
          refine pm_R_ret pm_M200 (r := some (.int 0)) rfl rfl ?_
          show pm_R _ 238 11 [.ref 41, .int a0, .int a1, pm_no, pm_no] [.int 0] _ _
          refine pm_R_br pm_M238 (pc' := 14) (st' := []) rfl rfl ?_
          refine pm_R_op pm_M238 (pc' := 15) (st' := [.int (-1)]) rfl rfl rfl ?_
          exact pm_R_ret pm_M238 (r := some (.int (-1))) rfl rfl (K (-1) m4 w h1 T2 F6 W9 (sf_weak sf_kn1 (by decide) (by decide)))
        · have V35 := rf_V.mk e11 ez26 e29 (Int32.not_lt.mp c34) B33 (by decide)
          have V35 := V35.back F6 (by decide)
          have B36 : sf_B 0 2 a1 := sf_leL (Int32.not_lt.mp c34) B33 B30
          have B37 : sf_B 0 2 z28 := sf_leR (Int32.not_lt.mp c34) B33 B30
          refine pm_R_op pm_M174 (pc' := 11) (st' := [.int 1]) rfl rfl rfl ?_
          refine pm_R_br pm_M174 (pc' := 15) rfl rfl ?_
          refine pm_R_ret pm_M174 (r := some (.int 1)) rfl rfl ?_
          show pm_R _ 177 13 [.ref 41, .int 1, .int a1] [.int 1] _ _
          refine pm_R_ret pm_M177 (r := some (.int 1)) rfl rfl ?_
          show pm_R _ 200 15 [.ref 41, .int a0, .int a1] [.int 1] _ _
          refine pm_R_br pm_M200 (pc' := 20) (st' := []) rfl rfl ?_
          refine pm_R_lo pm_M200 (pc' := 21) rfl rfl rfl ?_
          refine pm_R_lo pm_M200 (pc' := 22) rfl rfl rfl ?_
          refine pm_R_lo pm_M200 (pc' := 23) rfl rfl rfl ?_
          refine pm_R_cv pm_M200 (pc' := 26) (a := 41) (ra := [.int a1, .int a0]) (rest := []) (ls' := [.ref 41, .int a0, .int a1, pm_no]) rfl rfl (Or.inl rfl) pm_M201 T2.2.1 rfl (by decide) (Nat.lt_of_lt_of_le (by decide) T2.1) rfl rfl (Nat.le_of_ble_eq_true rfl) rfl rfl ?_
          refine rf_c201 (d := d + 6) T2 B23 B36 (V35.F F6 (by decide)) (fun m40 w41 h42 T43 F44 W45 B46 => ?_)
          have F47 := F6.trans F44 (by decide)
          have W48 : rf_W [0, 23, 24, 26] m m40 := W9.trans W45 (by decide)
          show pm_R _ 200 26 [.ref 41, .int a0, .int a1] [] _ _
          refine pm_R_op pm_M200 (pc' := 27) (st' := [.int 1]) rfl rfl rfl ?_
          refine pm_R_ret pm_M200 (r := some (.int 1)) rfl rfl ?_
          show pm_R _ 238 11 [.ref 41, .int a0, .int a1, pm_no, pm_no] [.int 1] _ _
          refine pm_R_br pm_M238 (pc' := 16) (st' := []) rfl rfl ?_
          refine pm_R_op pm_M238 (pc' := 17) (st' := [.int (-1)]) rfl rfl rfl ?_
          refine pm_R_lo pm_M238 (pc' := 18) (ls' := [.ref 41, .int a0, .int a1, .int (-1), pm_no]) (st' := []) rfl rfl rfl ?_
          refine pm_R_op pm_M238 (pc' := 19) (st' := [.int 0]) rfl rfl rfl ?_
          refine pm_R_lo pm_M238 (pc' := 21) (ls' := [.ref 41, .int a0, .int a1, .int (-1), .int 0]) (st' := []) rfl rfl rfl ?_
          have L_461 : ∀ (N : Nat) (h_461 : pm_H) (m_461 : Nat → Int32) (w_461 : Int64) (x3_461 : Int32) (x4_461 : Int32), rf_T m_461 w_461 h_461 → rf_G [41, 53, 54] h h_461 → rf_W [23, 24, 26] m40 m_461 → sf_B (-1) 2147483647 x3_461 → sf_B 0 10 x4_461 → (10 - x4_461.toInt).toNat = N → pm_R (d + 8) 238 21 [.ref 41, .int a0, .int a1, .int x3_461, .int x4_461] [] h_461 Q := by
            intro N
            induction N using Nat.strongRecOn with
            | ind N ih_461 =>
              intro h_461 m_461 w_461 x3_461 x4_461 T_461 F_461 W_461 Bx3_461 Bx4_461 hN_461
              have W464 : rf_W [0, 23, 24, 26] m m_461 := W48.trans W_461 (by decide)
              refine pm_R_lo pm_M238 (pc' := 23) rfl rfl rfl ?_
              refine pm_R_op pm_M238 (pc' := 25) (st' := [.int 9, .int x4_461]) rfl rfl rfl ?_
              refine pm_R_icmp pm_M238 (t := 56) (pc' := 28) rfl rfl rfl (fun c465 => ?_) (fun c465 => ?_)
              · have B466 : sf_B 10 10 x4_461 := sf_ltR c465 sf_k9 Bx4_461
                refine pm_R_lo pm_M238 (pc' := 57) rfl rfl rfl ?_
                exact pm_R_ret pm_M238 (r := some (.int x3_461)) rfl (pm_ret_i _) (K x3_461 m_461 w_461 h_461 T_461 F_461 W464 Bx3_461)
              · have B467 : sf_B 0 9 x4_461 := sf_leL (Int32.not_lt.mp c465) Bx4_461 sf_k9
                refine pm_R_lo pm_M238 (pc' := 29) rfl rfl rfl ?_
                refine pm_R_lo pm_M238 (pc' := 30) rfl rfl rfl ?_
                refine pm_R_lo pm_M238 (pc' := 31) rfl rfl rfl ?_
                refine pm_R_cv pm_M238 (pc' := 34) (a := 41) (ra := [.int a1, .int a0]) (rest := []) (ls' := [.ref 41, .int a0, .int a1, pm_no]) rfl rfl (Or.inl rfl) pm_M201 T_461.2.1 rfl (by decide) (Nat.lt_of_lt_of_le (by decide) T_461.1) rfl rfl (Nat.le_of_ble_eq_true rfl) rfl rfl ?_
                refine rf_c201 (d := d + 7) T_461 B23 B36 (V35.F F_461 (by decide)) (fun m470 w471 h472 T473 F474 W475 B476 => ?_)
                have F477 := F_461.trans F474 (by decide)
                have W478 : rf_W [0, 23, 24, 26] m m470 := W464.trans W475 (by decide)
                have W479 : rf_W [23, 24, 26] m40 m470 := W_461.trans W475 (by decide)
                show pm_R _ 238 34 [.ref 41, .int a0, .int a1, .int x3_461, .int x4_461] [] _ _
                refine pm_R_lo pm_M238 (pc' := 35) rfl rfl rfl ?_
                refine pm_R_lo pm_M238 (pc' := 37) rfl rfl rfl ?_
                refine pm_R_cv pm_M238 (pc' := 40) (a := 41) (ra := [.int x4_461]) (rest := []) (ls' := [.ref 41, .int x4_461, pm_no, pm_no]) rfl rfl (Or.inl rfl) pm_M239 T473.2.1 rfl (by decide) (Nat.lt_of_lt_of_le (by decide) T473.1) rfl rfl (Nat.le_of_ble_eq_true rfl) rfl rfl ?_
                refine pm_R_lo pm_M239 (pc' := 1) rfl rfl rfl ?_
                refine pm_R_cv pm_M239 (pc' := 4) (a := 41) (ra := []) (rest := []) (ls' := [.ref 41]) rfl rfl (Or.inl rfl) pm_M215 T473.2.1 rfl (by decide) (Nat.lt_of_lt_of_le (by decide) T473.1) rfl rfl (Nat.le_of_ble_eq_true rfl) rfl rfl ?_
                refine rf_c215 (d := d + 1) T473 B476 (fun r480 m482 w483 h484 T485 F486 W487 => ?_)
                have F488 := F477.trans F486 (by decide)
                have B489 : sf_B 1 12 (m482 24) := by rw [W487 24 (by decide)]; exact B476
                have W490 : rf_W [0, 23, 24, 26] m m482 := W478.trans W487 (by decide)
                have W491 : rf_W [23, 24, 26] m40 m482 := W479.trans W487 (by decide)
                show pm_R _ 239 4 [.ref 41, .int x4_461, pm_no, pm_no] [.long r480] _ _
                refine pm_R_lo pm_M239 (pc' := 5) (ls' := [.ref 41, .int x4_461, .long r480, pm_no]) (st' := []) rfl rfl rfl ?_
                refine pm_R_lo pm_M239 (pc' := 6) rfl rfl rfl ?_
                refine pm_R_op pm_M239 (pc' := 7) (st' := [.long 0, .long r480]) rfl rfl rfl ?_
                refine sf_R_lcmp pm_M239 (pc' := 8) rfl rfl (fun z492 e493 => ?_)
                refine pm_R_ifc pm_M239 (t := 25) (pc' := 11) rfl rfl rfl (fun c494 => ?_) (fun c494 => ?_)
                · have B495 : sf_B 0 0 z492 := sf_eqL c494 sf_k0
                  refine pm_R_op pm_M239 (pc' := 26) (st' := [.int 0]) rfl rfl rfl ?_
                  refine pm_R_ret pm_M239 (r := some (.int 0)) rfl rfl ?_
                  show pm_R _ 238 40 [.ref 41, .int a0, .int a1, .int x3_461, .int x4_461] [.int 0] _ _
                  refine pm_R_br pm_M238 (pc' := 48) (st' := []) rfl rfl ?_
                  refine pm_R_lo pm_M238 (pc' := 49) rfl rfl rfl ?_
                  refine pm_R_lo pm_M238 (pc' := 50) (ls' := [.ref 41, .int a0, .int a1, .int x3_461, .int x4_461]) (st' := []) rfl rfl rfl ?_
                  refine sf_R_iinc pm_M238 (pc' := 53) (ls' := fun z => [.ref 41, .int a0, .int a1, .int x3_461, .int z]) rfl B467 rfl (by decide) (by decide) (by decide) (fun _ => rfl) rfl (fun z496 e497 B498 => ?_)
                  show pm_R _ 238 53 [.ref 41, .int a0, .int a1, .int x3_461, .int z496] [] _ _
                  refine pm_R_br pm_M238 (pc' := 21) rfl rfl ?_
                  exact ih_461 _ (sf_up hN_461 e497 B467 (by decide) (by decide)) h484 m482 w483 x3_461 z496 T485 F488 W491 Bx3_461 (sf_weak B498 (by decide) (by decide)) rfl
                · have k499 := sf_lneC e493 c494
                  refine pm_R_lo pm_M239 (pc' := 12) rfl rfl rfl ?_
                  refine pm_R_lo pm_M239 (pc' := 13) rfl rfl rfl ?_
                  refine pm_R_cv pm_M239 (pc' := 16) (a := 41) (ra := [.int x4_461]) (rest := []) (ls' := [.ref 41, .int x4_461]) rfl rfl (Or.inl rfl) pm_M234 T485.2.1 rfl (by decide) (Nat.lt_of_lt_of_le (by decide) T485.1) rfl rfl (Nat.le_of_ble_eq_true rfl) rfl rfl ?_
                  refine pm_R_lo pm_M234 (pc' := 1) rfl rfl rfl ?_
                  refine pm_R_lo pm_M234 (pc' := 2) rfl rfl rfl ?_
                  refine pm_R_cv pm_M234 (pc' := 5) (a := 41) (ra := [.int x4_461]) (rest := []) (ls' := [.ref 41, .int x4_461, pm_no, pm_no, pm_no, pm_no]) rfl rfl (Or.inl rfl) pm_M235 T485.2.1 rfl (by decide) (Nat.lt_of_lt_of_le (by decide) T485.1) rfl rfl (Nat.le_of_ble_eq_true rfl) rfl rfl ?_
                  refine rf_c235 (d := d + 4) T485 (sf_weak B467 (by decide) (by decide)) (fun m502 w503 h504 T505 F506 W507 => ?_)
                  have F508 := F488.trans F506 (by decide)
                  have B509 : sf_B 1 12 (m502 24) := by rw [W507 24 (by decide)]; exact B489
                  have W510 : rf_W [0, 23, 24, 26] m m502 := W490.trans W507 (by decide)
                  have W511 : rf_W [23, 24, 26] m40 m502 := W491.trans W507 (by decide)
                  show pm_R _ 234 5 [.ref 41, .int x4_461] [] _ _
                  refine pm_R_lo pm_M234 (pc' := 6) rfl rfl rfl ?_
                  refine pm_R_cv pm_M234 (pc' := 9) (a := 41) (ra := []) (rest := []) (ls' := [.ref 41]) rfl rfl (Or.inl rfl) pm_M215 T505.2.1 rfl (by decide) (Nat.lt_of_lt_of_le (by decide) T505.1) rfl rfl (Nat.le_of_ble_eq_true rfl) rfl rfl ?_
                  refine rf_c215 (d := d + 0) T505 B509 (fun r512 m514 w515 h516 T517 F518 W519 => ?_)
                  have F520 := F508.trans F518 (by decide)
                  have B521 : sf_B 1 12 (m514 24) := by rw [W519 24 (by decide)]; exact B509
                  have W522 : rf_W [0, 23, 24, 26] m m514 := W510.trans W519 (by decide)
                  have W523 : rf_W [23, 24, 26] m40 m514 := W511.trans W519 (by decide)
                  show pm_R _ 234 9 [.ref 41, .int x4_461] [.long r512] _ _
                  refine pm_R_ret pm_M234 (r := some (.long r512)) rfl rfl ?_
                  show pm_R _ 239 16 [.ref 41, .int x4_461, .long r480, pm_no] [.long r512] _ _
                  refine pm_R_lo pm_M239 (pc' := 17) rfl rfl rfl ?_
                  refine sf_R_lcmp pm_M239 (pc' := 18) rfl rfl (fun z524 e525 => ?_)
                  refine pm_R_ifc pm_M239 (t := 25) (pc' := 21) rfl rfl rfl (fun c526 => ?_) (fun c526 => ?_)
                  · have k527 := sf_lneC e525 c526
                    refine pm_R_op pm_M239 (pc' := 26) (st' := [.int 0]) rfl rfl rfl ?_
                    refine pm_R_ret pm_M239 (r := some (.int 0)) rfl rfl ?_
                    show pm_R _ 238 40 [.ref 41, .int a0, .int a1, .int x3_461, .int x4_461] [.int 0] _ _
                    refine pm_R_br pm_M238 (pc' := 48) (st' := []) rfl rfl ?_
                    refine pm_R_lo pm_M238 (pc' := 49) rfl rfl rfl ?_
                    refine pm_R_lo pm_M238 (pc' := 50) (ls' := [.ref 41, .int a0, .int a1, .int x3_461, .int x4_461]) (st' := []) rfl rfl rfl ?_
                    refine sf_R_iinc pm_M238 (pc' := 53) (ls' := fun z => [.ref 41, .int a0, .int a1, .int x3_461, .int z]) rfl B467 rfl (by decide) (by decide) (by decide) (fun _ => rfl) rfl (fun z528 e529 B530 => ?_)
                    show pm_R _ 238 53 [.ref 41, .int a0, .int a1, .int x3_461, .int z528] [] _ _
                    refine pm_R_br pm_M238 (pc' := 21) rfl rfl ?_
                    exact ih_461 _ (sf_up hN_461 e529 B467 (by decide) (by decide)) h516 m514 w515 x3_461 z528 T517 F520 W523 Bx3_461 (sf_weak B530 (by decide) (by decide)) rfl
                  · have B531 : sf_B 0 0 z524 := sf_eqL (Classical.not_not.mp c526) sf_k0
                    refine pm_R_op pm_M239 (pc' := 22) (st' := [.int 1]) rfl rfl rfl ?_
                    refine pm_R_br pm_M239 (pc' := 26) rfl rfl ?_
                    refine pm_R_ret pm_M239 (r := some (.int 1)) rfl rfl ?_
                    show pm_R _ 238 40 [.ref 41, .int a0, .int a1, .int x3_461, .int x4_461] [.int 1] _ _
                    refine pm_R_br pm_M238 (pc' := 43) (st' := []) rfl rfl ?_
                    refine pm_R_lo pm_M238 (pc' := 45) rfl rfl rfl ?_
                    refine pm_R_br pm_M238 (pc' := 49) rfl rfl ?_
                    refine pm_R_lo pm_M238 (pc' := 50) (ls' := [.ref 41, .int a0, .int a1, .int x4_461, .int x4_461]) (st' := []) rfl rfl rfl ?_
                    refine sf_R_iinc pm_M238 (pc' := 53) (ls' := fun z => [.ref 41, .int a0, .int a1, .int x4_461, .int z]) rfl B467 rfl (by decide) (by decide) (by decide) (fun _ => rfl) rfl (fun z532 e533 B534 => ?_)
                    show pm_R _ 238 53 [.ref 41, .int a0, .int a1, .int x4_461, .int z532] [] _ _
                    refine pm_R_br pm_M238 (pc' := 21) rfl rfl ?_
                    exact ih_461 _ (sf_up hN_461 e533 B467 (by decide) (by decide)) h516 m514 w515 x4_461 z532 T517 F520 W523 (sf_weak B467 (by decide) (by decide)) (sf_weak B534 (by decide) (by decide)) rfl
          exact L_461 _ h42 m40 w41 (-1) 0 T43 F47 (rf_W.refl _ _) (sf_weak sf_kn1 (by decide) (by decide)) (sf_weak sf_k0 (by decide) (by decide)) rfl
