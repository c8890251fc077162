set_option maxRecDepth 100000 in
set_option maxHeartbeats 4000000 in
/-- SilentTableModel.deed -/
theorem rf_c257 {d : Nat} {m : Nat → Int32} {w : Int64} {h : pm_H} {Q : Option Value → pm_H → Prop} {a0 : Int32} {a1 : Int32} {a2 : Int32} (T : rf_T m w h)  (K : ∀ (r : Int32) (m' : Nat → Int32) (w' : Int64) (h' : pm_H), rf_T m' w' h' → rf_G [41, 67, 68] h h' → rf_W [0, 42, 43, 44] m m' → Q (some (.int r)) h') : pm_R (d + 3) 257 0 [.ref 41, .int a0, .int a1, .int a2] [] h Q := by
  refine pm_R_lo pm_M257 (pc' := 1) rfl rfl rfl ?_
  refine pm_R_op pm_M257 (pc' := 2) (st' := [.int 0, .ref 41]) rfl rfl rfl ?_
  refine rf_R_put pm_M257 T (pc' := 5) rfl rfl rfl (by decide) rfl rfl sf_k0 rfl rfl (fun h1 m4 em5 T2 F3 => ?_)
  have F6 := (rf_G.refl [41, 67, 68] h).trans F3 (by decide)
  have B7 : sf_B 0 0 (m4 0) := by rw [em5]; exact sf_k0
  have W9 : rf_W [0, 42, 43, 44] m m4 := by rw [em5]; exact (rf_W.refl [0, 42, 43, 44] m).put (by decide)
  refine pm_R_lo pm_M257 (pc' := 6) rfl rfl rfl ?_
  refine pm_R_lo pm_M257 (pc' := 7) rfl rfl rfl ?_
  refine pm_R_cv pm_M257 (pc' := 10) (a := 41) (ra := [.int a0]) (rest := []) (ls' := [.ref 41, .int a0, pm_no, pm_no, pm_no, pm_no]) rfl rfl (Or.inl rfl) pm_M254 T2.2.1 rfl (by decide) (Nat.lt_of_lt_of_le (by decide) T2.1) rfl rfl (Nat.le_of_ble_eq_true rfl) rfl rfl ?_
  refine rf_c254 (d := d + 0) T2  (fun r10 m12 w13 h14 T15 F16 W17 B11 => ?_)
  have F18 := F6.trans F16 (by decide)
  have W19 : rf_W [0, 42, 43, 44] m m12 := W9.trans W17 (by decide)
  show pm_R _ 257 10 [.ref 41, .int a0, .int a1, .int a2] [.int r10] _ _
  refine pm_R_ifc pm_M257 (t := 36) (pc' := 13) rfl rfl rfl (fun c20 => ?_) (fun c20 => ?_)
  · have B21 : sf_B 0 0 r10 := sf_eqL c20 sf_k0
    refine pm_R_op pm_M257 (pc' := 38) (st' := [.int (-2)]) rfl rfl rfl ?_
    exact pm_R_ret pm_M257 (r := some (.int (-2))) rfl rfl (K (-2) m12 w13 h14 T15 F18 W19)
  · have B22 : sf_B 1 1 r10 := sf_neL0 c20 sf_k0 B11
    refine pm_R_lo pm_M257 (pc' := 14) rfl rfl rfl ?_
    refine pm_R_op pm_M257 (pc' := 15) (st' := [.int 0, .int a1]) rfl rfl rfl ?_
    refine pm_R_lo pm_M257 (pc' := 16) rfl rfl rfl ?_
    have B23 : sf_B 0 50 (m12 43) := T15.2.2.1 43
    refine rf_R_get pm_M257 T15 (pc' := 19) (v := .int (m12 43)) rfl rfl rfl rfl ?_
    refine pm_R_op pm_M257 (pc' := 20) (st' := [.int 1, .int (m12 43), .int 0, .int a1]) rfl rfl rfl ?_
    refine sf_R_isub pm_M257 (pc' := 21) rfl rfl B23 sf_k1 (by decide) (by decide) (fun z24 e25 B26 => ?_)
    refine pm_R_cs pm_M257 (pc' := 24) (ra := [.int z24, .int 0, .int a1]) (rest := []) (ls' := [.int a1, .int 0, .int z24]) rfl rfl (Or.inl rfl) pm_M174 rfl rfl (Nat.le_of_ble_eq_true rfl) rfl rfl ?_
    refine pm_R_lo pm_M174 (pc' := 1) rfl rfl rfl ?_
    refine pm_R_lo pm_M174 (pc' := 2) rfl rfl rfl ?_
    refine pm_R_icmp pm_M174 (t := 14) (pc' := 5) rfl rfl rfl (fun c27 => ?_) (fun c27 => ?_)
    · have B28 : sf_B (-2147483648) (-1) a1 := sf_ltL c27 (sf_any a1) sf_k0
      refine pm_R_op pm_M174 (pc' := 15) (st' := [.int 0]) rfl rfl rfl ?_
      refine pm_R_ret pm_M174 (r := some (.int 0)) rfl rfl ?_
      show pm_R _ 257 24 [.ref 41, .int a0, .int a1, .int a2] [.int 0] _ _
      refine pm_R_br pm_M257 (pc' := 36) (st' := []) rfl rfl ?_
      refine pm_R_op pm_M257 (pc' := 38) (st' := [.int (-2)]) rfl rfl rfl ?_
      exact pm_R_ret pm_M257 (r := some (.int (-2))) rfl rfl (K (-2) m12 w13 h14 T15 F18 W19)
    · have B29 : sf_B 0 2147483647 a1 := sf_leR (Int32.not_lt.mp c27) sf_k0 (sf_any a1)
      refine pm_R_lo pm_M174 (pc' := 6) rfl rfl rfl ?_
      refine pm_R_lo pm_M174 (pc' := 7) rfl rfl rfl ?_
      refine pm_R_icmp pm_M174 (t := 14) (pc' := 10) rfl rfl rfl (fun c30 => ?_) (fun c30 => ?_)
      · skip
        refine pm_R_op pm_M174 (pc' := 15) (st' := [.int 0]) rfl rfl rfl ?_
        refine pm_R_ret pm_M174 (r := some (.int 0)) rfl rfl ?_
        show pm_R _ 257 24 [.ref 41, .int a0, .int a1, .int a2] [.int 0] _ _
        refine pm_R_br pm_M257 (pc' := 36) (st' := []) rfl rfl ?_
        refine pm_R_op pm_M257 (pc' := 38) (st' := [.int (-2)]) rfl rfl rfl ?_
        exact pm_R_ret pm_M257 (r := some (.int (-2))) rfl rfl (K (-2) m12 w13 h14 T15 F18 W19)
      · have B31 : sf_B 0 49 a1 := sf_leL (Int32.not_lt.mp c30) B29 B26
        have B32 : sf_B 0 49 z24 := sf_leR (Int32.not_lt.mp c30) B29 B26
        refine pm_R_op pm_M174 (pc' := 11) (st' := [.int 1]) rfl rfl rfl ?_
        refine pm_R_br pm_M174 (pc' := 15) rfl rfl ?_
        refine pm_R_ret pm_M174 (r := some (.int 1)) rfl rfl ?_
        show pm_R _ 257 24 [.ref 41, .int a0, .int a1, .int a2] [.int 1] _ _
        refine pm_R_br pm_M257 (pc' := 27) (st' := []) rfl rfl ?_
        refine pm_R_lo pm_M257 (pc' := 28) rfl rfl rfl ?_
        refine pm_R_op pm_M257 (pc' := 29) (st' := [.int 0, .int a2]) rfl rfl rfl ?_
        refine pm_R_op pm_M257 (pc' := 30) (st' := [.int 3, .int 0, .int a2]) rfl rfl rfl ?_
        refine pm_R_cs pm_M257 (pc' := 33) (ra := [.int 3, .int 0, .int a2]) (rest := []) (ls' := [.int a2, .int 0, .int 3]) rfl rfl (Or.inl rfl) pm_M174 rfl rfl (Nat.le_of_ble_eq_true rfl) rfl rfl ?_
        refine pm_R_lo pm_M174 (pc' := 1) rfl rfl rfl ?_
        refine pm_R_lo pm_M174 (pc' := 2) rfl rfl rfl ?_
        refine pm_R_icmp pm_M174 (t := 14) (pc' := 5) rfl rfl rfl (fun c33 => ?_) (fun c33 => ?_)
        · have B34 : sf_B (-2147483648) (-1) a2 := sf_ltL c33 (sf_any a2) sf_k0
          refine pm_R_op pm_M174 (pc' := 15) (st' := [.int 0]) rfl rfl rfl ?_
          refine pm_R_ret pm_M174 (r := some (.int 0)) rfl rfl ?_
          show pm_R _ 257 33 [.ref 41, .int a0, .int a1, .int a2] [.int 0] _ _
          refine pm_R_br pm_M257 (pc' := 36) (st' := []) rfl rfl ?_
          refine pm_R_op pm_M257 (pc' := 38) (st' := [.int (-2)]) rfl rfl rfl ?_
          exact pm_R_ret pm_M257 (r := some (.int (-2))) rfl rfl (K (-2) m12 w13 h14 T15 F18 W19)
        · have B35 : sf_B 0 2147483647 a2 := sf_leR (Int32.not_lt.mp c33) sf_k0 (sf_any a2)
          refine pm_R_lo pm_M174 (pc' := 6) rfl rfl rfl ?_
          refine pm_R_lo pm_M174 (pc' := 7) rfl rfl rfl ?_
          refine pm_R_icmp pm_M174 (t := 14) (pc' := 10) rfl rfl rfl (fun c36 => ?_) (fun c36 => ?_)
          · have B37 : sf_B 4 2147483647 a2 := sf_ltR c36 sf_k3 B35
            refine pm_R_op pm_M174 (pc' := 15) (st' := [.int 0]) rfl rfl rfl ?_
            refine pm_R_ret pm_M174 (r := some (.int 0)) rfl rfl ?_
            show pm_R _ 257 33 [.ref 41, .int a0, .int a1, .int a2] [.int 0] _ _
            refine pm_R_br pm_M257 (pc' := 36) (st' := []) rfl rfl ?_
            refine pm_R_op pm_M257 (pc' := 38) (st' := [.int (-2)]) rfl rfl rfl ?_
            exact pm_R_ret pm_M257 (r := some (.int (-2))) rfl rfl (K (-2) m12 w13 h14 T15 F18 W19)
          · have B38 : sf_B 0 3 a2 := sf_leL (Int32.not_lt.mp c36) B35 sf_k3
            refine pm_R_op pm_M174 (pc' := 11) (st' := [.int 1]) rfl rfl rfl ?_
            refine pm_R_br pm_M174 (pc' := 15) rfl rfl ?_
            refine pm_R_ret pm_M174 (r := some (.int 1)) rfl rfl ?_
            show pm_R _ 257 33 [.ref 41, .int a0, .int a1, .int a2] [.int 1] _ _
            refine pm_R_br pm_M257 (pc' := 39) (st' := []) rfl rfl ?_
            refine pm_R_lo pm_M257 (pc' := 40) rfl rfl rfl ?_
            refine pm_R_op pm_M257 (pc' := 41) (st' := [.int 3, .int a2]) rfl rfl rfl ?_
            refine pm_R_icmp pm_M257 (t := 53) (pc' := 44) rfl rfl rfl (fun c39 => ?_) (fun c39 => ?_)
            · have B40 : sf_B 0 2 a2 := sf_neH0 c39 sf_k3 B38
              refine pm_R_lo pm_M257 (pc' := 54) rfl rfl rfl ?_
              refine pm_R_lo pm_M257 (pc' := 55) rfl rfl rfl ?_
              refine pm_R_lo pm_M257 (pc' := 56) rfl rfl rfl ?_
              refine pm_R_cv pm_M257 (pc' := 59) (a := 41) (ra := [.int a2, .int a1]) (rest := []) (ls' := [.ref 41, .int a1, .int a2]) rfl rfl (Or.inl rfl) pm_M255 T15.2.1 rfl (by decide) (Nat.lt_of_lt_of_le (by decide) T15.1) rfl rfl (Nat.le_of_ble_eq_true rfl) rfl rfl ?_
              refine pm_R_lo pm_M255 (pc' := 1) rfl rfl rfl ?_
              refine rf_R_get pm_M255 T15 (pc' := 4) (v := .ref 49) rfl rfl rfl rfl ?_
              refine pm_R_op pm_M255 (pc' := 7) (st' := [.int 152, .ref 49]) rfl rfl rfl ?_
              refine pm_R_lo pm_M255 (pc' := 8) rfl rfl rfl ?_
              have B41 : sf_B 0 1 (m12 44) := T15.2.2.1 44
              refine rf_R_get pm_M255 T15 (pc' := 11) (v := .int (m12 44)) rfl rfl rfl rfl ?_
              refine sf_R_imul pm_M255 (pc' := 12) rfl rfl sf_k152 B41 (by decide) (by decide) (by decide) (fun z42 e43 B44 => ?_)
              refine pm_R_op pm_M255 (pc' := 13) (st' := [.int 2, .int z42, .ref 49]) rfl rfl rfl ?_
              refine sf_R_iadd pm_M255 (pc' := 14) rfl rfl B44 sf_k2 (by decide) (by decide) (fun z45 e46 B47 => ?_)
              refine pm_R_op pm_M255 (pc' := 15) (st' := [.int 3, .int z45, .ref 49]) rfl rfl rfl ?_
              refine pm_R_lo pm_M255 (pc' := 16) rfl rfl rfl ?_
              refine sf_R_imul pm_M255 (pc' := 17) rfl rfl sf_k3 B31 (by decide) (by decide) (by decide) (fun z48 e49 B50 => ?_)
              refine sf_R_iadd pm_M255 (pc' := 18) rfl rfl B47 B50 (by decide) (by decide) (fun z51 e52 B53 => ?_)
              refine pm_R_lo pm_M255 (pc' := 19) rfl rfl rfl ?_
              refine sf_R_iadd pm_M255 (pc' := 20) rfl rfl B53 B40 (by decide) (by decide) (fun z54 e55 B56 => ?_)
              obtain ⟨f57, e58, b59⟩ := T15.2.2.2.1 49 (by decide) (by decide)
              refine rf_R_ild pm_M255 T15 (pc' := 21) rfl e58 (by decide) (sf_in B56 (by decide) (by decide)) rfl (fun z60 ez61 => ?_)
              refine pm_R_ret pm_M255 (r := some (.int z60)) rfl (pm_ret_i _) ?_
              show pm_R _ 257 59 [.ref 41, .int a0, .int a1, .int a2] [.int z60] _ _
              exact pm_R_ret pm_M257 (r := some (.int z60)) rfl (pm_ret_i _) (K z60 m12 w13 h14 T15 F18 W19)
            · have B62 : sf_B 3 3 a2 := sf_eqL (Classical.not_not.mp c39) sf_k3
              refine pm_R_lo pm_M257 (pc' := 45) rfl rfl rfl ?_
              refine rf_R_get pm_M257 T15 (pc' := 48) (v := .ref 68) rfl rfl rfl rfl ?_
              refine pm_R_lo pm_M257 (pc' := 49) rfl rfl rfl ?_
              obtain ⟨f63, e64⟩ := T15.2.2.2.1 68 (by decide) (by decide)
              refine rf_R_ild pm_M257 T15 (pc' := 50) rfl e64 (by decide) (sf_in B31 (by decide) (by decide)) rfl (fun z66 ez67 => ?_)
              refine pm_R_br pm_M257 (pc' := 59) rfl rfl ?_
              exact pm_R_ret pm_M257 (r := some (.int z66)) rfl (pm_ret_i _) (K z66 m12 w13 h14 T15 F18 W19)

set_option maxRecDepth 100000 in
set_option maxHeartbeats 4000000 in
/-- SilentTableModel.looks -/
theorem rf_c258 {d : Nat} {m : Nat → Int32} {w : Int64} {h : pm_H} {Q : Option Value → pm_H → Prop} {a0 : Int32} {a1 : Int32} {a2 : Int32} (T : rf_T m w h)  (K : ∀ (r : Int32) (m' : Nat → Int32) (w' : Int64) (h' : pm_H), rf_T m' w' h' → rf_G [41, 67, 68] h h' → rf_W [0, 42, 43, 44] m m' → Q (some (.int r)) h') : pm_R (d + 3) 258 0 [.ref 41, .int a0, .int a1, .int a2] [] h Q := by
  refine pm_R_lo pm_M258 (pc' := 1) rfl rfl rfl ?_
  refine pm_R_op pm_M258 (pc' := 2) (st' := [.int 0, .ref 41]) rfl rfl rfl ?_
  refine rf_R_put pm_M258 T (pc' := 5) rfl rfl rfl (by decide) rfl rfl sf_k0 rfl rfl (fun h1 m4 em5 T2 F3 => ?_)
  have F6 := (rf_G.refl [41, 67, 68] h).trans F3 (by decide)
  have B7 : sf_B 0 0 (m4 0) := by rw [em5]; exact sf_k0
  have W9 : rf_W [0, 42, 43, 44] m m4 := by rw [em5]; exact (rf_W.refl [0, 42, 43, 44] m).put (by decide)
  refine pm_R_lo pm_M258 (pc' := 6) rfl rfl rfl ?_
  refine pm_R_lo pm_M258 (pc' := 7) rfl rfl rfl ?_
  refine pm_R_cv pm_M258 (pc' := 10) (a := 41) (ra := [.int a0]) (rest := []) (ls' := [.ref 41, .int a0, pm_no, pm_no, pm_no, pm_no]) rfl rfl (Or.inl rfl) pm_M254 T2.2.1 rfl (by decide) (Nat.lt_of_lt_of_le (by decide) T2.1) rfl rfl (Nat.le_of_ble_eq_true rfl) rfl rfl ?_
  refine rf_c254 (d := d + 0) T2  (fun r10 m12 w13 h14 T15 F16 W17 B11 => ?_)
  have F18 := F6.trans F16 (by decide)
  have W19 : rf_W [0, 42, 43, 44] m m12 := W9.trans W17 (by decide)
  show pm_R _ 258 10 [.ref 41, .int a0, .int a1, .int a2] [.int r10] _ _
  refine pm_R_ifc pm_M258 (t := 47) (pc' := 13) rfl rfl rfl (fun c20 => ?_) (fun c20 => ?_)
  · have B21 : sf_B 0 0 r10 := sf_eqL c20 sf_k0
    refine pm_R_op pm_M258 (pc' := 49) (st' := [.int (-2)]) rfl rfl rfl ?_
    exact pm_R_ret pm_M258 (r := some (.int (-2))) rfl rfl (K (-2) m12 w13 h14 T15 F18 W19)
  · have B22 : sf_B 1 1 r10 := sf_neL0 c20 sf_k0 B11
    refine pm_R_lo pm_M258 (pc' := 14) rfl rfl rfl ?_
    refine pm_R_op pm_M258 (pc' := 15) (st' := [.int 0, .int a1]) rfl rfl rfl ?_
    refine pm_R_lo pm_M258 (pc' := 16) rfl rfl rfl ?_
    have B23 : sf_B 0 50 (m12 43) := T15.2.2.1 43
    refine rf_R_get pm_M258 T15 (pc' := 19) (v := .int (m12 43)) rfl rfl rfl rfl ?_
    refine pm_R_cs pm_M258 (pc' := 22) (ra := [.int (m12 43), .int 0, .int a1]) (rest := []) (ls' := [.int a1, .int 0, .int (m12 43)]) rfl rfl (Or.inl rfl) pm_M174 rfl rfl (Nat.le_of_ble_eq_true rfl) rfl rfl ?_
    refine pm_R_lo pm_M174 (pc' := 1) rfl rfl rfl ?_
    refine pm_R_lo pm_M174 (pc' := 2) rfl rfl rfl ?_
    refine pm_R_icmp pm_M174 (t := 14) (pc' := 5) rfl rfl rfl (fun c24 => ?_) (fun c24 => ?_)
    · have B25 : sf_B (-2147483648) (-1) a1 := sf_ltL c24 (sf_any a1) sf_k0
      refine pm_R_op pm_M174 (pc' := 15) (st' := [.int 0]) rfl rfl rfl ?_
      refine pm_R_ret pm_M174 (r := some (.int 0)) rfl rfl ?_
      show pm_R _ 258 22 [.ref 41, .int a0, .int a1, .int a2] [.int 0] _ _
      refine pm_R_br pm_M258 (pc' := 47) (st' := []) rfl rfl ?_
      refine pm_R_op pm_M258 (pc' := 49) (st' := [.int (-2)]) rfl rfl rfl ?_
      exact pm_R_ret pm_M258 (r := some (.int (-2))) rfl rfl (K (-2) m12 w13 h14 T15 F18 W19)
    · have B26 : sf_B 0 2147483647 a1 := sf_leR (Int32.not_lt.mp c24) sf_k0 (sf_any a1)
      refine pm_R_lo pm_M174 (pc' := 6) rfl rfl rfl ?_
      refine pm_R_lo pm_M174 (pc' := 7) rfl rfl rfl ?_
      refine pm_R_icmp pm_M174 (t := 14) (pc' := 10) rfl rfl rfl (fun c27 => ?_) (fun c27 => ?_)
      · have B28 : sf_B 1 2147483647 a1 := sf_ltR c27 B23 B26
        refine pm_R_op pm_M174 (pc' := 15) (st' := [.int 0]) rfl rfl rfl ?_
        refine pm_R_ret pm_M174 (r := some (.int 0)) rfl rfl ?_
        show pm_R _ 258 22 [.ref 41, .int a0, .int a1, .int a2] [.int 0] _ _
        refine pm_R_br pm_M258 (pc' := 47) (st' := []) rfl rfl ?_
        refine pm_R_op pm_M258 (pc' := 49) (st' := [.int (-2)]) rfl rfl rfl ?_
        exact pm_R_ret pm_M258 (r := some (.int (-2))) rfl rfl (K (-2) m12 w13 h14 T15 F18 W19)
      · have B29 : sf_B 0 50 a1 := sf_leL (Int32.not_lt.mp c27) B26 B23
        refine pm_R_op pm_M174 (pc' := 11) (st' := [.int 1]) rfl rfl rfl ?_
        refine pm_R_br pm_M174 (pc' := 15) rfl rfl ?_
        refine pm_R_ret pm_M174 (r := some (.int 1)) rfl rfl ?_
        show pm_R _ 258 22 [.ref 41, .int a0, .int a1, .int a2] [.int 1] _ _
        refine pm_R_br pm_M258 (pc' := 25) (st' := []) rfl rfl ?_
        refine pm_R_lo pm_M258 (pc' := 26) rfl rfl rfl ?_
        refine pm_R_lo pm_M258 (pc' := 27) rfl rfl rfl ?_
        refine pm_R_cv pm_M258 (pc' := 30) (a := 41) (ra := [.int a2]) (rest := []) (ls' := [.ref 41, .int a2]) rfl rfl (Or.inl rfl) pm_M259 T15.2.1 rfl (by decide) (Nat.lt_of_lt_of_le (by decide) T15.1) rfl rfl (Nat.le_of_ble_eq_true rfl) rfl rfl ?_
        refine pm_R_lo pm_M259 (pc' := 1) rfl rfl rfl ?_
        refine pm_R_op pm_M259 (pc' := 2) (st' := [.int 0, .int a2]) rfl rfl rfl ?_
        refine pm_R_lo pm_M259 (pc' := 3) rfl rfl rfl ?_
        have B30 : sf_B 0 6 (m12 42) := T15.2.2.1 42
        refine rf_R_get pm_M259 T15 (pc' := 6) (v := .int (m12 42)) rfl rfl rfl rfl ?_
        refine pm_R_op pm_M259 (pc' := 7) (st' := [.int 1, .int (m12 42), .int 0, .int a2]) rfl rfl rfl ?_
        refine sf_R_isub pm_M259 (pc' := 8) rfl rfl B30 sf_k1 (by decide) (by decide) (fun z31 e32 B33 => ?_)
        refine pm_R_cs pm_M259 (pc' := 11) (ra := [.int z31, .int 0, .int a2]) (rest := []) (ls' := [.int a2, .int 0, .int z31]) rfl rfl (Or.inl rfl) pm_M174 rfl rfl (Nat.le_of_ble_eq_true rfl) rfl rfl ?_
        refine pm_R_lo pm_M174 (pc' := 1) rfl rfl rfl ?_
        refine pm_R_lo pm_M174 (pc' := 2) rfl rfl rfl ?_
        refine pm_R_icmp pm_M174 (t := 14) (pc' := 5) rfl rfl rfl (fun c34 => ?_) (fun c34 => ?_)
        · have B35 : sf_B (-2147483648) (-1) a2 := sf_ltL c34 (sf_any a2) sf_k0
          refine pm_R_op pm_M174 (pc' := 15) (st' := [.int 0]) rfl rfl rfl ?_
          refine pm_R_ret pm_M174 (r := some (.int 0)) rfl rfl ?_
          show pm_R _ 259 11 [.ref 41, .int a2] [.int 0] _ _
          refine pm_R_ret pm_M259 (r := some (.int 0)) rfl rfl ?_
          show pm_R _ 258 30 [.ref 41, .int a0, .int a1, .int a2] [.int 0] _ _
          refine pm_R_br pm_M258 (pc' := 47) (st' := []) rfl rfl ?_
          refine pm_R_op pm_M258 (pc' := 49) (st' := [.int (-2)]) rfl rfl rfl ?_
          exact pm_R_ret pm_M258 (r := some (.int (-2))) rfl rfl (K (-2) m12 w13 h14 T15 F18 W19)
        · have B36 : sf_B 0 2147483647 a2 := sf_leR (Int32.not_lt.mp c34) sf_k0 (sf_any a2)
          refine pm_R_lo pm_M174 (pc' := 6) rfl rfl rfl ?_
          refine pm_R_lo pm_M174 (pc' := 7) rfl rfl rfl ?_
          refine pm_R_icmp pm_M174 (t := 14) (pc' := 10) rfl rfl rfl (fun c37 => ?_) (fun c37 => ?_)
          · skip
            refine pm_R_op pm_M174 (pc' := 15) (st' := [.int 0]) rfl rfl rfl ?_
            refine pm_R_ret pm_M174 (r := some (.int 0)) rfl rfl ?_
            show pm_R _ 259 11 [.ref 41, .int a2] [.int 0] _ _
            refine pm_R_ret pm_M259 (r := some (.int 0)) rfl rfl ?_
            show pm_R _ 258 30 [.ref 41, .int a0, .int a1, .int a2] [.int 0] _ _
            refine pm_R_br pm_M258 (pc' := 47) (st' := []) rfl rfl ?_
            refine pm_R_op pm_M258 (pc' := 49) (st' := [.int (-2)]) rfl rfl rfl ?_
            exact pm_R_ret pm_M258 (r := some (.int (-2))) rfl rfl (K (-2) m12 w13 h14 T15 F18 W19)
          · have B38 : sf_B 0 5 a2 := sf_leL (Int32.not_lt.mp c37) B36 B33
            have B39 : sf_B 0 5 z31 := sf_leR (Int32.not_lt.mp c37) B36 B33
            refine pm_R_op pm_M174 (pc' := 11) (st' := [.int 1]) rfl rfl rfl ?_
            refine pm_R_br pm_M174 (pc' := 15) rfl rfl ?_
            refine pm_R_ret pm_M174 (r := some (.int 1)) rfl rfl ?_
            show pm_R _ 259 11 [.ref 41, .int a2] [.int 1] _ _
            refine pm_R_ret pm_M259 (r := some (.int 1)) rfl rfl ?_
            show pm_R _ 258 30 [.ref 41, .int a0, .int a1, .int a2] [.int 1] _ _
            refine pm_R_br pm_M258 (pc' := 33) (st' := []) rfl rfl ?_
            refine pm_R_lo pm_M258 (pc' := 34) rfl rfl rfl ?_
            refine rf_R_get pm_M258 T15 (pc' := 37) (v := .ref 67) rfl rfl rfl rfl ?_
            refine pm_R_op pm_M258 (pc' := 39) (st' := [.int 6, .ref 67]) rfl rfl rfl ?_
            refine pm_R_lo pm_M258 (pc' := 40) rfl rfl rfl ?_
            refine sf_R_imul pm_M258 (pc' := 41) rfl rfl sf_k6 B29 (by decide) (by decide) (by decide) (fun z40 e41 B42 => ?_)
            refine pm_R_lo pm_M258 (pc' := 42) rfl rfl rfl ?_
            refine sf_R_iadd pm_M258 (pc' := 43) rfl rfl B42 B38 (by decide) (by decide) (fun z43 e44 B45 => ?_)
            obtain ⟨f46, e47⟩ := T15.2.2.2.1 67 (by decide) (by decide)
            refine rf_R_ild pm_M258 T15 (pc' := 44) rfl e47 (by decide) (sf_in B45 (by decide) (by decide)) rfl (fun z49 ez50 => ?_)
            refine pm_R_br pm_M258 (pc' := 49) rfl rfl ?_
            exact pm_R_ret pm_M258 (r := some (.int z49)) rfl (pm_ret_i _) (K z49 m12 w13 h14 T15 F18 W19)

set_option maxRecDepth 100000 in
set_option maxHeartbeats 4000000 in
/-- SilentTableModel.passed -/
theorem rf_c265 {d : Nat} {m : Nat → Int32} {w : Int64} {h : pm_H} {Q : Option Value → pm_H → Prop} {a0 : Int32} {a1 : Int32} {a2 : Int32} (T : rf_T m w h)  (K : ∀ (r : Int32) (m' : Nat → Int32) (w' : Int64) (h' : pm_H), rf_T m' w' h' → rf_G [41, 67, 68] h h' → rf_W [0, 42, 43, 44] m m' → sf_B (-1) 5 r → Q (some (.int r)) h') : pm_R (d + 4) 265 0 [.ref 41, .int a0, .int a1, .int a2] [] h Q := by
  refine pm_R_lo pm_M265 (pc' := 1) rfl rfl rfl ?_
  refine pm_R_op pm_M265 (pc' := 2) (st' := [.int 0, .ref 41]) rfl rfl rfl ?_
  refine rf_R_put pm_M265 T (pc' := 5) rfl rfl rfl (by decide) rfl rfl sf_k0 rfl rfl (fun h1 m4 em5 T2 F3 => ?_)
  have F6 := (rf_G.refl [41, 67, 68] h).trans F3 (by decide)
  have B7 : sf_B 0 0 (m4 0) := by rw [em5]; exact sf_k0
  have W9 : rf_W [0, 42, 43, 44] m m4 := by rw [em5]; exact (rf_W.refl [0, 42, 43, 44] m).put (by decide)
  refine pm_R_lo pm_M265 (pc' := 6) rfl rfl rfl ?_
  refine pm_R_lo pm_M265 (pc' := 7) rfl rfl rfl ?_
  refine pm_R_lo pm_M265 (pc' := 8) rfl rfl rfl ?_
  refine pm_R_lo pm_M265 (pc' := 9) rfl rfl rfl ?_
  refine pm_R_cv pm_M265 (pc' := 12) (a := 41) (ra := [.int a2, .int a1, .int a0]) (rest := []) (ls' := [.ref 41, .int a0, .int a1, .int a2, pm_no, pm_no, pm_no, pm_no, pm_no]) rfl rfl (Or.inl rfl) pm_M266 T2.2.1 rfl (by decide) (Nat.lt_of_lt_of_le (by decide) T2.1) rfl rfl (Nat.le_of_ble_eq_true rfl) rfl rfl ?_
  refine rf_c266 (d := d + 0) T2  (fun r10 m12 w13 h14 T15 F16 W17 B11 => ?_)
  have F18 := F6.trans F16 (by decide)
  have W19 : rf_W [0, 42, 43, 44] m m12 := W9.trans W17 (by decide)
  show pm_R _ 265 12 [.ref 41, .int a0, .int a1, .int a2] [.int r10] _ _
  exact pm_R_ret pm_M265 (r := some (.int r10)) rfl (pm_ret_i _) (K r10 m12 w13 h14 T15 F18 W19 B11)

set_option maxRecDepth 100000 in
set_option maxHeartbeats 4000000 in
/-- SilentTableModel.watch -/
theorem rf_c269 {d : Nat} {m : Nat → Int32} {w : Int64} {h : pm_H} {Q : Option Value → pm_H → Prop} {a0 : Int32} {a1 : Int32} {a2 : Int32} (T : rf_T m w h)  (K : ∀ (r : Int32) (m' : Nat → Int32) (w' : Int64) (h' : pm_H), rf_T m' w' h' → rf_G [41, 67, 68] h h' → rf_W [0, 42, 43, 44] m m' → sf_B (-1) 2147483647 r → Q (some (.int r)) h') : pm_R (d + 3) 269 0 [.ref 41, .int a0, .int a1, .int a2, pm_no, pm_no, pm_no, pm_no] [] h Q := by
  refine pm_R_lo pm_M269 (pc' := 1) rfl rfl rfl ?_
  refine pm_R_op pm_M269 (pc' := 2) (st' := [.int 0, .ref 41]) rfl rfl rfl ?_
  refine rf_R_put pm_M269 T (pc' := 5) rfl rfl rfl (by decide) rfl rfl sf_k0 rfl rfl (fun h1 m4 em5 T2 F3 => ?_)
  have F6 := (rf_G.refl [41, 67, 68] h).trans F3 (by decide)
  have B7 : sf_B 0 0 (m4 0) := by rw [em5]; exact sf_k0
  have W9 : rf_W [0, 42, 43, 44] m m4 := by rw [em5]; exact (rf_W.refl [0, 42, 43, 44] m).put (by decide)
  refine pm_R_lo pm_M269 (pc' := 6) rfl rfl rfl ?_
  refine pm_R_lo pm_M269 (pc' := 7) rfl rfl rfl ?_
  refine pm_R_cv pm_M269 (pc' := 10) (a := 41) (ra := [.int a0]) (rest := []) (ls' := [.ref 41, .int a0, pm_no, pm_no, pm_no, pm_no]) rfl rfl (Or.inl rfl) pm_M254 T2.2.1 rfl (by decide) (Nat.lt_of_lt_of_le (by decide) T2.1) rfl rfl (Nat.le_of_ble_eq_true rfl) rfl rfl ?_
  refine rf_c254 (d := d + 0) T2  (fun r10 m12 w13 h14 T15 F16 W17 B11 => ?_)
  have F18 := F6.trans F16 (by decide)
  have W19 : rf_W [0, 42, 43, 44] m m12 := W9.trans W17 (by decide)
  show pm_R _ 269 10 [.ref 41, .int a0, .int a1, .int a2, pm_no, pm_no, pm_no, pm_no] [.int r10] _ _
  refine pm_R_ifc pm_M269 (t := 29) (pc' := 13) rfl rfl rfl (fun c20 => ?_) (fun c20 => ?_)
  · have B21 : sf_B 0 0 r10 := sf_eqL c20 sf_k0
    refine pm_R_op pm_M269 (pc' := 30) (st' := [.int (-1)]) rfl rfl rfl ?_
    exact pm_R_ret pm_M269 (r := some (.int (-1))) rfl rfl (K (-1) m12 w13 h14 T15 F18 W19 (sf_weak sf_kn1 (by decide) (by decide)))
  · have B22 : sf_B 1 1 r10 := sf_neL0 c20 sf_k0 B11
    refine pm_R_lo pm_M269 (pc' := 14) rfl rfl rfl ?_
    refine pm_R_lo pm_M269 (pc' := 15) rfl rfl rfl ?_
    refine pm_R_cv pm_M269 (pc' := 18) (a := 41) (ra := [.int a1]) (rest := []) (ls' := [.ref 41, .int a1]) rfl rfl (Or.inl rfl) pm_M259 T15.2.1 rfl (by decide) (Nat.lt_of_lt_of_le (by decide) T15.1) rfl rfl (Nat.le_of_ble_eq_true rfl) rfl rfl ?_
    refine pm_R_lo pm_M259 (pc' := 1) rfl rfl rfl ?_
    refine pm_R_op pm_M259 (pc' := 2) (st' := [.int 0, .int a1]) rfl rfl rfl ?_
    refine pm_R_lo pm_M259 (pc' := 3) rfl rfl rfl ?_
    have B23 : sf_B 0 6 (m12 42) := T15.2.2.1 42
    refine rf_R_get pm_M259 T15 (pc' := 6) (v := .int (m12 42)) rfl rfl rfl rfl ?_
    refine pm_R_op pm_M259 (pc' := 7) (st' := [.int 1, .int (m12 42), .int 0, .int a1]) rfl rfl rfl ?_
    refine sf_R_isub pm_M259 (pc' := 8) rfl rfl B23 sf_k1 (by decide) (by decide) (fun z24 e25 B26 => ?_)
    refine pm_R_cs pm_M259 (pc' := 11) (ra := [.int z24, .int 0, .int a1]) (rest := []) (ls' := [.int a1, .int 0, .int z24]) rfl rfl (Or.inl rfl) pm_M174 rfl rfl (Nat.le_of_ble_eq_true rfl) rfl rfl ?_
    refine pm_R_lo pm_M174 (pc' := 1) rfl rfl rfl ?_
    refine pm_R_lo pm_M174 (pc' := 2) rfl rfl rfl ?_
    refine pm_R_icmp pm_M174 (t := 14) (pc' := 5) rfl rfl rfl (fun c27 => ?_) (fun c27 => ?_)
    · have B28 : sf_B (-2147483648) (-1) a1 := sf_ltL c27 (sf_any a1) sf_k0
      refine pm_R_op pm_M174 (pc' := 15) (st' := [.int 0]) rfl rfl rfl ?_
      refine pm_R_ret pm_M174 (r := some (.int 0)) rfl rfl ?_
      show pm_R _ 259 11 [.ref 41, .int a1] [.int 0] _ _
      refine pm_R_ret pm_M259 (r := some (.int 0)) rfl rfl ?_
      show pm_R _ 269 18 [.ref 41, .int a0, .int a1, .int a2, pm_no, pm_no, pm_no, pm_no] [.int 0] _ _
      refine pm_R_br pm_M269 (pc' := 29) (st' := []) rfl rfl ?_
      refine pm_R_op pm_M269 (pc' := 30) (st' := [.int (-1)]) rfl rfl rfl ?_
      exact pm_R_ret pm_M269 (r := some (.int (-1))) rfl rfl (K (-1) m12 w13 h14 T15 F18 W19 (sf_weak sf_kn1 (by decide) (by decide)))
    · have B29 : sf_B 0 2147483647 a1 := sf_leR (Int32.not_lt.mp c27) sf_k0 (sf_any a1)
      refine pm_R_lo pm_M174 (pc' := 6) rfl rfl rfl ?_
      refine pm_R_lo pm_M174 (pc' := 7) rfl rfl rfl ?_
      refine pm_R_icmp pm_M174 (t := 14) (pc' := 10) rfl rfl rfl (fun c30 => ?_) (fun c30 => ?_)
      · skip
        refine pm_R_op pm_M174 (pc' := 15) (st' := [.int 0]) rfl rfl rfl ?_
        refine pm_R_ret pm_M174 (r := some (.int 0)) rfl rfl ?_
        show pm_R _ 259 11 [.ref 41, .int a1] [.int 0] _ _
        refine pm_R_ret pm_M259 (r := some (.int 0)) rfl rfl ?_
        show pm_R _ 269 18 [.ref 41, .int a0, .int a1, .int a2, pm_no, pm_no, pm_no, pm_no] [.int 0] _ _
        refine pm_R_br pm_M269 (pc' := 29) (st' := []) rfl rfl ?_
        refine pm_R_op pm_M269 (pc' := 30) (st' := [.int (-1)]) rfl rfl rfl ?_
        exact pm_R_ret pm_M269 (r := some (.int (-1))) rfl rfl (K (-1) m12 w13 h14 T15 F18 W19 (sf_weak sf_kn1 (by decide) (by decide)))
      · have B31 : sf_B 0 5 a1 := sf_leL (Int32.not_lt.mp c30) B29 B26
        have B32 : sf_B 0 5 z24 := sf_leR (Int32.not_lt.mp c30) B29 B26
        refine pm_R_op pm_M174 (pc' := 11) (st' := [.int 1]) rfl rfl rfl ?_
        refine pm_R_br pm_M174 (pc' := 15) rfl rfl ?_
        refine pm_R_ret pm_M174 (r := some (.int 1)) rfl rfl ?_
        show pm_R _ 259 11 [.ref 41, .int a1] [.int 1] _ _
        refine pm_R_ret pm_M259 (r := some (.int 1)) rfl rfl ?_
        show pm_R _ 269 18 [.ref 41, .int a0, .int a1, .int a2, pm_no, pm_no, pm_no, pm_no] [.int 1] _ _
        refine pm_R_br pm_M269 (pc' := 21) (st' := []) rfl rfl ?_
        refine pm_R_lo pm_M269 (pc' := 22) rfl rfl rfl ?_
        refine rf_R_get pm_M269 T15 (pc' := 25) (v := .int (m12 42)) rfl rfl rfl rfl ?_
        refine pm_R_op pm_M269 (pc' := 26) (st' := [.int 1, .int (m12 42)]) rfl rfl rfl ?_
        refine pm_R_icmp pm_M269 (t := 31) (pc' := 29) rfl rfl rfl (fun c33 => ?_) (fun c33 => ?_)
        · skip
          refine pm_R_op pm_M269 (pc' := 32) (st' := [.int (-1)]) rfl rfl rfl ?_
          refine pm_R_lo pm_M269 (pc' := 34) (ls' := [.ref 41, .int a0, .int a1, .int a2, .int (-1), pm_no, pm_no, pm_no]) (st' := []) rfl rfl rfl ?_
          refine pm_R_op pm_M269 (pc' := 35) (st' := [.int (-1)]) rfl rfl rfl ?_
          refine pm_R_lo pm_M269 (pc' := 37) (ls' := [.ref 41, .int a0, .int a1, .int a2, .int (-1), .int (-1), pm_no, pm_no]) (st' := []) rfl rfl rfl ?_
          refine pm_R_op pm_M269 (pc' := 38) (st' := [.int 0]) rfl rfl rfl ?_
          refine pm_R_lo pm_M269 (pc' := 40) (ls' := [.ref 41, .int a0, .int a1, .int a2, .int (-1), .int (-1), .int 0, pm_no]) (st' := []) rfl rfl rfl ?_
          have L_291 : ∀ (N : Nat) (x4_291 : Int32) (x5_291 : Int32) (x6_291 : Int32) (g7_291 : Value), sf_B (-1) 2147483647 x4_291 → sf_B (-1) 2147483647 x5_291 → sf_B 0 6 x6_291 → g7_291.category = 1 → (6 - x6_291.toInt).toNat = N → pm_R (d + 3) 269 40 [.ref 41, .int a0, .int a1, .int a2, .int x4_291, .int x5_291, .int x6_291, g7_291] [] h14 Q := by
            intro N
            induction N using Nat.strongRecOn with
            | ind N ih_291 =>
              intro x4_291 x5_291 x6_291 g7_291 Bx4_291 Bx5_291 Bx6_291 Cg7_291 hN_291
              refine pm_R_lo pm_M269 (pc' := 42) rfl rfl rfl ?_
              refine pm_R_lo pm_M269 (pc' := 43) rfl rfl rfl ?_
              refine rf_R_get pm_M269 T15 (pc' := 46) (v := .int (m12 42)) rfl rfl rfl rfl ?_
              refine pm_R_icmp pm_M269 (t := 105) (pc' := 49) rfl rfl rfl (fun c292 => ?_) (fun c292 => ?_)
              · skip
                refine pm_R_lo pm_M269 (pc' := 106) rfl rfl rfl ?_
                refine pm_R_ifc pm_M269 (t := 114) (pc' := 109) rfl rfl rfl (fun c293 => ?_) (fun c293 => ?_)
                · have B294 : sf_B 0 0 a2 := sf_eqL c293 sf_k0
                  refine pm_R_lo pm_M269 (pc' := 116) rfl rfl rfl ?_
                  exact pm_R_ret pm_M269 (r := some (.int x4_291)) rfl (pm_ret_i _) (K x4_291 m12 w13 h14 T15 F18 W19 Bx4_291)
                · skip
                  refine pm_R_lo pm_M269 (pc' := 111) rfl rfl rfl ?_
                  refine pm_R_br pm_M269 (pc' := 116) rfl rfl ?_
                  exact pm_R_ret pm_M269 (r := some (.int x5_291)) rfl (pm_ret_i _) (K x5_291 m12 w13 h14 T15 F18 W19 Bx5_291)
              · have B295 : sf_B 0 5 x6_291 := sf_ltL (Int32.not_le.mp c292) Bx6_291 B23
                have B296 : sf_B 1 6 (m12 42) := sf_ltR (Int32.not_le.mp c292) Bx6_291 B23
                refine pm_R_lo pm_M269 (pc' := 51) rfl rfl rfl ?_
                refine pm_R_lo pm_M269 (pc' := 52) rfl rfl rfl ?_
                refine pm_R_icmp pm_M269 (t := 59) (pc' := 55) rfl rfl rfl (fun c297 => ?_) (fun c297 => ?_)
                · skip
                  refine pm_R_lo pm_M269 (pc' := 60) rfl rfl rfl ?_
                  refine pm_R_lo pm_M269 (pc' := 62) rfl rfl rfl ?_
                  refine pm_R_cv pm_M269 (pc' := 65) (a := 41) (ra := [.int x6_291]) (rest := []) (ls' := [.ref 41, .int x6_291, pm_no, pm_no]) rfl rfl (Or.inl rfl) pm_M270 T15.2.1 rfl (by decide) (Nat.lt_of_lt_of_le (by decide) T15.1) rfl rfl (Nat.le_of_ble_eq_true rfl) rfl rfl ?_
                  refine rf_c270 (d := d + 0) T15  (fun r298 => ?_)
                  show pm_R _ 269 65 [.ref 41, .int a0, .int a1, .int a2, .int x4_291, .int x5_291, .int x6_291, g7_291] [.int r298] _ _
                  refine pm_R_lo pm_M269 (pc' := 67) (ls' := [.ref 41, .int a0, .int a1, .int a2, .int x4_291, .int x5_291, .int x6_291, .int r298]) (st' := []) rfl rfl rfl ?_
                  refine pm_R_lo pm_M269 (pc' := 69) rfl rfl rfl ?_
                  refine pm_R_lo pm_M269 (pc' := 71) rfl rfl rfl ?_
                  refine pm_R_icmp pm_M269 (t := 79) (pc' := 74) rfl rfl rfl (fun c306 => ?_) (fun c306 => ?_)
                  · skip
                    refine pm_R_lo pm_M269 (pc' := 81) rfl rfl rfl ?_
                    refine pm_R_lo pm_M269 (pc' := 83) (ls' := [.ref 41, .int a0, .int a1, .int a2, .int x4_291, .int x5_291, .int x6_291, .int r298]) (st' := []) rfl rfl rfl ?_
                    refine pm_R_lo pm_M269 (pc' := 85) rfl rfl rfl ?_
                    refine pm_R_lo pm_M269 (pc' := 87) rfl rfl rfl ?_
                    refine pm_R_icmp pm_M269 (t := 95) (pc' := 90) rfl rfl rfl (fun c307 => ?_) (fun c307 => ?_)
                    · skip
                      refine pm_R_lo pm_M269 (pc' := 97) rfl rfl rfl ?_
                      refine pm_R_lo pm_M269 (pc' := 99) (ls' := [.ref 41, .int a0, .int a1, .int a2, .int x4_291, .int x5_291, .int x6_291, .int r298]) (st' := []) rfl rfl rfl ?_
                      refine sf_R_iinc pm_M269 (pc' := 102) (ls' := fun z => [.ref 41, .int a0, .int a1, .int a2, .int x4_291, .int x5_291, .int z, .int r298]) rfl B295 rfl (by decide) (by decide) (by decide) (fun _ => rfl) rfl (fun z308 e309 B310 => ?_)
                      show pm_R _ 269 102 [.ref 41, .int a0, .int a1, .int a2, .int x4_291, .int x5_291, .int z308, .int r298] [] _ _
                      refine pm_R_br pm_M269 (pc' := 40) rfl rfl ?_
                      exact ih_291 _ (sf_up hN_291 e309 B295 (by decide) (by decide)) x4_291 x5_291 z308 (.int r298) Bx4_291 Bx5_291 (sf_weak B310 (by decide) (by decide)) rfl rfl
                    · have B311 : sf_B (-1) 2147483646 x5_291 := sf_ltL (Int32.not_le.mp c307) Bx5_291 (sf_any r298)
                      have B312 : sf_B 0 2147483647 r298 := sf_ltR (Int32.not_le.mp c307) Bx5_291 (sf_any r298)
                      refine pm_R_lo pm_M269 (pc' := 92) rfl rfl rfl ?_
                      refine pm_R_br pm_M269 (pc' := 97) rfl rfl ?_
                      refine pm_R_lo pm_M269 (pc' := 99) (ls' := [.ref 41, .int a0, .int a1, .int a2, .int x4_291, .int r298, .int x6_291, .int r298]) (st' := []) rfl rfl rfl ?_
                      refine sf_R_iinc pm_M269 (pc' := 102) (ls' := fun z => [.ref 41, .int a0, .int a1, .int a2, .int x4_291, .int r298, .int z, .int r298]) rfl B295 rfl (by decide) (by decide) (by decide) (fun _ => rfl) rfl (fun z313 e314 B315 => ?_)
                      show pm_R _ 269 102 [.ref 41, .int a0, .int a1, .int a2, .int x4_291, .int r298, .int z313, .int r298] [] _ _
                      refine pm_R_br pm_M269 (pc' := 40) rfl rfl ?_
                      exact ih_291 _ (sf_up hN_291 e314 B295 (by decide) (by decide)) x4_291 r298 z313 (.int r298) Bx4_291 (sf_weak B312 (by decide) (by decide)) (sf_weak B315 (by decide) (by decide)) rfl rfl
                  · have B316 : sf_B (-1) 2147483646 x5_291 := sf_ltL (Int32.not_le.mp c306) Bx5_291 (sf_any r298)
                    have B317 : sf_B 0 2147483647 r298 := sf_ltR (Int32.not_le.mp c306) Bx5_291 (sf_any r298)
                    refine pm_R_lo pm_M269 (pc' := 76) rfl rfl rfl ?_
                    refine pm_R_br pm_M269 (pc' := 81) rfl rfl ?_
                    refine pm_R_lo pm_M269 (pc' := 83) (ls' := [.ref 41, .int a0, .int a1, .int a2, .int x6_291, .int x5_291, .int x6_291, .int r298]) (st' := []) rfl rfl rfl ?_
                    refine pm_R_lo pm_M269 (pc' := 85) rfl rfl rfl ?_
                    refine pm_R_lo pm_M269 (pc' := 87) rfl rfl rfl ?_
                    refine pm_R_icmp pm_M269 (t := 95) (pc' := 90) rfl rfl rfl (fun c318 => ?_) (fun c318 => ?_)
                    · have B319 : sf_B 0 2147483646 r298 := sf_leL c318 B317 B316
                      have B320 : sf_B 0 2147483646 x5_291 := sf_leR c318 B317 B316
                      refine pm_R_lo pm_M269 (pc' := 97) rfl rfl rfl ?_
                      refine pm_R_lo pm_M269 (pc' := 99) (ls' := [.ref 41, .int a0, .int a1, .int a2, .int x6_291, .int x5_291, .int x6_291, .int r298]) (st' := []) rfl rfl rfl ?_
                      refine sf_R_iinc pm_M269 (pc' := 102) (ls' := fun z => [.ref 41, .int a0, .int a1, .int a2, .int x6_291, .int x5_291, .int z, .int r298]) rfl B295 rfl (by decide) (by decide) (by decide) (fun _ => rfl) rfl (fun z321 e322 B323 => ?_)
                      show pm_R _ 269 102 [.ref 41, .int a0, .int a1, .int a2, .int x6_291, .int x5_291, .int z321, .int r298] [] _ _
                      refine pm_R_br pm_M269 (pc' := 40) rfl rfl ?_
                      exact ih_291 _ (sf_up hN_291 e322 B295 (by decide) (by decide)) x6_291 x5_291 z321 (.int r298) (sf_weak B295 (by decide) (by decide)) (sf_weak B320 (by decide) (by decide)) (sf_weak B323 (by decide) (by decide)) rfl rfl
                    · skip
                      refine pm_R_lo pm_M269 (pc' := 92) rfl rfl rfl ?_
                      refine pm_R_br pm_M269 (pc' := 97) rfl rfl ?_
                      refine pm_R_lo pm_M269 (pc' := 99) (ls' := [.ref 41, .int a0, .int a1, .int a2, .int x6_291, .int r298, .int x6_291, .int r298]) (st' := []) rfl rfl rfl ?_
                      refine sf_R_iinc pm_M269 (pc' := 102) (ls' := fun z => [.ref 41, .int a0, .int a1, .int a2, .int x6_291, .int r298, .int z, .int r298]) rfl B295 rfl (by decide) (by decide) (by decide) (fun _ => rfl) rfl (fun z324 e325 B326 => ?_)
                      show pm_R _ 269 102 [.ref 41, .int a0, .int a1, .int a2, .int x6_291, .int r298, .int z324, .int r298] [] _ _
                      refine pm_R_br pm_M269 (pc' := 40) rfl rfl ?_
                      exact ih_291 _ (sf_up hN_291 e325 B295 (by decide) (by decide)) x6_291 r298 z324 (.int r298) (sf_weak B295 (by decide) (by decide)) (sf_weak B317 (by decide) (by decide)) (sf_weak B326 (by decide) (by decide)) rfl rfl
                · refine pm_R_op pm_M269 (pc' := 56) (st' := [.int (-1)]) rfl rfl rfl ?_
                  refine pm_R_br pm_M269 (pc' := 65) rfl rfl ?_
                  refine pm_R_lo pm_M269 (pc' := 67) (ls' := [.ref 41, .int a0, .int a1, .int a2, .int x4_291, .int x5_291, .int x6_291, .int (-1)]) (st' := []) rfl rfl rfl ?_
                  refine pm_R_lo pm_M269 (pc' := 69) rfl rfl rfl ?_
                  refine pm_R_lo pm_M269 (pc' := 71) rfl rfl rfl ?_
                  refine pm_R_icmp pm_M269 (t := 79) (pc' := 74) rfl rfl rfl (fun c327 => ?_) (fun c327 => absurd (Int32.not_le.mp c327) (sf_nlt Bx5_291 sf_kn1 (by decide)))
                  skip
                  refine pm_R_lo pm_M269 (pc' := 81) rfl rfl rfl ?_
                  refine pm_R_lo pm_M269 (pc' := 83) (ls' := [.ref 41, .int a0, .int a1, .int a2, .int x4_291, .int x5_291, .int x6_291, .int (-1)]) (st' := []) rfl rfl rfl ?_
                  refine pm_R_lo pm_M269 (pc' := 85) rfl rfl rfl ?_
                  refine pm_R_lo pm_M269 (pc' := 87) rfl rfl rfl ?_
                  refine pm_R_icmp pm_M269 (t := 95) (pc' := 90) rfl rfl rfl (fun c328 => ?_) (fun c328 => absurd (Int32.not_le.mp c328) (sf_nlt Bx5_291 sf_kn1 (by decide)))
                  skip
                  refine pm_R_lo pm_M269 (pc' := 97) rfl rfl rfl ?_
                  refine pm_R_lo pm_M269 (pc' := 99) (ls' := [.ref 41, .int a0, .int a1, .int a2, .int x4_291, .int x5_291, .int x6_291, .int (-1)]) (st' := []) rfl rfl rfl ?_
                  refine sf_R_iinc pm_M269 (pc' := 102) (ls' := fun z => [.ref 41, .int a0, .int a1, .int a2, .int x4_291, .int x5_291, .int z, .int (-1)]) rfl B295 rfl (by decide) (by decide) (by decide) (fun _ => rfl) rfl (fun z329 e330 B331 => ?_)
                  show pm_R _ 269 102 [.ref 41, .int a0, .int a1, .int a2, .int x4_291, .int x5_291, .int z329, .int (-1)] [] _ _
                  refine pm_R_br pm_M269 (pc' := 40) rfl rfl ?_
                  exact ih_291 _ (sf_up hN_291 e330 B295 (by decide) (by decide)) x4_291 x5_291 z329 (.int (-1)) Bx4_291 Bx5_291 (sf_weak B331 (by decide) (by decide)) rfl rfl
          exact L_291 _ (-1) (-1) 0 (pm_no) (sf_weak sf_kn1 (by decide) (by decide)) (sf_weak sf_kn1 (by decide) (by decide)) (sf_weak sf_k0 (by decide) (by decide)) rfl rfl
        · have B332 : sf_B 1 1 (m12 42) := sf_eqL (Classical.not_not.mp c33) sf_k1
          refine pm_R_op pm_M269 (pc' := 30) (st' := [.int (-1)]) rfl rfl rfl ?_
          exact pm_R_ret pm_M269 (r := some (.int (-1))) rfl rfl (K (-1) m12 w13 h14 T15 F18 W19 (sf_weak sf_kn1 (by decide) (by decide)))

set_option maxRecDepth 100000 in
set_option maxHeartbeats 4000000 in
/-- SilentTableModel.law -/
theorem rf_c271 {d : Nat} {m : Nat → Int32} {w : Int64} {h : pm_H} {Q : Option Value → pm_H → Prop} {a0 : Int32} {a1 : Int32} {a2 : Int32} (T : rf_T m w h)  (K : ∀ (r : Int32) (m' : Nat → Int32) (w' : Int64) (h' : pm_H), rf_T m' w' h' → rf_G [41] h h' → rf_W [0, 49] m m' → Q (some (.int r)) h') : pm_R (d + 2) 271 0 [.ref 41, .int a0, .int a1, .int a2] [] h Q := by
  refine pm_R_lo pm_M271 (pc' := 1) rfl rfl rfl ?_
  refine pm_R_op pm_M271 (pc' := 2) (st' := [.int 0, .ref 41]) rfl rfl rfl ?_
  refine rf_R_put pm_M271 T (pc' := 5) rfl rfl rfl (by decide) rfl rfl sf_k0 rfl rfl (fun h1 m4 em5 T2 F3 => ?_)
  have F6 := (rf_G.refl [41] h).trans F3 (by decide)
  have B7 : sf_B 0 0 (m4 0) := by rw [em5]; exact sf_k0
  have W9 : rf_W [0, 49] m m4 := by rw [em5]; exact (rf_W.refl [0, 49] m).put (by decide)
  refine pm_R_lo pm_M271 (pc' := 6) rfl rfl rfl ?_
  refine pm_R_op pm_M271 (pc' := 7) (st' := [.int 3, .ref 41]) rfl rfl rfl ?_
  refine pm_R_lo pm_M271 (pc' := 8) rfl rfl rfl ?_
  refine pm_R_cv pm_M271 (pc' := 11) (a := 41) (ra := [.int a0, .int 3]) (rest := []) (ls' := [.ref 41, .int 3, .int a0]) rfl rfl (Or.inl rfl) pm_M177 T2.2.1 rfl (by decide) (Nat.lt_of_lt_of_le (by decide) T2.1) rfl rfl (Nat.le_of_ble_eq_true rfl) rfl rfl ?_
  refine pm_R_lo pm_M177 (pc' := 1) rfl rfl rfl ?_
  refine pm_R_op pm_M177 (pc' := 2) (st' := [.int 0, .int a0]) rfl rfl rfl ?_
  refine pm_R_lo pm_M177 (pc' := 3) rfl rfl rfl ?_
  refine rf_R_get pm_M177 T2 (pc' := 6) (v := .ref 46) rfl rfl rfl rfl ?_
  refine pm_R_lo pm_M177 (pc' := 7) rfl rfl rfl ?_
  obtain ⟨f10, e11, b12⟩ := T2.2.2.2.1 46 (by decide) (by decide)
  refine rf_R_ild pm_M177 T2 (pc' := 8) rfl e11 (by decide) rfl rfl (fun z13 ez14 => ?_)
  have B15 : sf_B 0 2 z13 := ez14 ▸ (b12 3)
  refine pm_R_op pm_M177 (pc' := 9) (st' := [.int 1, .int z13, .int 0, .int a0]) rfl rfl rfl ?_
  refine sf_R_isub pm_M177 (pc' := 10) rfl rfl B15 sf_k1 (by decide) (by decide) (fun z16 e17 B18 => ?_)
  refine pm_R_cs pm_M177 (pc' := 13) (ra := [.int z16, .int 0, .int a0]) (rest := []) (ls' := [.int a0, .int 0, .int z16]) rfl rfl (Or.inl rfl) pm_M174 rfl rfl (Nat.le_of_ble_eq_true rfl) rfl rfl ?_
  refine pm_R_lo pm_M174 (pc' := 1) rfl rfl rfl ?_
  refine pm_R_lo pm_M174 (pc' := 2) rfl rfl rfl ?_
  refine pm_R_icmp pm_M174 (t := 14) (pc' := 5) rfl rfl rfl (fun c19 => ?_) (fun c19 => ?_)
  · have B20 : sf_B (-2147483648) (-1) a0 := sf_ltL c19 (sf_any a0) sf_k0
    refine pm_R_op pm_M174 (pc' := 15) (st' := [.int 0]) rfl rfl rfl ?_
    refine pm_R_ret pm_M174 (r := some (.int 0)) rfl rfl ?_
    show pm_R _ 177 13 [.ref 41, .int 3, .int a0] [.int 0] _ _
    refine pm_R_ret pm_M177 (r := some (.int 0)) rfl rfl ?_
    show pm_R _ 271 11 [.ref 41, .int a0, .int a1, .int a2] [.int 0] _ _
    refine pm_R_br pm_M271 (pc' := 14) (st' := []) rfl rfl ?_
    refine pm_R_op pm_M271 (pc' := 16) (st' := [.int (-2)]) rfl rfl rfl ?_
    exact pm_R_ret pm_M271 (r := some (.int (-2))) rfl rfl (K (-2) m4 w h1 T2 F6 W9)
  · have B21 : sf_B 0 2147483647 a0 := sf_leR (Int32.not_lt.mp c19) sf_k0 (sf_any a0)
    refine pm_R_lo pm_M174 (pc' := 6) rfl rfl rfl ?_
    refine pm_R_lo pm_M174 (pc' := 7) rfl rfl rfl ?_
    refine pm_R_icmp pm_M174 (t := 14) (pc' := 10) rfl rfl rfl (fun c22 => ?_) (fun c22 => ?_)
    · skip
      refine pm_R_op pm_M174 (pc' := 15) (st' := [.int 0]) rfl rfl rfl ?_
      refine pm_R_ret pm_M174 (r := some (.int 0)) rfl rfl ?_
      show pm_R _ 177 13 [.ref 41, .int 3, .int a0] [.int 0] _ _
      refine pm_R_ret pm_M177 (r := some (.int 0)) rfl rfl ?_
      show pm_R _ 271 11 [.ref 41, .int a0, .int a1, .int a2] [.int 0] _ _
      refine pm_R_br pm_M271 (pc' := 14) (st' := []) rfl rfl ?_
      refine pm_R_op pm_M271 (pc' := 16) (st' := [.int (-2)]) rfl rfl rfl ?_
      exact pm_R_ret pm_M271 (r := some (.int (-2))) rfl rfl (K (-2) m4 w h1 T2 F6 W9)
    · have B23 : sf_B 0 1 a0 := sf_leL (Int32.not_lt.mp c22) B21 B18
      have B24 : sf_B 0 1 z16 := sf_leR (Int32.not_lt.mp c22) B21 B18
      refine pm_R_op pm_M174 (pc' := 11) (st' := [.int 1]) rfl rfl rfl ?_
      refine pm_R_br pm_M174 (pc' := 15) rfl rfl ?_
      refine pm_R_ret pm_M174 (r := some (.int 1)) rfl rfl ?_
      show pm_R _ 177 13 [.ref 41, .int 3, .int a0] [.int 1] _ _
      refine pm_R_ret pm_M177 (r := some (.int 1)) rfl rfl ?_
      show pm_R _ 271 11 [.ref 41, .int a0, .int a1, .int a2] [.int 1] _ _
      refine pm_R_br pm_M271 (pc' := 17) (st' := []) rfl rfl ?_
      refine pm_R_lo pm_M271 (pc' := 18) rfl rfl rfl ?_
      refine pm_R_lo pm_M271 (pc' := 19) rfl rfl rfl ?_
      refine rf_R_put pm_M271 T2 (pc' := 22) rfl rfl rfl (by decide) rfl rfl B23 rfl rfl (fun h25 m28 em29 T26 F27 => ?_)
      have F30 := F6.trans F27 (by decide)
      have B31 : sf_B 0 1 (m28 49) := by rw [em29]; exact B23
      have ek32 : (m28 49).toInt = (a0).toInt := by rw [em29]; rfl
      have W33 : rf_W [0, 49] m m28 := by rw [em29]; exact W9.put (by decide)
      refine pm_R_lo pm_M271 (pc' := 23) rfl rfl rfl ?_
      refine pm_R_op pm_M271 (pc' := 24) (st' := [.int (-1), .int a1]) rfl rfl rfl ?_
      refine pm_R_icmp pm_M271 (t := 41) (pc' := 27) rfl rfl rfl (fun c34 => ?_) (fun c34 => ?_)
      · skip
        refine pm_R_lo pm_M271 (pc' := 42) rfl rfl rfl ?_
        refine pm_R_op pm_M271 (pc' := 43) (st' := [.int 0, .int a1]) rfl rfl rfl ?_
        refine pm_R_lo pm_M271 (pc' := 44) rfl rfl rfl ?_
        refine pm_R_cv pm_M271 (pc' := 47) (a := 41) (ra := []) (rest := [.int 0, .int a1]) (ls' := [.ref 41]) rfl rfl (Or.inl rfl) pm_M272 T26.2.1 rfl (by decide) (Nat.lt_of_lt_of_le (by decide) T26.1) rfl rfl (Nat.le_of_ble_eq_true rfl) rfl rfl ?_
        refine pm_R_lo pm_M272 (pc' := 1) rfl rfl rfl ?_
        refine rf_R_get pm_M272 T26 (pc' := 4) (v := .ref 50) rfl rfl rfl rfl ?_
        refine pm_R_op pm_M272 (pc' := 6) (st' := [.int 25, .ref 50]) rfl rfl rfl ?_
        refine pm_R_lo pm_M272 (pc' := 7) rfl rfl rfl ?_
        refine rf_R_get pm_M272 T26 (pc' := 10) (v := .int (m28 49)) rfl rfl rfl rfl ?_
        refine sf_R_imul pm_M272 (pc' := 11) rfl rfl sf_k25 B31 (by decide) (by decide) (by decide) (fun z35 e36 B37 => ?_)
        obtain ⟨f38, e39, b40⟩ := T26.2.2.2.1 50 (by decide) (by decide)
        refine rf_R_ild pm_M272 T26 (pc' := 12) rfl e39 (by decide) (sf_in B37 (by decide) (by decide)) rfl (fun z41 ez42 => ?_)
        have e43 : (z35).toInt = 25 * (a0).toInt + 0 := by
          have q0 := ek32
          have q1 := e36
          simp only [(show (25 : Int32).toInt = 25 from rfl)] at q0 q1
          omega
        have B44 : sf_B 0 8 z41 := ez42 ▸ rf_p50a b40 e43 B23 (by decide)
        refine pm_R_ret pm_M272 (r := some (.int z41)) rfl (pm_ret_i _) ?_
        show pm_R _ 271 47 [.ref 41, .int a0, .int a1, .int a2] [.int z41, .int 0, .int a1] _ _
        refine pm_R_op pm_M271 (pc' := 48) (st' := [.int 1, .int z41, .int 0, .int a1]) rfl rfl rfl ?_
        refine sf_R_isub pm_M271 (pc' := 49) rfl rfl B44 sf_k1 (by decide) (by decide) (fun z45 e46 B47 => ?_)
        refine pm_R_cs pm_M271 (pc' := 52) (ra := [.int z45, .int 0, .int a1]) (rest := []) (ls' := [.int a1, .int 0, .int z45]) rfl rfl (Or.inl rfl) pm_M174 rfl rfl (Nat.le_of_ble_eq_true rfl) rfl rfl ?_
        refine pm_R_lo pm_M174 (pc' := 1) rfl rfl rfl ?_
        refine pm_R_lo pm_M174 (pc' := 2) rfl rfl rfl ?_
        refine pm_R_icmp pm_M174 (t := 14) (pc' := 5) rfl rfl rfl (fun c48 => ?_) (fun c48 => ?_)
        · have B49 : sf_B (-2147483648) (-1) a1 := sf_ltL c48 (sf_any a1) sf_k0
          refine pm_R_op pm_M174 (pc' := 15) (st' := [.int 0]) rfl rfl rfl ?_
          refine pm_R_ret pm_M174 (r := some (.int 0)) rfl rfl ?_
          show pm_R _ 271 52 [.ref 41, .int a0, .int a1, .int a2] [.int 0] _ _
          refine pm_R_br pm_M271 (pc' := 73) (st' := []) rfl rfl ?_
          refine pm_R_op pm_M271 (pc' := 75) (st' := [.int (-2)]) rfl rfl rfl ?_
          exact pm_R_ret pm_M271 (r := some (.int (-2))) rfl rfl (K (-2) m28 w h25 T26 F30 W33)
        · have B50 : sf_B 0 2147483647 a1 := sf_leR (Int32.not_lt.mp c48) sf_k0 (sf_any a1)
          refine pm_R_lo pm_M174 (pc' := 6) rfl rfl rfl ?_
          refine pm_R_lo pm_M174 (pc' := 7) rfl rfl rfl ?_
          refine pm_R_icmp pm_M174 (t := 14) (pc' := 10) rfl rfl rfl (fun c51 => ?_) (fun c51 => ?_)
          · skip
            refine pm_R_op pm_M174 (pc' := 15) (st' := [.int 0]) rfl rfl rfl ?_
            refine pm_R_ret pm_M174 (r := some (.int 0)) rfl rfl ?_
            show pm_R _ 271 52 [.ref 41, .int a0, .int a1, .int a2] [.int 0] _ _
            refine pm_R_br pm_M271 (pc' := 73) (st' := []) rfl rfl ?_
            refine pm_R_op pm_M271 (pc' := 75) (st' := [.int (-2)]) rfl rfl rfl ?_
            exact pm_R_ret pm_M271 (r := some (.int (-2))) rfl rfl (K (-2) m28 w h25 T26 F30 W33)
          · have B52 : sf_B 0 7 a1 := sf_leL (Int32.not_lt.mp c51) B50 B47
            have B53 : sf_B 0 7 z45 := sf_leR (Int32.not_lt.mp c51) B50 B47
            refine pm_R_op pm_M174 (pc' := 11) (st' := [.int 1]) rfl rfl rfl ?_
            refine pm_R_br pm_M174 (pc' := 15) rfl rfl ?_
            refine pm_R_ret pm_M174 (r := some (.int 1)) rfl rfl ?_
            show pm_R _ 271 52 [.ref 41, .int a0, .int a1, .int a2] [.int 1] _ _
            refine pm_R_br pm_M271 (pc' := 55) (st' := []) rfl rfl ?_
            refine pm_R_lo pm_M271 (pc' := 56) rfl rfl rfl ?_
            refine pm_R_op pm_M271 (pc' := 57) (st' := [.int 0, .int a2]) rfl rfl rfl ?_
            refine pm_R_op pm_M271 (pc' := 58) (st' := [.int 2, .int 0, .int a2]) rfl rfl rfl ?_
            refine pm_R_cs pm_M271 (pc' := 61) (ra := [.int 2, .int 0, .int a2]) (rest := []) (ls' := [.int a2, .int 0, .int 2]) rfl rfl (Or.inl rfl) pm_M174 rfl rfl (Nat.le_of_ble_eq_true rfl) rfl rfl ?_
            refine pm_R_lo pm_M174 (pc' := 1) rfl rfl rfl ?_
            refine pm_R_lo pm_M174 (pc' := 2) rfl rfl rfl ?_
            refine pm_R_icmp pm_M174 (t := 14) (pc' := 5) rfl rfl rfl (fun c54 => ?_) (fun c54 => ?_)
            · have B55 : sf_B (-2147483648) (-1) a2 := sf_ltL c54 (sf_any a2) sf_k0
              refine pm_R_op pm_M174 (pc' := 15) (st' := [.int 0]) rfl rfl rfl ?_
              refine pm_R_ret pm_M174 (r := some (.int 0)) rfl rfl ?_
              show pm_R _ 271 61 [.ref 41, .int a0, .int a1, .int a2] [.int 0] _ _
              refine pm_R_br pm_M271 (pc' := 73) (st' := []) rfl rfl ?_
              refine pm_R_op pm_M271 (pc' := 75) (st' := [.int (-2)]) rfl rfl rfl ?_
              exact pm_R_ret pm_M271 (r := some (.int (-2))) rfl rfl (K (-2) m28 w h25 T26 F30 W33)
            · have B56 : sf_B 0 2147483647 a2 := sf_leR (Int32.not_lt.mp c54) sf_k0 (sf_any a2)
              refine pm_R_lo pm_M174 (pc' := 6) rfl rfl rfl ?_
              refine pm_R_lo pm_M174 (pc' := 7) rfl rfl rfl ?_
              refine pm_R_icmp pm_M174 (t := 14) (pc' := 10) rfl rfl rfl (fun c57 => ?_) (fun c57 => ?_)
              · have B58 : sf_B 3 2147483647 a2 := sf_ltR c57 sf_k2 B56
                refine pm_R_op pm_M174 (pc' := 15) (st' := [.int 0]) rfl rfl rfl ?_
                refine pm_R_ret pm_M174 (r := some (.int 0)) rfl rfl ?_
                show pm_R _ 271 61 [.ref 41, .int a0, .int a1, .int a2] [.int 0] _ _
                refine pm_R_br pm_M271 (pc' := 73) (st' := []) rfl rfl ?_
                refine pm_R_op pm_M271 (pc' := 75) (st' := [.int (-2)]) rfl rfl rfl ?_
                exact pm_R_ret pm_M271 (r := some (.int (-2))) rfl rfl (K (-2) m28 w h25 T26 F30 W33)
              · have B59 : sf_B 0 2 a2 := sf_leL (Int32.not_lt.mp c57) B56 sf_k2
                refine pm_R_op pm_M174 (pc' := 11) (st' := [.int 1]) rfl rfl rfl ?_
                refine pm_R_br pm_M174 (pc' := 15) rfl rfl ?_
                refine pm_R_ret pm_M174 (r := some (.int 1)) rfl rfl ?_
                show pm_R _ 271 61 [.ref 41, .int a0, .int a1, .int a2] [.int 1] _ _
                refine pm_R_br pm_M271 (pc' := 64) (st' := []) rfl rfl ?_
                refine pm_R_lo pm_M271 (pc' := 65) rfl rfl rfl ?_
                refine pm_R_lo pm_M271 (pc' := 66) rfl rfl rfl ?_
                refine pm_R_lo pm_M271 (pc' := 67) rfl rfl rfl ?_
                refine pm_R_cv pm_M271 (pc' := 70) (a := 41) (ra := [.int a2, .int a1]) (rest := []) (ls' := [.ref 41, .int a1, .int a2]) rfl rfl (Or.inl rfl) pm_M273 T26.2.1 rfl (by decide) (Nat.lt_of_lt_of_le (by decide) T26.1) rfl rfl (Nat.le_of_ble_eq_true rfl) rfl rfl ?_
                refine pm_R_lo pm_M273 (pc' := 1) rfl rfl rfl ?_
                refine rf_R_get pm_M273 T26 (pc' := 4) (v := .ref 50) rfl rfl rfl rfl ?_
                refine pm_R_op pm_M273 (pc' := 6) (st' := [.int 25, .ref 50]) rfl rfl rfl ?_
                refine pm_R_lo pm_M273 (pc' := 7) rfl rfl rfl ?_
                refine rf_R_get pm_M273 T26 (pc' := 10) (v := .int (m28 49)) rfl rfl rfl rfl ?_
                refine sf_R_imul pm_M273 (pc' := 11) rfl rfl sf_k25 B31 (by decide) (by decide) (by decide) (fun z60 e61 B62 => ?_)
                refine pm_R_op pm_M273 (pc' := 12) (st' := [.int 1, .int z60, .ref 50]) rfl rfl rfl ?_
                refine sf_R_iadd pm_M273 (pc' := 13) rfl rfl B62 sf_k1 (by decide) (by decide) (fun z63 e64 B65 => ?_)
                refine pm_R_op pm_M273 (pc' := 14) (st' := [.int 3, .int z63, .ref 50]) rfl rfl rfl ?_
                refine pm_R_lo pm_M273 (pc' := 15) rfl rfl rfl ?_
                refine sf_R_imul pm_M273 (pc' := 16) rfl rfl sf_k3 B52 (by decide) (by decide) (by decide) (fun z66 e67 B68 => ?_)
                refine sf_R_iadd pm_M273 (pc' := 17) rfl rfl B65 B68 (by decide) (by decide) (fun z69 e70 B71 => ?_)
                refine pm_R_lo pm_M273 (pc' := 18) rfl rfl rfl ?_
                refine sf_R_iadd pm_M273 (pc' := 19) rfl rfl B71 B59 (by decide) (by decide) (fun z72 e73 B74 => ?_)
                refine rf_R_ild pm_M273 T26 (pc' := 20) rfl e39 (by decide) (sf_in B74 (by decide) (by decide)) rfl (fun z75 ez76 => ?_)
                refine pm_R_ret pm_M273 (r := some (.int z75)) rfl (pm_ret_i _) ?_
                show pm_R _ 271 70 [.ref 41, .int a0, .int a1, .int a2] [.int z75] _ _
                refine pm_R_br pm_M271 (pc' := 75) rfl rfl ?_
                exact pm_R_ret pm_M271 (r := some (.int z75)) rfl (pm_ret_i _) (K z75 m28 w h25 T26 F30 W33)
      · have B77 : sf_B (-1) (-1) a1 := sf_eqL (Classical.not_not.mp c34) sf_kn1
        refine pm_R_lo pm_M271 (pc' := 28) rfl rfl rfl ?_
        refine pm_R_ifc pm_M271 (t := 38) (pc' := 31) rfl rfl rfl (fun c78 => ?_) (fun c78 => ?_)
        · skip
          refine pm_R_op pm_M271 (pc' := 40) (st' := [.int (-2)]) rfl rfl rfl ?_
          exact pm_R_ret pm_M271 (r := some (.int (-2))) rfl rfl (K (-2) m28 w h25 T26 F30 W33)
        · have B79 : sf_B 0 0 a2 := sf_eqL (Classical.not_not.mp c78) sf_k0
          refine pm_R_lo pm_M271 (pc' := 32) rfl rfl rfl ?_
          refine pm_R_cv pm_M271 (pc' := 35) (a := 41) (ra := []) (rest := []) (ls' := [.ref 41]) rfl rfl (Or.inl rfl) pm_M272 T26.2.1 rfl (by decide) (Nat.lt_of_lt_of_le (by decide) T26.1) rfl rfl (Nat.le_of_ble_eq_true rfl) rfl rfl ?_
          refine pm_R_lo pm_M272 (pc' := 1) rfl rfl rfl ?_
          refine rf_R_get pm_M272 T26 (pc' := 4) (v := .ref 50) rfl rfl rfl rfl ?_
          refine pm_R_op pm_M272 (pc' := 6) (st' := [.int 25, .ref 50]) rfl rfl rfl ?_
          refine pm_R_lo pm_M272 (pc' := 7) rfl rfl rfl ?_
          refine rf_R_get pm_M272 T26 (pc' := 10) (v := .int (m28 49)) rfl rfl rfl rfl ?_
          refine sf_R_imul pm_M272 (pc' := 11) rfl rfl sf_k25 B31 (by decide) (by decide) (by decide) (fun z80 e81 B82 => ?_)
          obtain ⟨f83, e84, b85⟩ := T26.2.2.2.1 50 (by decide) (by decide)
          refine rf_R_ild pm_M272 T26 (pc' := 12) rfl e84 (by decide) (sf_in B82 (by decide) (by decide)) rfl (fun z86 ez87 => ?_)
          have e88 : (z80).toInt = 25 * (a0).toInt + 0 := by
            have q0 := ek32
            have q1 := e81
            simp only [(show (25 : Int32).toInt = 25 from rfl)] at q0 q1
            omega
          have B89 : sf_B 0 8 z86 := ez87 ▸ rf_p50a b85 e88 B23 (by decide)
          refine pm_R_ret pm_M272 (r := some (.int z86)) rfl (pm_ret_i _) ?_
          show pm_R _ 271 35 [.ref 41, .int a0, .int a1, .int a2] [.int z86] _ _
          refine pm_R_br pm_M271 (pc' := 40) rfl rfl ?_
          exact pm_R_ret pm_M271 (r := some (.int z86)) rfl (pm_ret_i _) (K z86 m28 w h25 T26 F30 W33)

set_option maxRecDepth 100000 in
set_option maxHeartbeats 4000000 in
/-- SilentTableModel.breaks -/
theorem rf_c274 {d : Nat} {m : Nat → Int32} {w : Int64} {h : pm_H} {Q : Option Value → pm_H → Prop} {a0 : Int32} {a1 : Int32} {a2 : Int32} (T : rf_T m w h)  (K : ∀ (r : Int32) (m' : Nat → Int32) (w' : Int64) (h' : pm_H), rf_T m' w' h' → rf_G [41, 67, 68] h h' → rf_W [0, 42, 43, 44, 49] m m' → sf_B (-1) 49 r → Q (some (.int r)) h') : pm_R (d + 5) 274 0 [.ref 41, .int a0, .int a1, .int a2, pm_no, pm_no] [] h Q := by
  refine pm_R_lo pm_M274 (pc' := 1) rfl rfl rfl ?_
  refine pm_R_op pm_M274 (pc' := 2) (st' := [.int 0, .ref 41]) rfl rfl rfl ?_
  refine rf_R_put pm_M274 T (pc' := 5) rfl rfl rfl (by decide) rfl rfl sf_k0 rfl rfl (fun h1 m4 em5 T2 F3 => ?_)
  have F6 := (rf_G.refl [41, 67, 68] h).trans F3 (by decide)
  have B7 : sf_B 0 0 (m4 0) := by rw [em5]; exact sf_k0
  have W9 : rf_W [0, 42, 43, 44, 49] m m4 := by rw [em5]; exact (rf_W.refl [0, 42, 43, 44, 49] m).put (by decide)
  refine pm_R_lo pm_M274 (pc' := 6) rfl rfl rfl ?_
  refine pm_R_lo pm_M274 (pc' := 7) rfl rfl rfl ?_
  refine pm_R_lo pm_M274 (pc' := 8) rfl rfl rfl ?_
  refine pm_R_cv pm_M274 (pc' := 11) (a := 41) (ra := [.int a1, .int a0]) (rest := []) (ls' := [.ref 41, .int a0, .int a1]) rfl rfl (Or.inl rfl) pm_M275 T2.2.1 rfl (by decide) (Nat.lt_of_lt_of_le (by decide) T2.1) rfl rfl (Nat.le_of_ble_eq_true rfl) rfl rfl ?_
  refine pm_R_lo pm_M275 (pc' := 1) rfl rfl rfl ?_
  refine pm_R_op pm_M275 (pc' := 2) (st' := [.int 3, .ref 41]) rfl rfl rfl ?_
  refine pm_R_lo pm_M275 (pc' := 3) rfl rfl rfl ?_
  refine pm_R_cv pm_M275 (pc' := 6) (a := 41) (ra := [.int a0, .int 3]) (rest := []) (ls' := [.ref 41, .int 3, .int a0]) rfl rfl (Or.inl rfl) pm_M177 T2.2.1 rfl (by decide) (Nat.lt_of_lt_of_le (by decide) T2.1) rfl rfl (Nat.le_of_ble_eq_true rfl) rfl rfl ?_
  refine pm_R_lo pm_M177 (pc' := 1) rfl rfl rfl ?_
  refine pm_R_op pm_M177 (pc' := 2) (st' := [.int 0, .int a0]) rfl rfl rfl ?_
  refine pm_R_lo pm_M177 (pc' := 3) rfl rfl rfl ?_
  refine rf_R_get pm_M177 T2 (pc' := 6) (v := .ref 46) rfl rfl rfl rfl ?_
  refine pm_R_lo pm_M177 (pc' := 7) rfl rfl rfl ?_
  obtain ⟨f10, e11, b12⟩ := T2.2.2.2.1 46 (by decide) (by decide)
  refine rf_R_ild pm_M177 T2 (pc' := 8) rfl e11 (by decide) rfl rfl (fun z13 ez14 => ?_)
  have B15 : sf_B 0 2 z13 := ez14 ▸ (b12 3)
  refine pm_R_op pm_M177 (pc' := 9) (st' := [.int 1, .int z13, .int 0, .int a0]) rfl rfl rfl ?_
  refine sf_R_isub pm_M177 (pc' := 10) rfl rfl B15 sf_k1 (by decide) (by decide) (fun z16 e17 B18 => ?_)
  refine pm_R_cs pm_M177 (pc' := 13) (ra := [.int z16, .int 0, .int a0]) (rest := []) (ls' := [.int a0, .int 0, .int z16]) rfl rfl (Or.inl rfl) pm_M174 rfl rfl (Nat.le_of_ble_eq_true rfl) rfl rfl ?_
  refine pm_R_lo pm_M174 (pc' := 1) rfl rfl rfl ?_
  refine pm_R_lo pm_M174 (pc' := 2) rfl rfl rfl ?_
  refine pm_R_icmp pm_M174 (t := 14) (pc' := 5) rfl rfl rfl (fun c19 => ?_) (fun c19 => ?_)
  · have B20 : sf_B (-2147483648) (-1) a0 := sf_ltL c19 (sf_any a0) sf_k0
    refine pm_R_op pm_M174 (pc' := 15) (st' := [.int 0]) rfl rfl rfl ?_
    refine pm_R_ret pm_M174 (r := some (.int 0)) rfl rfl ?_
    show pm_R _ 177 13 [.ref 41, .int 3, .int a0] [.int 0] _ _
    refine pm_R_ret pm_M177 (r := some (.int 0)) rfl rfl ?_
    show pm_R _ 275 6 [.ref 41, .int a0, .int a1] [.int 0] _ _
    refine pm_R_br pm_M275 (pc' := 17) (st' := []) rfl rfl ?_
    refine pm_R_op pm_M275 (pc' := 18) (st' := [.int 0]) rfl rfl rfl ?_
    refine pm_R_ret pm_M275 (r := some (.int 0)) rfl rfl ?_
    show pm_R _ 274 11 [.ref 41, .int a0, .int a1, .int a2, pm_no, pm_no] [.int 0] _ _
    refine pm_R_br pm_M274 (pc' := 23) (st' := []) rfl rfl ?_
    refine pm_R_op pm_M274 (pc' := 24) (st' := [.int (-1)]) rfl rfl rfl ?_
    exact pm_R_ret pm_M274 (r := some (.int (-1))) rfl rfl (K (-1) m4 w h1 T2 F6 W9 (sf_weak sf_kn1 (by decide) (by decide)))
  · have B21 : sf_B 0 2147483647 a0 := sf_leR (Int32.not_lt.mp c19) sf_k0 (sf_any a0)
    refine pm_R_lo pm_M174 (pc' := 6) rfl rfl rfl ?_
    refine pm_R_lo pm_M174 (pc' := 7) rfl rfl rfl ?_
    refine pm_R_icmp pm_M174 (t := 14) (pc' := 10) rfl rfl rfl (fun c22 => ?_) (fun c22 => ?_)
    · skip
      refine pm_R_op pm_M174 (pc' := 15) (st' := [.int 0]) rfl rfl rfl ?_
      refine pm_R_ret pm_M174 (r := some (.int 0)) rfl rfl ?_
      show pm_R _ 177 13 [.ref 41, .int 3, .int a0] [.int 0] _ _
      refine pm_R_ret pm_M177 (r := some (.int 0)) rfl rfl ?_
      show pm_R _ 275 6 [.ref 41, .int a0, .int a1] [.int 0] _ _
      refine pm_R_br pm_M275 (pc' := 17) (st' := []) rfl rfl ?_
      refine pm_R_op pm_M275 (pc' := 18) (st' := [.int 0]) rfl rfl rfl ?_
      refine pm_R_ret pm_M275 (r := some (.int 0)) rfl rfl ?_
      show pm_R _ 274 11 [.ref 41, .int a0, .int a1, .int a2, pm_no, pm_no] [.int 0] _ _
      refine pm_R_br pm_M274 (pc' := 23) (st' := []) rfl rfl ?_
      refine pm_R_op pm_M274 (pc' := 24) (st' := [.int (-1)]) rfl rfl rfl ?_
      exact pm_R_ret pm_M274 (r := some (.int (-1))) rfl rfl (K (-1) m4 w h1 T2 F6 W9 (sf_weak sf_kn1 (by decide) (by decide)))
    · have B23 : sf_B 0 1 a0 := sf_leL (Int32.not_lt.mp c22) B21 B18
      have B24 : sf_B 0 1 z16 := sf_leR (Int32.not_lt.mp c22) B21 B18
      refine pm_R_op pm_M174 (pc' := 11) (st' := [.int 1]) rfl rfl rfl ?_
      refine pm_R_br pm_M174 (pc' := 15) rfl rfl ?_
      refine pm_R_ret pm_M174 (r := some (.int 1)) rfl rfl ?_
      show pm_R _ 177 13 [.ref 41, .int 3, .int a0] [.int 1] _ _
      refine pm_R_ret pm_M177 (r := some (.int 1)) rfl rfl ?_
      show pm_R _ 275 6 [.ref 41, .int a0, .int a1] [.int 1] _ _
      refine pm_R_br pm_M275 (pc' := 9) (st' := []) rfl rfl ?_
      refine pm_R_lo pm_M275 (pc' := 10) rfl rfl rfl ?_
      refine pm_R_lo pm_M275 (pc' := 11) rfl rfl rfl ?_
      refine pm_R_cv pm_M275 (pc' := 14) (a := 41) (ra := [.int a1]) (rest := []) (ls' := [.ref 41, .int a1, pm_no, pm_no, pm_no, pm_no]) rfl rfl (Or.inl rfl) pm_M254 T2.2.1 rfl (by decide) (Nat.lt_of_lt_of_le (by decide) T2.1) rfl rfl (Nat.le_of_ble_eq_true rfl) rfl rfl ?_
      refine rf_c254 (d := d + 1) T2  (fun r25 m27 w28 h29 T30 F31 W32 B26 => ?_)
      have F33 := F6.trans F31 (by decide)
      have W34 : rf_W [0, 42, 43, 44, 49] m m27 := W9.trans W32 (by decide)
      show pm_R _ 275 14 [.ref 41, .int a0, .int a1] [.int r25] _ _
      refine pm_R_ifc pm_M275 (t := 19) (pc' := 17) rfl rfl rfl (fun c35 => ?_) (fun c35 => ?_)
      · have B36 : sf_B 1 1 r25 := sf_neL0 c35 sf_k0 B26
        refine pm_R_lo pm_M275 (pc' := 20) rfl rfl rfl ?_
        refine pm_R_lo pm_M275 (pc' := 21) rfl rfl rfl ?_
        refine rf_R_put pm_M275 T30 (pc' := 24) rfl rfl rfl (by decide) rfl rfl B23 rfl rfl (fun h37 m40 em41 T38 F39 => ?_)
        have F42 := F33.trans F39 (by decide)
        have B43 : sf_B 0 1 (m40 49) := by rw [em41]; exact B23
        have ek44 : (m40 49).toInt = (a0).toInt := by rw [em41]; rfl
        have W45 : rf_W [0, 42, 43, 44, 49] m m40 := by rw [em41]; exact W34.put (by decide)
        refine pm_R_op pm_M275 (pc' := 25) (st' := [.int 1]) rfl rfl rfl ?_
        refine pm_R_ret pm_M275 (r := some (.int 1)) rfl rfl ?_
        show pm_R _ 274 11 [.ref 41, .int a0, .int a1, .int a2, pm_no, pm_no] [.int 1] _ _
        refine pm_R_br pm_M274 (pc' := 14) (st' := []) rfl rfl ?_
        refine pm_R_lo pm_M274 (pc' := 15) rfl rfl rfl ?_
        refine pm_R_op pm_M274 (pc' := 16) (st' := [.int 0, .int a2]) rfl rfl rfl ?_
        refine pm_R_op pm_M274 (pc' := 17) (st' := [.int 2, .int 0, .int a2]) rfl rfl rfl ?_
        refine pm_R_cs pm_M274 (pc' := 20) (ra := [.int 2, .int 0, .int a2]) (rest := []) (ls' := [.int a2, .int 0, .int 2]) rfl rfl (Or.inl rfl) pm_M174 rfl rfl (Nat.le_of_ble_eq_true rfl) rfl rfl ?_
        refine pm_R_lo pm_M174 (pc' := 1) rfl rfl rfl ?_
        refine pm_R_lo pm_M174 (pc' := 2) rfl rfl rfl ?_
        refine pm_R_icmp pm_M174 (t := 14) (pc' := 5) rfl rfl rfl (fun c46 => ?_) (fun c46 => ?_)
        · have B47 : sf_B (-2147483648) (-1) a2 := sf_ltL c46 (sf_any a2) sf_k0
          refine pm_R_op pm_M174 (pc' := 15) (st' := [.int 0]) rfl rfl rfl ?_
          refine pm_R_ret pm_M174 (r := some (.int 0)) rfl rfl ?_
          show pm_R _ 274 20 [.ref 41, .int a0, .int a1, .int a2, pm_no, pm_no] [.int 0] _ _
          refine pm_R_br pm_M274 (pc' := 23) (st' := []) rfl rfl ?_
          refine pm_R_op pm_M274 (pc' := 24) (st' := [.int (-1)]) rfl rfl rfl ?_
          exact pm_R_ret pm_M274 (r := some (.int (-1))) rfl rfl (K (-1) m40 w28 h37 T38 F42 W45 (sf_weak sf_kn1 (by decide) (by decide)))
        · have B48 : sf_B 0 2147483647 a2 := sf_leR (Int32.not_lt.mp c46) sf_k0 (sf_any a2)
          refine pm_R_lo pm_M174 (pc' := 6) rfl rfl rfl ?_
          refine pm_R_lo pm_M174 (pc' := 7) rfl rfl rfl ?_
          refine pm_R_icmp pm_M174 (t := 14) (pc' := 10) rfl rfl rfl (fun c49 => ?_) (fun c49 => ?_)
          · have B50 : sf_B 3 2147483647 a2 := sf_ltR c49 sf_k2 B48
            refine pm_R_op pm_M174 (pc' := 15) (st' := [.int 0]) rfl rfl rfl ?_
            refine pm_R_ret pm_M174 (r := some (.int 0)) rfl rfl ?_
            show pm_R _ 274 20 [.ref 41, .int a0, .int a1, .int a2, pm_no, pm_no] [.int 0] _ _
            refine pm_R_br pm_M274 (pc' := 23) (st' := []) rfl rfl ?_
            refine pm_R_op pm_M274 (pc' := 24) (st' := [.int (-1)]) rfl rfl rfl ?_
            exact pm_R_ret pm_M274 (r := some (.int (-1))) rfl rfl (K (-1) m40 w28 h37 T38 F42 W45 (sf_weak sf_kn1 (by decide) (by decide)))
          · have B51 : sf_B 0 2 a2 := sf_leL (Int32.not_lt.mp c49) B48 sf_k2
            refine pm_R_op pm_M174 (pc' := 11) (st' := [.int 1]) rfl rfl rfl ?_
            refine pm_R_br pm_M174 (pc' := 15) rfl rfl ?_
            refine pm_R_ret pm_M174 (r := some (.int 1)) rfl rfl ?_
            show pm_R _ 274 20 [.ref 41, .int a0, .int a1, .int a2, pm_no, pm_no] [.int 1] _ _
            refine pm_R_br pm_M274 (pc' := 25) (st' := []) rfl rfl ?_
            refine pm_R_op pm_M274 (pc' := 26) (st' := [.int 0]) rfl rfl rfl ?_
            refine pm_R_lo pm_M274 (pc' := 28) (ls' := [.ref 41, .int a0, .int a1, .int a2, .int 0, pm_no]) (st' := []) rfl rfl rfl ?_
            have L_297 : ∀ (N : Nat) (x4_297 : Int32) (g5_297 : Value), sf_B 0 50 x4_297 → g5_297.category = 1 → (50 - x4_297.toInt).toNat = N → pm_R (d + 5) 274 28 [.ref 41, .int a0, .int a1, .int a2, .int x4_297, g5_297] [] h37 Q := by
              intro N
              induction N using Nat.strongRecOn with
              | ind N ih_297 =>
                intro x4_297 g5_297 Bx4_297 Cg5_297 hN_297
                refine pm_R_lo pm_M274 (pc' := 30) rfl rfl rfl ?_
                refine pm_R_lo pm_M274 (pc' := 31) rfl rfl rfl ?_
                have B298 : sf_B 0 50 (m40 43) := T38.2.2.1 43
                refine rf_R_get pm_M274 T38 (pc' := 34) (v := .int (m40 43)) rfl rfl rfl rfl ?_
                refine pm_R_icmp pm_M274 (t := 85) (pc' := 37) rfl rfl rfl (fun c299 => ?_) (fun c299 => ?_)
                · skip
                  refine pm_R_op pm_M274 (pc' := 86) (st' := [.int (-1)]) rfl rfl rfl ?_
                  exact pm_R_ret pm_M274 (r := some (.int (-1))) rfl rfl (K (-1) m40 w28 h37 T38 F42 W45 (sf_weak sf_kn1 (by decide) (by decide)))
                · have B300 : sf_B 0 49 x4_297 := sf_ltL (Int32.not_le.mp c299) Bx4_297 B298
                  have B301 : sf_B 1 50 (m40 43) := sf_ltR (Int32.not_le.mp c299) Bx4_297 B298
                  refine pm_R_lo pm_M274 (pc' := 38) rfl rfl rfl ?_
                  refine pm_R_lo pm_M274 (pc' := 40) rfl rfl rfl ?_
                  refine pm_R_op pm_M274 (pc' := 41) (st' := [.int (-1), .int x4_297, .ref 41]) rfl rfl rfl ?_
                  refine pm_R_cv pm_M274 (pc' := 44) (a := 41) (ra := [.int (-1), .int x4_297]) (rest := []) (ls' := [.ref 41, .int x4_297, .int (-1), pm_no]) rfl rfl (Or.inl rfl) pm_M276 T38.2.1 rfl (by decide) (Nat.lt_of_lt_of_le (by decide) T38.1) rfl rfl (Nat.le_of_ble_eq_true rfl) rfl rfl ?_
                  refine rf_c276 (d := d + 0) T38 B300 (fun r302 B303 => ?_)
                  show pm_R _ 274 44 [.ref 41, .int a0, .int a1, .int a2, .int x4_297, g5_297] [.int r302] _ _
                  refine pm_R_lo pm_M274 (pc' := 46) (ls' := [.ref 41, .int a0, .int a1, .int a2, .int x4_297, .int r302]) (st' := []) rfl rfl rfl ?_
                  refine pm_R_lo pm_M274 (pc' := 48) rfl rfl rfl ?_
                  refine pm_R_op pm_M274 (pc' := 49) (st' := [.int (-1), .int r302]) rfl rfl rfl ?_
                  refine pm_R_icmp pm_M274 (t := 79) (pc' := 52) rfl rfl rfl (fun c310 => ?_) (fun c310 => ?_)
                  · have B311 : sf_B (-1) (-1) r302 := sf_eqL c310 sf_kn1
                    refine sf_R_iinc pm_M274 (pc' := 82) (ls' := fun z => [.ref 41, .int a0, .int a1, .int a2, .int z, .int r302]) rfl B300 rfl (by decide) (by decide) (by decide) (fun _ => rfl) rfl (fun z312 e313 B314 => ?_)
                    show pm_R _ 274 82 [.ref 41, .int a0, .int a1, .int a2, .int z312, .int r302] [] _ _
                    refine pm_R_br pm_M274 (pc' := 28) rfl rfl ?_
                    exact ih_297 _ (sf_up hN_297 e313 B300 (by decide) (by decide)) z312 (.int r302) (sf_weak B314 (by decide) (by decide)) rfl rfl
                  · have B315 : sf_B 0 7 r302 := sf_neL0 c310 sf_kn1 B303
                    refine pm_R_lo pm_M274 (pc' := 53) rfl rfl rfl ?_
                    refine pm_R_ifc pm_M274 (t := 61) (pc' := 56) rfl rfl rfl (fun c316 => ?_) (fun c316 => ?_)
                    · have B317 : sf_B 1 2 a2 := sf_neL0 c316 sf_k0 B51
                      refine pm_R_lo pm_M274 (pc' := 62) rfl rfl rfl ?_
                      refine pm_R_op pm_M274 (pc' := 63) (st' := [.int 1, .int a2]) rfl rfl rfl ?_
                      refine pm_R_icmp pm_M274 (t := 71) (pc' := 66) rfl rfl rfl (fun c318 => ?_) (fun c318 => ?_)
                      · have B319 : sf_B 2 2 a2 := sf_neL0 c318 sf_k1 B317
                        refine pm_R_lo pm_M274 (pc' := 72) rfl rfl rfl ?_
                        refine pm_R_lo pm_M274 (pc' := 74) rfl rfl rfl ?_
                        refine pm_R_op pm_M274 (pc' := 75) (st' := [.int 1, .int x4_297, .ref 41]) rfl rfl rfl ?_
                        refine pm_R_cv pm_M274 (pc' := 78) (a := 41) (ra := [.int 1, .int x4_297]) (rest := []) (ls' := [.ref 41, .int x4_297, .int 1]) rfl rfl (Or.inl rfl) pm_M255 T38.2.1 rfl (by decide) (Nat.lt_of_lt_of_le (by decide) T38.1) rfl rfl (Nat.le_of_ble_eq_true rfl) rfl rfl ?_
                        refine pm_R_lo pm_M255 (pc' := 1) rfl rfl rfl ?_
                        refine rf_R_get pm_M255 T38 (pc' := 4) (v := .ref 49) rfl rfl rfl rfl ?_
                        refine pm_R_op pm_M255 (pc' := 7) (st' := [.int 152, .ref 49]) rfl rfl rfl ?_
                        refine pm_R_lo pm_M255 (pc' := 8) rfl rfl rfl ?_
                        have B320 : sf_B 0 1 (m40 44) := T38.2.2.1 44
                        refine rf_R_get pm_M255 T38 (pc' := 11) (v := .int (m40 44)) rfl rfl rfl rfl ?_
                        refine sf_R_imul pm_M255 (pc' := 12) rfl rfl sf_k152 B320 (by decide) (by decide) (by decide) (fun z321 e322 B323 => ?_)
                        refine pm_R_op pm_M255 (pc' := 13) (st' := [.int 2, .int z321, .ref 49]) rfl rfl rfl ?_
                        refine sf_R_iadd pm_M255 (pc' := 14) rfl rfl B323 sf_k2 (by decide) (by decide) (fun z324 e325 B326 => ?_)
                        refine pm_R_op pm_M255 (pc' := 15) (st' := [.int 3, .int z324, .ref 49]) rfl rfl rfl ?_
                        refine pm_R_lo pm_M255 (pc' := 16) rfl rfl rfl ?_
                        refine sf_R_imul pm_M255 (pc' := 17) rfl rfl sf_k3 B300 (by decide) (by decide) (by decide) (fun z327 e328 B329 => ?_)
                        refine sf_R_iadd pm_M255 (pc' := 18) rfl rfl B326 B329 (by decide) (by decide) (fun z330 e331 B332 => ?_)
                        refine pm_R_lo pm_M255 (pc' := 19) rfl rfl rfl ?_
                        refine sf_R_iadd pm_M255 (pc' := 20) rfl rfl B332 sf_k1 (by decide) (by decide) (fun z333 e334 B335 => ?_)
                        obtain ⟨f336, e337, b338⟩ := T38.2.2.2.1 49 (by decide) (by decide)
                        refine rf_R_ild pm_M255 T38 (pc' := 21) rfl e337 (by decide) (sf_in B335 (by decide) (by decide)) rfl (fun z339 ez340 => ?_)
                        have e341 : (z333).toInt = 152 * ((m40 44)).toInt + 3 * (x4_297).toInt + 3 := by
                          have q0 := e322
                          have q1 := e325
                          have q2 := e328
                          have q3 := e331
                          have q4 := e334
                          simp only [(show (1 : Int32).toInt = 1 from rfl), (show (2 : Int32).toInt = 2 from rfl), (show (3 : Int32).toInt = 3 from rfl), (show (152 : Int32).toInt = 152 from rfl)] at q0 q1 q2 q3 q4
                          omega
                        have B342 : sf_B 0 5 z339 := ez340 ▸ rf_p49w b338 e341 B320 B300 (by decide) (by decide) (by decide)
                        refine pm_R_ret pm_M255 (r := some (.int z339)) rfl (pm_ret_i _) ?_
                        show pm_R _ 274 78 [.ref 41, .int a0, .int a1, .int a2, .int x4_297, .int r302] [.int z339] _ _
                        exact pm_R_ret pm_M274 (r := some (.int z339)) rfl (pm_ret_i _) (K z339 m40 w28 h37 T38 F42 W45 (sf_weak B342 (by decide) (by decide)))
                      · have B343 : sf_B 1 1 a2 := sf_eqL (Classical.not_not.mp c318) sf_k1
                        refine pm_R_lo pm_M274 (pc' := 68) rfl rfl rfl ?_
                        refine pm_R_br pm_M274 (pc' := 78) rfl rfl ?_
                        exact pm_R_ret pm_M274 (r := some (.int r302)) rfl (pm_ret_i _) (K r302 m40 w28 h37 T38 F42 W45 (sf_weak B315 (by decide) (by decide)))
                    · have B344 : sf_B 0 0 a2 := sf_eqL (Classical.not_not.mp c316) sf_k0
                      refine pm_R_lo pm_M274 (pc' := 58) rfl rfl rfl ?_
                      refine pm_R_br pm_M274 (pc' := 78) rfl rfl ?_
                      exact pm_R_ret pm_M274 (r := some (.int x4_297)) rfl (pm_ret_i _) (K x4_297 m40 w28 h37 T38 F42 W45 (sf_weak B300 (by decide) (by decide)))
            exact L_297 _ 0 (pm_no) (sf_weak sf_k0 (by decide) (by decide)) rfl rfl
      · have B345 : sf_B 0 0 r25 := sf_eqL (Classical.not_not.mp c35) sf_k0
        refine pm_R_op pm_M275 (pc' := 18) (st' := [.int 0]) rfl rfl rfl ?_
        refine pm_R_ret pm_M275 (r := some (.int 0)) rfl rfl ?_
        show pm_R _ 274 11 [.ref 41, .int a0, .int a1, .int a2, pm_no, pm_no] [.int 0] _ _
        refine pm_R_br pm_M274 (pc' := 23) (st' := []) rfl rfl ?_
        refine pm_R_op pm_M274 (pc' := 24) (st' := [.int (-1)]) rfl rfl rfl ?_
        exact pm_R_ret pm_M274 (r := some (.int (-1))) rfl rfl (K (-1) m27 w28 h29 T30 F33 W34 (sf_weak sf_kn1 (by decide) (by decide)))

set_option maxRecDepth 100000 in
set_option maxHeartbeats 4000000 in
/-- SilentTableModel.sins -/
theorem rf_c280 {d : Nat} {m : Nat → Int32} {w : Int64} {h : pm_H} {Q : Option Value → pm_H → Prop} {a0 : Int32} {a1 : Int32} {a2 : Int32} (T : rf_T m w h)  (K : ∀ (r : Int32) (m' : Nat → Int32) (w' : Int64) (h' : pm_H), rf_T m' w' h' → rf_G [41, 67, 68] h h' → rf_W [0, 42, 43, 44, 49] m m' → Q (some (.int r)) h') : pm_R (d + 6) 280 0 [.ref 41, .int a0, .int a1, .int a2] [] h Q := by
  refine pm_R_lo pm_M280 (pc' := 1) rfl rfl rfl ?_
  refine pm_R_op pm_M280 (pc' := 2) (st' := [.int 0, .ref 41]) rfl rfl rfl ?_
  refine rf_R_put pm_M280 T (pc' := 5) rfl rfl rfl (by decide) rfl rfl sf_k0 rfl rfl (fun h1 m4 em5 T2 F3 => ?_)
  have F6 := (rf_G.refl [41, 67, 68] h).trans F3 (by decide)
  have B7 : sf_B 0 0 (m4 0) := by rw [em5]; exact sf_k0
  have W9 : rf_W [0, 42, 43, 44, 49] m m4 := by rw [em5]; exact (rf_W.refl [0, 42, 43, 44, 49] m).put (by decide)
  refine pm_R_lo pm_M280 (pc' := 6) rfl rfl rfl ?_
  refine pm_R_lo pm_M280 (pc' := 7) rfl rfl rfl ?_
  refine pm_R_lo pm_M280 (pc' := 8) rfl rfl rfl ?_
  refine pm_R_cv pm_M280 (pc' := 11) (a := 41) (ra := [.int a1, .int a0]) (rest := []) (ls' := [.ref 41, .int a0, .int a1]) rfl rfl (Or.inl rfl) pm_M275 T2.2.1 rfl (by decide) (Nat.lt_of_lt_of_le (by decide) T2.1) rfl rfl (Nat.le_of_ble_eq_true rfl) rfl rfl ?_
  refine pm_R_lo pm_M275 (pc' := 1) rfl rfl rfl ?_
  refine pm_R_op pm_M275 (pc' := 2) (st' := [.int 3, .ref 41]) rfl rfl rfl ?_
  refine pm_R_lo pm_M275 (pc' := 3) rfl rfl rfl ?_
  refine pm_R_cv pm_M275 (pc' := 6) (a := 41) (ra := [.int a0, .int 3]) (rest := []) (ls' := [.ref 41, .int 3, .int a0]) rfl rfl (Or.inl rfl) pm_M177 T2.2.1 rfl (by decide) (Nat.lt_of_lt_of_le (by decide) T2.1) rfl rfl (Nat.le_of_ble_eq_true rfl) rfl rfl ?_
  refine pm_R_lo pm_M177 (pc' := 1) rfl rfl rfl ?_
  refine pm_R_op pm_M177 (pc' := 2) (st' := [.int 0, .int a0]) rfl rfl rfl ?_
  refine pm_R_lo pm_M177 (pc' := 3) rfl rfl rfl ?_
  refine rf_R_get pm_M177 T2 (pc' := 6) (v := .ref 46) rfl rfl rfl rfl ?_
  refine pm_R_lo pm_M177 (pc' := 7) rfl rfl rfl ?_
  obtain ⟨f10, e11, b12⟩ := T2.2.2.2.1 46 (by decide) (by decide)
  refine rf_R_ild pm_M177 T2 (pc' := 8) rfl e11 (by decide) rfl rfl (fun z13 ez14 => ?_)
  have B15 : sf_B 0 2 z13 := ez14 ▸ (b12 3)
  refine pm_R_op pm_M177 (pc' := 9) (st' := [.int 1, .int z13, .int 0, .int a0]) rfl rfl rfl ?_
  refine sf_R_isub pm_M177 (pc' := 10) rfl rfl B15 sf_k1 (by decide) (by decide) (fun z16 e17 B18 => ?_)
  refine pm_R_cs pm_M177 (pc' := 13) (ra := [.int z16, .int 0, .int a0]) (rest := []) (ls' := [.int a0, .int 0, .int z16]) rfl rfl (Or.inl rfl) pm_M174 rfl rfl (Nat.le_of_ble_eq_true rfl) rfl rfl ?_
  refine pm_R_lo pm_M174 (pc' := 1) rfl rfl rfl ?_
  refine pm_R_lo pm_M174 (pc' := 2) rfl rfl rfl ?_
  refine pm_R_icmp pm_M174 (t := 14) (pc' := 5) rfl rfl rfl (fun c19 => ?_) (fun c19 => ?_)
  · have B20 : sf_B (-2147483648) (-1) a0 := sf_ltL c19 (sf_any a0) sf_k0
    refine pm_R_op pm_M174 (pc' := 15) (st' := [.int 0]) rfl rfl rfl ?_
    refine pm_R_ret pm_M174 (r := some (.int 0)) rfl rfl ?_
    show pm_R _ 177 13 [.ref 41, .int 3, .int a0] [.int 0] _ _
    refine pm_R_ret pm_M177 (r := some (.int 0)) rfl rfl ?_
    show pm_R _ 275 6 [.ref 41, .int a0, .int a1] [.int 0] _ _
    refine pm_R_br pm_M275 (pc' := 17) (st' := []) rfl rfl ?_
    refine pm_R_op pm_M275 (pc' := 18) (st' := [.int 0]) rfl rfl rfl ?_
    refine pm_R_ret pm_M275 (r := some (.int 0)) rfl rfl ?_
    show pm_R _ 280 11 [.ref 41, .int a0, .int a1, .int a2] [.int 0] _ _
    refine pm_R_br pm_M280 (pc' := 36) (st' := []) rfl rfl ?_
    refine pm_R_op pm_M280 (pc' := 37) (st' := [.int (-1)]) rfl rfl rfl ?_
    exact pm_R_ret pm_M280 (r := some (.int (-1))) rfl rfl (K (-1) m4 w h1 T2 F6 W9)
  · have B21 : sf_B 0 2147483647 a0 := sf_leR (Int32.not_lt.mp c19) sf_k0 (sf_any a0)
    refine pm_R_lo pm_M174 (pc' := 6) rfl rfl rfl ?_
    refine pm_R_lo pm_M174 (pc' := 7) rfl rfl rfl ?_
    refine pm_R_icmp pm_M174 (t := 14) (pc' := 10) rfl rfl rfl (fun c22 => ?_) (fun c22 => ?_)
    · skip
      refine pm_R_op pm_M174 (pc' := 15) (st' := [.int 0]) rfl rfl rfl ?_
      refine pm_R_ret pm_M174 (r := some (.int 0)) rfl rfl ?_
      show pm_R _ 177 13 [.ref 41, .int 3, .int a0] [.int 0] _ _
      refine pm_R_ret pm_M177 (r := some (.int 0)) rfl rfl ?_
      show pm_R _ 275 6 [.ref 41, .int a0, .int a1] [.int 0] _ _
      refine pm_R_br pm_M275 (pc' := 17) (st' := []) rfl rfl ?_
      refine pm_R_op pm_M275 (pc' := 18) (st' := [.int 0]) rfl rfl rfl ?_
      refine pm_R_ret pm_M275 (r := some (.int 0)) rfl rfl ?_
      show pm_R _ 280 11 [.ref 41, .int a0, .int a1, .int a2] [.int 0] _ _
      refine pm_R_br pm_M280 (pc' := 36) (st' := []) rfl rfl ?_
      refine pm_R_op pm_M280 (pc' := 37) (st' := [.int (-1)]) rfl rfl rfl ?_
      exact pm_R_ret pm_M280 (r := some (.int (-1))) rfl rfl (K (-1) m4 w h1 T2 F6 W9)
    · have B23 : sf_B 0 1 a0 := sf_leL (Int32.not_lt.mp c22) B21 B18
      have B24 : sf_B 0 1 z16 := sf_leR (Int32.not_lt.mp c22) B21 B18
      refine pm_R_op pm_M174 (pc' := 11) (st' := [.int 1]) rfl rfl rfl ?_
      refine pm_R_br pm_M174 (pc' := 15) rfl rfl ?_
      refine pm_R_ret pm_M174 (r := some (.int 1)) rfl rfl ?_
      show pm_R _ 177 13 [.ref 41, .int 3, .int a0] [.int 1] _ _
      refine pm_R_ret pm_M177 (r := some (.int 1)) rfl rfl ?_
      show pm_R _ 275 6 [.ref 41, .int a0, .int a1] [.int 1] _ _
      refine pm_R_br pm_M275 (pc' := 9) (st' := []) rfl rfl ?_
      refine pm_R_lo pm_M275 (pc' := 10) rfl rfl rfl ?_
      refine pm_R_lo pm_M275 (pc' := 11) rfl rfl rfl ?_
      refine pm_R_cv pm_M275 (pc' := 14) (a := 41) (ra := [.int a1]) (rest := []) (ls' := [.ref 41, .int a1, pm_no, pm_no, pm_no, pm_no]) rfl rfl (Or.inl rfl) pm_M254 T2.2.1 rfl (by decide) (Nat.lt_of_lt_of_le (by decide) T2.1) rfl rfl (Nat.le_of_ble_eq_true rfl) rfl rfl ?_
      refine rf_c254 (d := d + 2) T2  (fun r25 m27 w28 h29 T30 F31 W32 B26 => ?_)
      have F33 := F6.trans F31 (by decide)
      have W34 : rf_W [0, 42, 43, 44, 49] m m27 := W9.trans W32 (by decide)
      show pm_R _ 275 14 [.ref 41, .int a0, .int a1] [.int r25] _ _
      refine pm_R_ifc pm_M275 (t := 19) (pc' := 17) rfl rfl rfl (fun c35 => ?_) (fun c35 => ?_)
      · have B36 : sf_B 1 1 r25 := sf_neL0 c35 sf_k0 B26
        refine pm_R_lo pm_M275 (pc' := 20) rfl rfl rfl ?_
        refine pm_R_lo pm_M275 (pc' := 21) rfl rfl rfl ?_
        refine rf_R_put pm_M275 T30 (pc' := 24) rfl rfl rfl (by decide) rfl rfl B23 rfl rfl (fun h37 m40 em41 T38 F39 => ?_)
        have F42 := F33.trans F39 (by decide)
        have B43 : sf_B 0 1 (m40 49) := by rw [em41]; exact B23
        have ek44 : (m40 49).toInt = (a0).toInt := by rw [em41]; rfl
        have W45 : rf_W [0, 42, 43, 44, 49] m m40 := by rw [em41]; exact W34.put (by decide)
        refine pm_R_op pm_M275 (pc' := 25) (st' := [.int 1]) rfl rfl rfl ?_
        refine pm_R_ret pm_M275 (r := some (.int 1)) rfl rfl ?_
        show pm_R _ 280 11 [.ref 41, .int a0, .int a1, .int a2] [.int 1] _ _
        refine pm_R_br pm_M280 (pc' := 14) (st' := []) rfl rfl ?_
        refine pm_R_lo pm_M280 (pc' := 15) rfl rfl rfl ?_
        refine pm_R_op pm_M280 (pc' := 16) (st' := [.int (-1), .int a2]) rfl rfl rfl ?_
        refine pm_R_icmp pm_M280 (t := 27) (pc' := 19) rfl rfl rfl (fun c46 => ?_) (fun c46 => ?_)
        · have B47 : sf_B (-1) (-1) a2 := sf_eqL c46 sf_kn1
          refine pm_R_lo pm_M280 (pc' := 28) rfl rfl rfl ?_
          refine pm_R_lo pm_M280 (pc' := 29) rfl rfl rfl ?_
          refine pm_R_op pm_M280 (pc' := 30) (st' := [.int (-1), .int a2, .ref 41]) rfl rfl rfl ?_
          refine pm_R_cv pm_M280 (pc' := 33) (a := 41) (ra := [.int (-1), .int a2]) (rest := []) (ls' := [.ref 41, .int a2, .int (-1), pm_no, pm_no]) rfl rfl (Or.inl rfl) pm_M281 T38.2.1 rfl (by decide) (Nat.lt_of_lt_of_le (by decide) T38.1) rfl rfl (Nat.le_of_ble_eq_true rfl) rfl rfl ?_
          refine rf_c281 (d := d + 0) T38  (fun r48 => ?_)
          show pm_R _ 280 33 [.ref 41, .int a0, .int a1, .int a2] [.int r48] _ _
          refine pm_R_br pm_M280 (pc' := 37) rfl rfl ?_
          exact pm_R_ret pm_M280 (r := some (.int r48)) rfl (pm_ret_i _) (K r48 m40 w28 h37 T38 F42 W45)
        · skip
          refine pm_R_lo pm_M280 (pc' := 20) rfl rfl rfl ?_
          refine pm_R_lo pm_M280 (pc' := 21) rfl rfl rfl ?_
          refine pm_R_cv pm_M280 (pc' := 24) (a := 41) (ra := [.int a2]) (rest := []) (ls' := [.ref 41, .int a2]) rfl rfl (Or.inl rfl) pm_M259 T38.2.1 rfl (by decide) (Nat.lt_of_lt_of_le (by decide) T38.1) rfl rfl (Nat.le_of_ble_eq_true rfl) rfl rfl ?_
          refine pm_R_lo pm_M259 (pc' := 1) rfl rfl rfl ?_
          refine pm_R_op pm_M259 (pc' := 2) (st' := [.int 0, .int a2]) rfl rfl rfl ?_
          refine pm_R_lo pm_M259 (pc' := 3) rfl rfl rfl ?_
          have B56 : sf_B 0 6 (m40 42) := T38.2.2.1 42
          refine rf_R_get pm_M259 T38 (pc' := 6) (v := .int (m40 42)) rfl rfl rfl rfl ?_
          refine pm_R_op pm_M259 (pc' := 7) (st' := [.int 1, .int (m40 42), .int 0, .int a2]) rfl rfl rfl ?_
          refine sf_R_isub pm_M259 (pc' := 8) rfl rfl B56 sf_k1 (by decide) (by decide) (fun z57 e58 B59 => ?_)
          refine pm_R_cs pm_M259 (pc' := 11) (ra := [.int z57, .int 0, .int a2]) (rest := []) (ls' := [.int a2, .int 0, .int z57]) rfl rfl (Or.inl rfl) pm_M174 rfl rfl (Nat.le_of_ble_eq_true rfl) rfl rfl ?_
          refine pm_R_lo pm_M174 (pc' := 1) rfl rfl rfl ?_
          refine pm_R_lo pm_M174 (pc' := 2) rfl rfl rfl ?_
          refine pm_R_icmp pm_M174 (t := 14) (pc' := 5) rfl rfl rfl (fun c60 => ?_) (fun c60 => ?_)
          · have B61 : sf_B (-2147483648) (-1) a2 := sf_ltL c60 (sf_any a2) sf_k0
            refine pm_R_op pm_M174 (pc' := 15) (st' := [.int 0]) rfl rfl rfl ?_
            refine pm_R_ret pm_M174 (r := some (.int 0)) rfl rfl ?_
            show pm_R _ 259 11 [.ref 41, .int a2] [.int 0] _ _
            refine pm_R_ret pm_M259 (r := some (.int 0)) rfl rfl ?_
            show pm_R _ 280 24 [.ref 41, .int a0, .int a1, .int a2] [.int 0] _ _
            refine pm_R_br pm_M280 (pc' := 36) (st' := []) rfl rfl ?_
            refine pm_R_op pm_M280 (pc' := 37) (st' := [.int (-1)]) rfl rfl rfl ?_
            exact pm_R_ret pm_M280 (r := some (.int (-1))) rfl rfl (K (-1) m40 w28 h37 T38 F42 W45)
          · have B62 : sf_B 0 2147483647 a2 := sf_leR (Int32.not_lt.mp c60) sf_k0 (sf_any a2)
            refine pm_R_lo pm_M174 (pc' := 6) rfl rfl rfl ?_
            refine pm_R_lo pm_M174 (pc' := 7) rfl rfl rfl ?_
            refine pm_R_icmp pm_M174 (t := 14) (pc' := 10) rfl rfl rfl (fun c63 => ?_) (fun c63 => ?_)
            · skip
              refine pm_R_op pm_M174 (pc' := 15) (st' := [.int 0]) rfl rfl rfl ?_
              refine pm_R_ret pm_M174 (r := some (.int 0)) rfl rfl ?_
              show pm_R _ 259 11 [.ref 41, .int a2] [.int 0] _ _
              refine pm_R_ret pm_M259 (r := some (.int 0)) rfl rfl ?_
              show pm_R _ 280 24 [.ref 41, .int a0, .int a1, .int a2] [.int 0] _ _
              refine pm_R_br pm_M280 (pc' := 36) (st' := []) rfl rfl ?_
              refine pm_R_op pm_M280 (pc' := 37) (st' := [.int (-1)]) rfl rfl rfl ?_
              exact pm_R_ret pm_M280 (r := some (.int (-1))) rfl rfl (K (-1) m40 w28 h37 T38 F42 W45)
            · have B64 : sf_B 0 5 a2 := sf_leL (Int32.not_lt.mp c63) B62 B59
              have B65 : sf_B 0 5 z57 := sf_leR (Int32.not_lt.mp c63) B62 B59
              refine pm_R_op pm_M174 (pc' := 11) (st' := [.int 1]) rfl rfl rfl ?_
              refine pm_R_br pm_M174 (pc' := 15) rfl rfl ?_
              refine pm_R_ret pm_M174 (r := some (.int 1)) rfl rfl ?_
              show pm_R _ 259 11 [.ref 41, .int a2] [.int 1] _ _
              refine pm_R_ret pm_M259 (r := some (.int 1)) rfl rfl ?_
              show pm_R _ 280 24 [.ref 41, .int a0, .int a1, .int a2] [.int 1] _ _
              refine pm_R_br pm_M280 (pc' := 27) (st' := []) rfl rfl ?_
              refine pm_R_lo pm_M280 (pc' := 28) rfl rfl rfl ?_
              refine pm_R_lo pm_M280 (pc' := 29) rfl rfl rfl ?_
              refine pm_R_op pm_M280 (pc' := 30) (st' := [.int (-1), .int a2, .ref 41]) rfl rfl rfl ?_
              refine pm_R_cv pm_M280 (pc' := 33) (a := 41) (ra := [.int (-1), .int a2]) (rest := []) (ls' := [.ref 41, .int a2, .int (-1), pm_no, pm_no]) rfl rfl (Or.inl rfl) pm_M281 T38.2.1 rfl (by decide) (Nat.lt_of_lt_of_le (by decide) T38.1) rfl rfl (Nat.le_of_ble_eq_true rfl) rfl rfl ?_
              refine rf_c281 (d := d + 0) T38  (fun r66 => ?_)
              show pm_R _ 280 33 [.ref 41, .int a0, .int a1, .int a2] [.int r66] _ _
              refine pm_R_br pm_M280 (pc' := 37) rfl rfl ?_
              exact pm_R_ret pm_M280 (r := some (.int r66)) rfl (pm_ret_i _) (K r66 m40 w28 h37 T38 F42 W45)
      · have B74 : sf_B 0 0 r25 := sf_eqL (Classical.not_not.mp c35) sf_k0
        refine pm_R_op pm_M275 (pc' := 18) (st' := [.int 0]) rfl rfl rfl ?_
        refine pm_R_ret pm_M275 (r := some (.int 0)) rfl rfl ?_
        show pm_R _ 280 11 [.ref 41, .int a0, .int a1, .int a2] [.int 0] _ _
        refine pm_R_br pm_M280 (pc' := 36) (st' := []) rfl rfl ?_
        refine pm_R_op pm_M280 (pc' := 37) (st' := [.int (-1)]) rfl rfl rfl ?_
        exact pm_R_ret pm_M280 (r := some (.int (-1))) rfl rfl (K (-1) m27 w28 h29 T30 F33 W34)

set_option maxRecDepth 100000 in
set_option maxHeartbeats 4000000 in
/-- SilentTableModel.mildest -/
theorem rf_c282 {d : Nat} {m : Nat → Int32} {w : Int64} {h : pm_H} {Q : Option Value → pm_H → Prop} {a0 : Int32} {a1 : Int32} (T : rf_T m w h)  (K : ∀ (r : Int32) (m' : Nat → Int32) (w' : Int64) (h' : pm_H), rf_T m' w' h' → rf_G [41, 67, 68] h h' → rf_W [0, 42, 43, 44, 49] m m' → sf_B (-1) 2147483647 r → Q (some (.int r)) h') : pm_R (d + 6) 282 0 [.ref 41, .int a0, .int a1, pm_no, pm_no, pm_no, pm_no] [] h Q := by
  refine pm_R_lo pm_M282 (pc' := 1) rfl rfl rfl ?_
  refine pm_R_op pm_M282 (pc' := 2) (st' := [.int 0, .ref 41]) rfl rfl rfl ?_
  refine rf_R_put pm_M282 T (pc' := 5) rfl rfl rfl (by decide) rfl rfl sf_k0 rfl rfl (fun h1 m4 em5 T2 F3 => ?_)
  have F6 := (rf_G.refl [41, 67, 68] h).trans F3 (by decide)
  have B7 : sf_B 0 0 (m4 0) := by rw [em5]; exact sf_k0
  have W9 : rf_W [0, 42, 43, 44, 49] m m4 := by rw [em5]; exact (rf_W.refl [0, 42, 43, 44, 49] m).put (by decide)
  refine pm_R_lo pm_M282 (pc' := 6) rfl rfl rfl ?_
  refine pm_R_lo pm_M282 (pc' := 7) rfl rfl rfl ?_
  refine pm_R_lo pm_M282 (pc' := 8) rfl rfl rfl ?_
  refine pm_R_cv pm_M282 (pc' := 11) (a := 41) (ra := [.int a1, .int a0]) (rest := []) (ls' := [.ref 41, .int a0, .int a1]) rfl rfl (Or.inl rfl) pm_M275 T2.2.1 rfl (by decide) (Nat.lt_of_lt_of_le (by decide) T2.1) rfl rfl (Nat.le_of_ble_eq_true rfl) rfl rfl ?_
  refine pm_R_lo pm_M275 (pc' := 1) rfl rfl rfl ?_
  refine pm_R_op pm_M275 (pc' := 2) (st' := [.int 3, .ref 41]) rfl rfl rfl ?_
  refine pm_R_lo pm_M275 (pc' := 3) rfl rfl rfl ?_
  refine pm_R_cv pm_M275 (pc' := 6) (a := 41) (ra := [.int a0, .int 3]) (rest := []) (ls' := [.ref 41, .int 3, .int a0]) rfl rfl (Or.inl rfl) pm_M177 T2.2.1 rfl (by decide) (Nat.lt_of_lt_of_le (by decide) T2.1) rfl rfl (Nat.le_of_ble_eq_true rfl) rfl rfl ?_
  refine pm_R_lo pm_M177 (pc' := 1) rfl rfl rfl ?_
  refine pm_R_op pm_M177 (pc' := 2) (st' := [.int 0, .int a0]) rfl rfl rfl ?_
  refine pm_R_lo pm_M177 (pc' := 3) rfl rfl rfl ?_
  refine rf_R_get pm_M177 T2 (pc' := 6) (v := .ref 46) rfl rfl rfl rfl ?_
  refine pm_R_lo pm_M177 (pc' := 7) rfl rfl rfl ?_
  obtain ⟨f10, e11, b12⟩ := T2.2.2.2.1 46 (by decide) (by decide)
  refine rf_R_ild pm_M177 T2 (pc' := 8) rfl e11 (by decide) rfl rfl (fun z13 ez14 => ?_)
  have B15 : sf_B 0 2 z13 := ez14 ▸ (b12 3)
  refine pm_R_op pm_M177 (pc' := 9) (st' := [.int 1, .int z13, .int 0, .int a0]) rfl rfl rfl ?_
  refine sf_R_isub pm_M177 (pc' := 10) rfl rfl B15 sf_k1 (by decide) (by decide) (fun z16 e17 B18 => ?_)
  refine pm_R_cs pm_M177 (pc' := 13) (ra := [.int z16, .int 0, .int a0]) (rest := []) (ls' := [.int a0, .int 0, .int z16]) rfl rfl (Or.inl rfl) pm_M174 rfl rfl (Nat.le_of_ble_eq_true rfl) rfl rfl ?_
  refine pm_R_lo pm_M174 (pc' := 1) rfl rfl rfl ?_
  refine pm_R_lo pm_M174 (pc' := 2) rfl rfl rfl ?_
  refine pm_R_icmp pm_M174 (t := 14) (pc' := 5) rfl rfl rfl (fun c19 => ?_) (fun c19 => ?_)
  · have B20 : sf_B (-2147483648) (-1) a0 := sf_ltL c19 (sf_any a0) sf_k0
    refine pm_R_op pm_M174 (pc' := 15) (st' := [.int 0]) rfl rfl rfl ?_
    refine pm_R_ret pm_M174 (r := some (.int 0)) rfl rfl ?_
    show pm_R _ 177 13 [.ref 41, .int 3, .int a0] [.int 0] _ _
    refine pm_R_ret pm_M177 (r := some (.int 0)) rfl rfl ?_
    show pm_R _ 275 6 [.ref 41, .int a0, .int a1] [.int 0] _ _
    refine pm_R_br pm_M275 (pc' := 17) (st' := []) rfl rfl ?_
    refine pm_R_op pm_M275 (pc' := 18) (st' := [.int 0]) rfl rfl rfl ?_
    refine pm_R_ret pm_M275 (r := some (.int 0)) rfl rfl ?_
    show pm_R _ 282 11 [.ref 41, .int a0, .int a1, pm_no, pm_no, pm_no, pm_no] [.int 0] _ _
    refine pm_R_br pm_M282 (pc' := 14) (st' := []) rfl rfl ?_
    refine pm_R_op pm_M282 (pc' := 15) (st' := [.int (-1)]) rfl rfl rfl ?_
    exact pm_R_ret pm_M282 (r := some (.int (-1))) rfl rfl (K (-1) m4 w h1 T2 F6 W9 (sf_weak sf_kn1 (by decide) (by decide)))
  · have B21 : sf_B 0 2147483647 a0 := sf_leR (Int32.not_lt.mp c19) sf_k0 (sf_any a0)
    refine pm_R_lo pm_M174 (pc' := 6) rfl rfl rfl ?_
    refine pm_R_lo pm_M174 (pc' := 7) rfl rfl rfl ?_
    refine pm_R_icmp pm_M174 (t := 14) (pc' := 10) rfl rfl rfl (fun c22 => ?_) (fun c22 => ?_)
    · skip
      refine pm_R_op pm_M174 (pc' := 15) (st' := [.int 0]) rfl rfl rfl ?_
      refine pm_R_ret pm_M174 (r := some (.int 0)) rfl rfl ?_
      show pm_R _ 177 13 [.ref 41, .int 3, .int a0] [.int 0] _ _
      refine pm_R_ret pm_M177 (r := some (.int 0)) rfl rfl ?_
      show pm_R _ 275 6 [.ref 41, .int a0, .int a1] [.int 0] _ _
      refine pm_R_br pm_M275 (pc' := 17) (st' := []) rfl rfl ?_
      refine pm_R_op pm_M275 (pc' := 18) (st' := [.int 0]) rfl rfl rfl ?_
      refine pm_R_ret pm_M275 (r := some (.int 0)) rfl rfl ?_
      show pm_R _ 282 11 [.ref 41, .int a0, .int a1, pm_no, pm_no, pm_no, pm_no] [.int 0] _ _
      refine pm_R_br pm_M282 (pc' := 14) (st' := []) rfl rfl ?_
      refine pm_R_op pm_M282 (pc' := 15) (st' := [.int (-1)]) rfl rfl rfl ?_
      exact pm_R_ret pm_M282 (r := some (.int (-1))) rfl rfl (K (-1) m4 w h1 T2 F6 W9 (sf_weak sf_kn1 (by decide) (by decide)))
    · have B23 : sf_B 0 1 a0 := sf_leL (Int32.not_lt.mp c22) B21 B18
      have B24 : sf_B 0 1 z16 := sf_leR (Int32.not_lt.mp c22) B21 B18
      refine pm_R_op pm_M174 (pc' := 11) (st' := [.int 1]) rfl rfl rfl ?_
      refine pm_R_br pm_M174 (pc' := 15) rfl rfl ?_
      refine pm_R_ret pm_M174 (r := some (.int 1)) rfl rfl ?_
      show pm_R _ 177 13 [.ref 41, .int 3, .int a0] [.int 1] _ _
      refine pm_R_ret pm_M177 (r := some (.int 1)) rfl rfl ?_
      show pm_R _ 275 6 [.ref 41, .int a0, .int a1] [.int 1] _ _
      refine pm_R_br pm_M275 (pc' := 9) (st' := []) rfl rfl ?_
      refine pm_R_lo pm_M275 (pc' := 10) rfl rfl rfl ?_
      refine pm_R_lo pm_M275 (pc' := 11) rfl rfl rfl ?_
      refine pm_R_cv pm_M275 (pc' := 14) (a := 41) (ra := [.int a1]) (rest := []) (ls' := [.ref 41, .int a1, pm_no, pm_no, pm_no, pm_no]) rfl rfl (Or.inl rfl) pm_M254 T2.2.1 rfl (by decide) (Nat.lt_of_lt_of_le (by decide) T2.1) rfl rfl (Nat.le_of_ble_eq_true rfl) rfl rfl ?_
      refine rf_c254 (d := d + 2) T2  (fun r25 m27 w28 h29 T30 F31 W32 B26 => ?_)
      have F33 := F6.trans F31 (by decide)
      have W34 : rf_W [0, 42, 43, 44, 49] m m27 := W9.trans W32 (by decide)
      show pm_R _ 275 14 [.ref 41, .int a0, .int a1] [.int r25] _ _
      refine pm_R_ifc pm_M275 (t := 19) (pc' := 17) rfl rfl rfl (fun c35 => ?_) (fun c35 => ?_)
      · have B36 : sf_B 1 1 r25 := sf_neL0 c35 sf_k0 B26
        refine pm_R_lo pm_M275 (pc' := 20) rfl rfl rfl ?_
        refine pm_R_lo pm_M275 (pc' := 21) rfl rfl rfl ?_
        refine rf_R_put pm_M275 T30 (pc' := 24) rfl rfl rfl (by decide) rfl rfl B23 rfl rfl (fun h37 m40 em41 T38 F39 => ?_)
        have F42 := F33.trans F39 (by decide)
        have B43 : sf_B 0 1 (m40 49) := by rw [em41]; exact B23
        have ek44 : (m40 49).toInt = (a0).toInt := by rw [em41]; rfl
        have W45 : rf_W [0, 42, 43, 44, 49] m m40 := by rw [em41]; exact W34.put (by decide)
        refine pm_R_op pm_M275 (pc' := 25) (st' := [.int 1]) rfl rfl rfl ?_
        refine pm_R_ret pm_M275 (r := some (.int 1)) rfl rfl ?_
        show pm_R _ 282 11 [.ref 41, .int a0, .int a1, pm_no, pm_no, pm_no, pm_no] [.int 1] _ _
        refine pm_R_br pm_M282 (pc' := 16) (st' := []) rfl rfl ?_
        refine pm_R_op pm_M282 (pc' := 17) (st' := [.int (-1)]) rfl rfl rfl ?_
        refine pm_R_lo pm_M282 (pc' := 18) (ls' := [.ref 41, .int a0, .int a1, .int (-1), pm_no, pm_no, pm_no]) (st' := []) rfl rfl rfl ?_
        refine pm_R_op pm_M282 (pc' := 20) (st' := [.int 51]) rfl rfl rfl ?_
        refine pm_R_lo pm_M282 (pc' := 22) (ls' := [.ref 41, .int a0, .int a1, .int (-1), .int 51, pm_no, pm_no]) (st' := []) rfl rfl rfl ?_
        refine pm_R_op pm_M282 (pc' := 23) (st' := [.int 0]) rfl rfl rfl ?_
        refine pm_R_lo pm_M282 (pc' := 25) (ls' := [.ref 41, .int a0, .int a1, .int (-1), .int 51, .int 0, pm_no]) (st' := []) rfl rfl rfl ?_
        have L_266 : ∀ (N : Nat) (x3_266 : Int32) (x4_266 : Int32) (x5_266 : Int32) (g6_266 : Value), sf_B (-1) 2147483647 x3_266 → sf_B (-2147483648) 51 x4_266 → sf_B 0 8 x5_266 → g6_266.category = 1 → (8 - x5_266.toInt).toNat = N → pm_R (d + 6) 282 25 [.ref 41, .int a0, .int a1, .int x3_266, .int x4_266, .int x5_266, g6_266] [] h37 Q := by
          intro N
          induction N using Nat.strongRecOn with
          | ind N ih_266 =>
            intro x3_266 x4_266 x5_266 g6_266 Bx3_266 Bx4_266 Bx5_266 Cg6_266 hN_266
            refine pm_R_lo pm_M282 (pc' := 27) rfl rfl rfl ?_
            refine pm_R_lo pm_M282 (pc' := 28) rfl rfl rfl ?_
            refine pm_R_cv pm_M282 (pc' := 31) (a := 41) (ra := []) (rest := [.int x5_266]) (ls' := [.ref 41]) rfl rfl (Or.inl rfl) pm_M272 T38.2.1 rfl (by decide) (Nat.lt_of_lt_of_le (by decide) T38.1) rfl rfl (Nat.le_of_ble_eq_true rfl) rfl rfl ?_
            refine pm_R_lo pm_M272 (pc' := 1) rfl rfl rfl ?_
            refine rf_R_get pm_M272 T38 (pc' := 4) (v := .ref 50) rfl rfl rfl rfl ?_
            refine pm_R_op pm_M272 (pc' := 6) (st' := [.int 25, .ref 50]) rfl rfl rfl ?_
            refine pm_R_lo pm_M272 (pc' := 7) rfl rfl rfl ?_
            refine rf_R_get pm_M272 T38 (pc' := 10) (v := .int (m40 49)) rfl rfl rfl rfl ?_
            refine sf_R_imul pm_M272 (pc' := 11) rfl rfl sf_k25 B43 (by decide) (by decide) (by decide) (fun z267 e268 B269 => ?_)
            obtain ⟨f270, e271, b272⟩ := T38.2.2.2.1 50 (by decide) (by decide)
            refine rf_R_ild pm_M272 T38 (pc' := 12) rfl e271 (by decide) (sf_in B269 (by decide) (by decide)) rfl (fun z273 ez274 => ?_)
            have e275 : (z267).toInt = 25 * (a0).toInt + 0 := by
              have q0 := ek44
              have q1 := e268
              simp only [(show (25 : Int32).toInt = 25 from rfl)] at q0 q1
              omega
            have B276 : sf_B 0 8 z273 := ez274 ▸ rf_p50a b272 e275 B23 (by decide)
            refine pm_R_ret pm_M272 (r := some (.int z273)) rfl (pm_ret_i _) ?_
            show pm_R _ 282 31 [.ref 41, .int a0, .int a1, .int x3_266, .int x4_266, .int x5_266, g6_266] [.int z273, .int x5_266] _ _
            refine pm_R_icmp pm_M282 (t := 72) (pc' := 34) rfl rfl rfl (fun c277 => ?_) (fun c277 => ?_)
            · skip
              refine pm_R_lo pm_M282 (pc' := 73) rfl rfl rfl ?_
              exact pm_R_ret pm_M282 (r := some (.int x3_266)) rfl (pm_ret_i _) (K x3_266 m40 w28 h37 T38 F42 W45 Bx3_266)
            · have B278 : sf_B 0 7 x5_266 := sf_ltL (Int32.not_le.mp c277) Bx5_266 B276
              have B279 : sf_B 1 8 z273 := sf_ltR (Int32.not_le.mp c277) Bx5_266 B276
              refine pm_R_lo pm_M282 (pc' := 35) rfl rfl rfl ?_
              refine pm_R_op pm_M282 (pc' := 36) (st' := [.int (-1), .ref 41]) rfl rfl rfl ?_
              refine pm_R_lo pm_M282 (pc' := 38) rfl rfl rfl ?_
              refine pm_R_cv pm_M282 (pc' := 41) (a := 41) (ra := [.int x5_266, .int (-1)]) (rest := []) (ls' := [.ref 41, .int (-1), .int x5_266, pm_no, pm_no]) rfl rfl (Or.inl rfl) pm_M281 T38.2.1 rfl (by decide) (Nat.lt_of_lt_of_le (by decide) T38.1) rfl rfl (Nat.le_of_ble_eq_true rfl) rfl rfl ?_
              refine rf_c281 (d := d + 0) T38  (fun r280 => ?_)
              show pm_R _ 282 41 [.ref 41, .int a0, .int a1, .int x3_266, .int x4_266, .int x5_266, g6_266] [.int r280] _ _
              refine pm_R_lo pm_M282 (pc' := 43) (ls' := [.ref 41, .int a0, .int a1, .int x3_266, .int x4_266, .int x5_266, .int r280]) (st' := []) rfl rfl rfl ?_
              refine pm_R_lo pm_M282 (pc' := 45) rfl rfl rfl ?_
              refine pm_R_lo pm_M282 (pc' := 47) rfl rfl rfl ?_
              refine pm_R_icmp pm_M282 (t := 55) (pc' := 50) rfl rfl rfl (fun c288 => ?_) (fun c288 => ?_)
              · skip
                refine pm_R_lo pm_M282 (pc' := 56) rfl rfl rfl ?_
                refine pm_R_lo pm_M282 (pc' := 57) (ls' := [.ref 41, .int a0, .int a1, .int x3_266, .int x4_266, .int x5_266, .int r280]) (st' := []) rfl rfl rfl ?_
                refine pm_R_lo pm_M282 (pc' := 59) rfl rfl rfl ?_
                refine pm_R_lo pm_M282 (pc' := 61) rfl rfl rfl ?_
                refine pm_R_cs pm_M282 (pc' := 64) (ra := [.int x4_266, .int r280]) (rest := []) (ls' := [.int r280, .int x4_266]) rfl rfl (Or.inl rfl) pm_M283 rfl rfl (Nat.le_of_ble_eq_true rfl) rfl rfl ?_
                refine pm_R_lo pm_M283 (pc' := 1) rfl rfl rfl ?_
                refine pm_R_lo pm_M283 (pc' := 2) rfl rfl rfl ?_
                refine pm_R_icmp pm_M283 (t := 9) (pc' := 5) rfl rfl rfl (fun c289 => ?_) (fun c289 => ?_)
                · skip
                  refine pm_R_lo pm_M283 (pc' := 10) rfl rfl rfl ?_
                  refine pm_R_ret pm_M283 (r := some (.int x4_266)) rfl (pm_ret_i _) ?_
                  show pm_R _ 282 64 [.ref 41, .int a0, .int a1, .int x3_266, .int x4_266, .int x5_266, .int r280] [.int x4_266] _ _
                  refine pm_R_lo pm_M282 (pc' := 66) (ls' := [.ref 41, .int a0, .int a1, .int x3_266, .int x4_266, .int x5_266, .int r280]) (st' := []) rfl rfl rfl ?_
                  refine sf_R_iinc pm_M282 (pc' := 69) (ls' := fun z => [.ref 41, .int a0, .int a1, .int x3_266, .int x4_266, .int z, .int r280]) rfl B278 rfl (by decide) (by decide) (by decide) (fun _ => rfl) rfl (fun z290 e291 B292 => ?_)
                  show pm_R _ 282 69 [.ref 41, .int a0, .int a1, .int x3_266, .int x4_266, .int z290, .int r280] [] _ _
                  refine pm_R_br pm_M282 (pc' := 25) rfl rfl ?_
                  exact ih_266 _ (sf_up hN_266 e291 B278 (by decide) (by decide)) x3_266 x4_266 z290 (.int r280) Bx3_266 Bx4_266 (sf_weak B292 (by decide) (by decide)) rfl rfl
                · have B293 : sf_B (-2147483648) 50 r280 := sf_ltL (Int32.not_le.mp c289) (sf_any r280) Bx4_266
                  have B294 : sf_B (-2147483647) 51 x4_266 := sf_ltR (Int32.not_le.mp c289) (sf_any r280) Bx4_266
                  refine pm_R_lo pm_M283 (pc' := 6) rfl rfl rfl ?_
                  refine pm_R_br pm_M283 (pc' := 10) rfl rfl ?_
                  refine pm_R_ret pm_M283 (r := some (.int r280)) rfl (pm_ret_i _) ?_
                  show pm_R _ 282 64 [.ref 41, .int a0, .int a1, .int x3_266, .int x4_266, .int x5_266, .int r280] [.int r280] _ _
                  refine pm_R_lo pm_M282 (pc' := 66) (ls' := [.ref 41, .int a0, .int a1, .int x3_266, .int r280, .int x5_266, .int r280]) (st' := []) rfl rfl rfl ?_
                  refine sf_R_iinc pm_M282 (pc' := 69) (ls' := fun z => [.ref 41, .int a0, .int a1, .int x3_266, .int r280, .int z, .int r280]) rfl B278 rfl (by decide) (by decide) (by decide) (fun _ => rfl) rfl (fun z295 e296 B297 => ?_)
                  show pm_R _ 282 69 [.ref 41, .int a0, .int a1, .int x3_266, .int r280, .int z295, .int r280] [] _ _
                  refine pm_R_br pm_M282 (pc' := 25) rfl rfl ?_
                  exact ih_266 _ (sf_up hN_266 e296 B278 (by decide) (by decide)) x3_266 r280 z295 (.int r280) Bx3_266 (sf_weak B293 (by decide) (by decide)) (sf_weak B297 (by decide) (by decide)) rfl rfl
              · have B298 : sf_B (-2147483648) 50 r280 := sf_ltL (Int32.not_le.mp c288) (sf_any r280) Bx4_266
                have B299 : sf_B (-2147483647) 51 x4_266 := sf_ltR (Int32.not_le.mp c288) (sf_any r280) Bx4_266
                refine pm_R_lo pm_M282 (pc' := 52) rfl rfl rfl ?_
                refine pm_R_br pm_M282 (pc' := 56) rfl rfl ?_
                refine pm_R_lo pm_M282 (pc' := 57) (ls' := [.ref 41, .int a0, .int a1, .int x5_266, .int x4_266, .int x5_266, .int r280]) (st' := []) rfl rfl rfl ?_
                refine pm_R_lo pm_M282 (pc' := 59) rfl rfl rfl ?_
                refine pm_R_lo pm_M282 (pc' := 61) rfl rfl rfl ?_
                refine pm_R_cs pm_M282 (pc' := 64) (ra := [.int x4_266, .int r280]) (rest := []) (ls' := [.int r280, .int x4_266]) rfl rfl (Or.inl rfl) pm_M283 rfl rfl (Nat.le_of_ble_eq_true rfl) rfl rfl ?_
                refine pm_R_lo pm_M283 (pc' := 1) rfl rfl rfl ?_
                refine pm_R_lo pm_M283 (pc' := 2) rfl rfl rfl ?_
                refine pm_R_icmp pm_M283 (t := 9) (pc' := 5) rfl rfl rfl (fun c300 => ?_) (fun c300 => ?_)
                · have B301 : sf_B (-2147483647) 50 x4_266 := sf_leL c300 B299 B298
                  have B302 : sf_B (-2147483647) 50 r280 := sf_leR c300 B299 B298
                  refine pm_R_lo pm_M283 (pc' := 10) rfl rfl rfl ?_
                  refine pm_R_ret pm_M283 (r := some (.int x4_266)) rfl (pm_ret_i _) ?_
                  show pm_R _ 282 64 [.ref 41, .int a0, .int a1, .int x5_266, .int x4_266, .int x5_266, .int r280] [.int x4_266] _ _
                  refine pm_R_lo pm_M282 (pc' := 66) (ls' := [.ref 41, .int a0, .int a1, .int x5_266, .int x4_266, .int x5_266, .int r280]) (st' := []) rfl rfl rfl ?_
                  refine sf_R_iinc pm_M282 (pc' := 69) (ls' := fun z => [.ref 41, .int a0, .int a1, .int x5_266, .int x4_266, .int z, .int r280]) rfl B278 rfl (by decide) (by decide) (by decide) (fun _ => rfl) rfl (fun z303 e304 B305 => ?_)
                  show pm_R _ 282 69 [.ref 41, .int a0, .int a1, .int x5_266, .int x4_266, .int z303, .int r280] [] _ _
                  refine pm_R_br pm_M282 (pc' := 25) rfl rfl ?_
                  exact ih_266 _ (sf_up hN_266 e304 B278 (by decide) (by decide)) x5_266 x4_266 z303 (.int r280) (sf_weak B278 (by decide) (by decide)) (sf_weak B301 (by decide) (by decide)) (sf_weak B305 (by decide) (by decide)) rfl rfl
                · skip
                  refine pm_R_lo pm_M283 (pc' := 6) rfl rfl rfl ?_
                  refine pm_R_br pm_M283 (pc' := 10) rfl rfl ?_
                  refine pm_R_ret pm_M283 (r := some (.int r280)) rfl (pm_ret_i _) ?_
                  show pm_R _ 282 64 [.ref 41, .int a0, .int a1, .int x5_266, .int x4_266, .int x5_266, .int r280] [.int r280] _ _
                  refine pm_R_lo pm_M282 (pc' := 66) (ls' := [.ref 41, .int a0, .int a1, .int x5_266, .int r280, .int x5_266, .int r280]) (st' := []) rfl rfl rfl ?_
                  refine sf_R_iinc pm_M282 (pc' := 69) (ls' := fun z => [.ref 41, .int a0, .int a1, .int x5_266, .int r280, .int z, .int r280]) rfl B278 rfl (by decide) (by decide) (by decide) (fun _ => rfl) rfl (fun z306 e307 B308 => ?_)
                  show pm_R _ 282 69 [.ref 41, .int a0, .int a1, .int x5_266, .int r280, .int z306, .int r280] [] _ _
                  refine pm_R_br pm_M282 (pc' := 25) rfl rfl ?_
                  exact ih_266 _ (sf_up hN_266 e307 B278 (by decide) (by decide)) x5_266 r280 z306 (.int r280) (sf_weak B278 (by decide) (by decide)) (sf_weak B298 (by decide) (by decide)) (sf_weak B308 (by decide) (by decide)) rfl rfl
        exact L_266 _ (-1) 51 0 (pm_no) (sf_weak sf_kn1 (by decide) (by decide)) (sf_weak sf_k51 (by decide) (by decide)) (sf_weak sf_k0 (by decide) (by decide)) rfl rfl
      · have B309 : sf_B 0 0 r25 := sf_eqL (Classical.not_not.mp c35) sf_k0
        refine pm_R_op pm_M275 (pc' := 18) (st' := [.int 0]) rfl rfl rfl ?_
        refine pm_R_ret pm_M275 (r := some (.int 0)) rfl rfl ?_
        show pm_R _ 282 11 [.ref 41, .int a0, .int a1, pm_no, pm_no, pm_no, pm_no] [.int 0] _ _
        refine pm_R_br pm_M282 (pc' := 14) (st' := []) rfl rfl ?_
        refine pm_R_op pm_M282 (pc' := 15) (st' := [.int (-1)]) rfl rfl rfl ?_
        exact pm_R_ret pm_M282 (r := some (.int (-1))) rfl rfl (K (-1) m27 w28 h29 T30 F33 W34 (sf_weak sf_kn1 (by decide) (by decide)))

set_option maxRecDepth 100000 in
set_option maxHeartbeats 4000000 in
/-- SilentTableModel.hears -/
theorem rf_c291 {d : Nat} {m : Nat → Int32} {w : Int64} {h : pm_H} {Q : Option Value → pm_H → Prop} {a0 : Int32} {a1 : Int32} (T : rf_T m w h)  (K : ∀ (r : Int32) (m' : Nat → Int32) (w' : Int64) (h' : pm_H), rf_T m' w' h' → rf_G [41, 67, 68] h h' → rf_W [0, 42, 43, 44] m m' → Q (some (.int r)) h') : pm_R (d + 4) 291 0 [.ref 41, .int a0, .int a1, pm_no, pm_no, pm_no] [] h Q := by
  refine pm_R_lo pm_M291 (pc' := 1) rfl rfl rfl ?_
  refine pm_R_op pm_M291 (pc' := 2) (st' := [.int 0, .ref 41]) rfl rfl rfl ?_
  refine rf_R_put pm_M291 T (pc' := 5) rfl rfl rfl (by decide) rfl rfl sf_k0 rfl rfl (fun h1 m4 em5 T2 F3 => ?_)
  have F6 := (rf_G.refl [41, 67, 68] h).trans F3 (by decide)
  have B7 : sf_B 0 0 (m4 0) := by rw [em5]; exact sf_k0
  have W9 : rf_W [0, 42, 43, 44] m m4 := by rw [em5]; exact (rf_W.refl [0, 42, 43, 44] m).put (by decide)
  refine pm_R_lo pm_M291 (pc' := 6) rfl rfl rfl ?_
  refine pm_R_lo pm_M291 (pc' := 7) rfl rfl rfl ?_
  refine pm_R_cv pm_M291 (pc' := 10) (a := 41) (ra := [.int a0]) (rest := []) (ls' := [.ref 41, .int a0, pm_no, pm_no, pm_no, pm_no]) rfl rfl (Or.inl rfl) pm_M254 T2.2.1 rfl (by decide) (Nat.lt_of_lt_of_le (by decide) T2.1) rfl rfl (Nat.le_of_ble_eq_true rfl) rfl rfl ?_
  refine rf_c254 (d := d + 1) T2  (fun r10 m12 w13 h14 T15 F16 W17 B11 => ?_)
  have F18 := F6.trans F16 (by decide)
  have W19 : rf_W [0, 42, 43, 44] m m12 := W9.trans W17 (by decide)
  show pm_R _ 291 10 [.ref 41, .int a0, .int a1, pm_no, pm_no, pm_no] [.int r10] _ _
  refine pm_R_ifc pm_M291 (t := 16) (pc' := 13) rfl rfl rfl (fun c20 => ?_) (fun c20 => ?_)
  · have B21 : sf_B 1 1 r10 := sf_neL0 c20 sf_k0 B11
    refine pm_R_lo pm_M291 (pc' := 17) rfl rfl rfl ?_
    refine pm_R_ifc pm_M291 (t := 25) (pc' := 20) rfl rfl rfl (fun c22 => ?_) (fun c22 => ?_)
    · skip
      refine pm_R_op pm_M291 (pc' := 26) (st' := [.int 0]) rfl rfl rfl ?_
      refine pm_R_lo pm_M291 (pc' := 27) (ls' := [.ref 41, .int a0, .int a1, .int 0, pm_no, pm_no]) (st' := []) rfl rfl rfl ?_
      refine pm_R_op pm_M291 (pc' := 28) (st' := [.int 0]) rfl rfl rfl ?_
      refine pm_R_lo pm_M291 (pc' := 30) (ls' := [.ref 41, .int a0, .int a1, .int 0, .int 0, pm_no]) (st' := []) rfl rfl rfl ?_
      refine pm_R_op pm_M291 (pc' := 31) (st' := [.int 0]) rfl rfl rfl ?_
      refine pm_R_lo pm_M291 (pc' := 33) (ls' := [.ref 41, .int a0, .int a1, .int 0, .int 0, .int 0]) (st' := []) rfl rfl rfl ?_
      have L_1155 : ∀ (N : Nat) (x3_1155 : Int32) (x4_1155 : Int32) (x5_1155 : Int32), sf_B (-2147483648) 2147483647 x3_1155 → sf_B (-2147483648) 2147483647 x4_1155 → sf_B 0 50 x5_1155 → (50 - x5_1155.toInt).toNat = N → pm_R (d + 4) 291 33 [.ref 41, .int a0, .int a1, .int x3_1155, .int x4_1155, .int x5_1155] [] h14 Q := by
        intro N
        induction N using Nat.strongRecOn with
        | ind N ih_1155 =>
          intro x3_1155 x4_1155 x5_1155 Bx3_1155 Bx4_1155 Bx5_1155 hN_1155
          refine pm_R_lo pm_M291 (pc' := 35) rfl rfl rfl ?_
          refine pm_R_lo pm_M291 (pc' := 36) rfl rfl rfl ?_
          have B1156 : sf_B 0 50 (m12 43) := T15.2.2.1 43
          refine rf_R_get pm_M291 T15 (pc' := 39) (v := .int (m12 43)) rfl rfl rfl rfl ?_
          refine pm_R_icmp pm_M291 (t := 126) (pc' := 42) rfl rfl rfl (fun c1157 => ?_) (fun c1157 => ?_)
          · skip
            refine pm_R_lo pm_M291 (pc' := 127) (pm_q291_1 (Nat.le_of_ble_eq_true rfl)) rfl rfl ?_
            refine pm_R_op pm_M291 (pc' := 128) (st' := [.int 1, .int a1]) (pm_q291_1 (Nat.le_of_ble_eq_true rfl)) rfl rfl ?_
            refine pm_R_icmp pm_M291 (t := 135) (pc' := 131) (pm_q291_1 (Nat.le_of_ble_eq_true rfl)) rfl rfl (fun c1158 => ?_) (fun c1158 => ?_)
            · skip
              refine pm_R_lo pm_M291 (pc' := 136) (pm_q291_1 (Nat.le_of_ble_eq_true rfl)) rfl rfl ?_
              refine pm_R_op pm_M291 (pc' := 138) (st' := [.int 10, .int a1]) (pm_q291_1 (Nat.le_of_ble_eq_true rfl)) rfl rfl ?_
              refine pm_R_op pm_M291 (pc' := 140) (st' := [.int 9, .int 10, .int a1]) (pm_q291_1 (Nat.le_of_ble_eq_true rfl)) rfl rfl ?_
              refine pm_R_lo pm_M291 (pc' := 141) (pm_q291_1 (Nat.le_of_ble_eq_true rfl)) rfl rfl ?_
              have B1159 : sf_B 0 6 (m12 42) := T15.2.2.1 42
              refine rf_R_get pm_M291 T15 (pc' := 144) (v := .int (m12 42)) (pm_q291_1 (Nat.le_of_ble_eq_true rfl)) rfl rfl rfl ?_
              refine sf_R_iadd pm_M291 (pc' := 145) (pm_q291_1 (Nat.le_of_ble_eq_true rfl)) rfl sf_k9 B1159 (by decide) (by decide) (fun z1160 e1161 B1162 => ?_)
              refine pm_R_cs pm_M291 (pc' := 148) (ra := [.int z1160, .int 10, .int a1]) (rest := []) (ls' := [.int a1, .int 10, .int z1160]) (pm_q291_1 (Nat.le_of_ble_eq_true rfl)) rfl (Or.inl rfl) pm_M174 rfl rfl (Nat.le_of_ble_eq_true rfl) rfl rfl ?_
              refine pm_R_lo pm_M174 (pc' := 1) rfl rfl rfl ?_
              refine pm_R_lo pm_M174 (pc' := 2) rfl rfl rfl ?_
              refine pm_R_icmp pm_M174 (t := 14) (pc' := 5) rfl rfl rfl (fun c1163 => ?_) (fun c1163 => ?_)
              · have B1164 : sf_B (-2147483648) 9 a1 := sf_ltL c1163 (sf_any a1) sf_k10
                refine pm_R_op pm_M174 (pc' := 15) (st' := [.int 0]) rfl rfl rfl ?_
                refine pm_R_ret pm_M174 (r := some (.int 0)) rfl rfl ?_
                show pm_R _ 291 148 [.ref 41, .int a0, .int a1, .int x3_1155, .int x4_1155, .int x5_1155] [.int 0] _ _
                refine pm_R_br pm_M291 (pc' := 156) (st' := []) (pm_q291_1 (Nat.le_of_ble_eq_true rfl)) rfl ?_
                refine pm_R_op pm_M291 (pc' := 158) (st' := [.int (-2)]) (pm_q291_1 (Nat.le_of_ble_eq_true rfl)) rfl rfl ?_
                exact pm_R_ret pm_M291 (r := some (.int (-2))) (pm_q291_1 (Nat.le_of_ble_eq_true rfl)) rfl (K (-2) m12 w13 h14 T15 F18 W19)
              · have B1165 : sf_B 10 2147483647 a1 := sf_leR (Int32.not_lt.mp c1163) sf_k10 (sf_any a1)
                refine pm_R_lo pm_M174 (pc' := 6) rfl rfl rfl ?_
                refine pm_R_lo pm_M174 (pc' := 7) rfl rfl rfl ?_
                refine pm_R_icmp pm_M174 (t := 14) (pc' := 10) rfl rfl rfl (fun c1166 => ?_) (fun c1166 => ?_)
                · skip
                  refine pm_R_op pm_M174 (pc' := 15) (st' := [.int 0]) rfl rfl rfl ?_
                  refine pm_R_ret pm_M174 (r := some (.int 0)) rfl rfl ?_
                  show pm_R _ 291 148 [.ref 41, .int a0, .int a1, .int x3_1155, .int x4_1155, .int x5_1155] [.int 0] _ _
                  refine pm_R_br pm_M291 (pc' := 156) (st' := []) (pm_q291_1 (Nat.le_of_ble_eq_true rfl)) rfl ?_
                  refine pm_R_op pm_M291 (pc' := 158) (st' := [.int (-2)]) (pm_q291_1 (Nat.le_of_ble_eq_true rfl)) rfl rfl ?_
                  exact pm_R_ret pm_M291 (r := some (.int (-2))) (pm_q291_1 (Nat.le_of_ble_eq_true rfl)) rfl (K (-2) m12 w13 h14 T15 F18 W19)
                · have B1167 : sf_B 10 15 a1 := sf_leL (Int32.not_lt.mp c1166) B1165 B1162
                  have B1168 : sf_B 10 15 z1160 := sf_leR (Int32.not_lt.mp c1166) B1165 B1162
                  refine pm_R_op pm_M174 (pc' := 11) (st' := [.int 1]) rfl rfl rfl ?_
                  refine pm_R_br pm_M174 (pc' := 15) rfl rfl ?_
                  refine pm_R_ret pm_M174 (r := some (.int 1)) rfl rfl ?_
                  show pm_R _ 291 148 [.ref 41, .int a0, .int a1, .int x3_1155, .int x4_1155, .int x5_1155] [.int 1] _ _
                  refine pm_R_br pm_M291 (pc' := 151) (st' := []) (pm_q291_1 (Nat.le_of_ble_eq_true rfl)) rfl ?_
                  refine pm_R_lo pm_M291 (pc' := 153) (pm_q291_1 (Nat.le_of_ble_eq_true rfl)) rfl rfl ?_
                  refine pm_R_br pm_M291 (pc' := 158) (pm_q291_1 (Nat.le_of_ble_eq_true rfl)) rfl ?_
                  exact pm_R_ret pm_M291 (r := some (.int x4_1155)) (pm_q291_1 (Nat.le_of_ble_eq_true rfl)) (pm_ret_i _) (K x4_1155 m12 w13 h14 T15 F18 W19)
            · have B1169 : sf_B 1 1 a1 := sf_eqL (Classical.not_not.mp c1158) sf_k1
              refine pm_R_lo pm_M291 (pc' := 132) (pm_q291_1 (Nat.le_of_ble_eq_true rfl)) rfl rfl ?_
              refine pm_R_br pm_M291 (pc' := 158) (pm_q291_1 (Nat.le_of_ble_eq_true rfl)) rfl ?_
              exact pm_R_ret pm_M291 (r := some (.int x3_1155)) (pm_q291_1 (Nat.le_of_ble_eq_true rfl)) (pm_ret_i _) (K x3_1155 m12 w13 h14 T15 F18 W19)
          · have B1170 : sf_B 0 49 x5_1155 := sf_ltL (Int32.not_le.mp c1157) Bx5_1155 B1156
            have B1171 : sf_B 1 50 (m12 43) := sf_ltR (Int32.not_le.mp c1157) Bx5_1155 B1156
            refine pm_R_lo pm_M291 (pc' := 43) rfl rfl rfl ?_
            refine pm_R_lo pm_M291 (pc' := 44) rfl rfl rfl ?_
            refine pm_R_lo pm_M291 (pc' := 46) rfl rfl rfl ?_
            refine pm_R_cv pm_M291 (pc' := 49) (a := 41) (ra := [.int x5_1155]) (rest := [.int x3_1155]) (ls' := [.ref 41, .int x5_1155]) rfl rfl (Or.inl rfl) pm_M256 T15.2.1 rfl (by decide) (Nat.lt_of_lt_of_le (by decide) T15.1) rfl rfl (Nat.le_of_ble_eq_true rfl) rfl rfl ?_
            refine pm_R_lo pm_M256 (pc' := 1) rfl rfl rfl ?_
            refine pm_R_lo pm_M256 (pc' := 2) rfl rfl rfl ?_
            refine pm_R_op pm_M256 (pc' := 3) (st' := [.int 0, .int x5_1155, .ref 41]) rfl rfl rfl ?_
            refine pm_R_cv pm_M256 (pc' := 6) (a := 41) (ra := [.int 0, .int x5_1155]) (rest := []) (ls' := [.ref 41, .int x5_1155, .int 0]) rfl rfl (Or.inl rfl) pm_M255 T15.2.1 rfl (by decide) (Nat.lt_of_lt_of_le (by decide) T15.1) rfl rfl (Nat.le_of_ble_eq_true rfl) rfl rfl ?_
            refine pm_R_lo pm_M255 (pc' := 1) rfl rfl rfl ?_
            refine rf_R_get pm_M255 T15 (pc' := 4) (v := .ref 49) rfl rfl rfl rfl ?_
            refine pm_R_op pm_M255 (pc' := 7) (st' := [.int 152, .ref 49]) rfl rfl rfl ?_
            refine pm_R_lo pm_M255 (pc' := 8) rfl rfl rfl ?_
            have B1172 : sf_B 0 1 (m12 44) := T15.2.2.1 44
            refine rf_R_get pm_M255 T15 (pc' := 11) (v := .int (m12 44)) rfl rfl rfl rfl ?_
            refine sf_R_imul pm_M255 (pc' := 12) rfl rfl sf_k152 B1172 (by decide) (by decide) (by decide) (fun z1173 e1174 B1175 => ?_)
            refine pm_R_op pm_M255 (pc' := 13) (st' := [.int 2, .int z1173, .ref 49]) rfl rfl rfl ?_
            refine sf_R_iadd pm_M255 (pc' := 14) rfl rfl B1175 sf_k2 (by decide) (by decide) (fun z1176 e1177 B1178 => ?_)
            refine pm_R_op pm_M255 (pc' := 15) (st' := [.int 3, .int z1176, .ref 49]) rfl rfl rfl ?_
            refine pm_R_lo pm_M255 (pc' := 16) rfl rfl rfl ?_
            refine sf_R_imul pm_M255 (pc' := 17) rfl rfl sf_k3 B1170 (by decide) (by decide) (by decide) (fun z1179 e1180 B1181 => ?_)
            refine sf_R_iadd pm_M255 (pc' := 18) rfl rfl B1178 B1181 (by decide) (by decide) (fun z1182 e1183 B1184 => ?_)
            refine pm_R_lo pm_M255 (pc' := 19) rfl rfl rfl ?_
            refine sf_R_iadd pm_M255 (pc' := 20) rfl rfl B1184 sf_k0 (by decide) (by decide) (fun z1185 e1186 B1187 => ?_)
            obtain ⟨f1188, e1189, b1190⟩ := T15.2.2.2.1 49 (by decide) (by decide)
            refine rf_R_ild pm_M255 T15 (pc' := 21) rfl e1189 (by decide) (sf_in B1187 (by decide) (by decide)) rfl (fun z1191 ez1192 => ?_)
            have e1193 : (z1185).toInt = 152 * ((m12 44)).toInt + 3 * (x5_1155).toInt + 2 := by
              have q0 := e1174
              have q1 := e1177
              have q2 := e1180
              have q3 := e1183
              have q4 := e1186
              simp only [(show (0 : Int32).toInt = 0 from rfl), (show (2 : Int32).toInt = 2 from rfl), (show (3 : Int32).toInt = 3 from rfl), (show (152 : Int32).toInt = 152 from rfl)] at q0 q1 q2 q3 q4
              omega
            have B1194 : sf_B 0 2 z1191 := ez1192 ▸ rf_p49s b1190 e1193 B1172 B1170 (by decide) (by decide) (by decide)
            refine pm_R_ret pm_M255 (r := some (.int z1191)) rfl (pm_ret_i _) ?_
            show pm_R _ 256 6 [.ref 41, .int x5_1155] [.int z1191] _ _
            refine pm_R_op pm_M256 (pc' := 7) (st' := [.int 2, .int z1191]) rfl rfl rfl ?_
            refine pm_R_icmp pm_M256 (t := 14) (pc' := 10) rfl rfl rfl (fun c1195 => ?_) (fun c1195 => ?_)
            · have B1196 : sf_B 0 1 z1191 := sf_neH0 c1195 sf_k2 B1194
              refine pm_R_op pm_M256 (pc' := 15) (st' := [.int 0]) rfl rfl rfl ?_
              refine pm_R_ret pm_M256 (r := some (.int 0)) rfl rfl ?_
              show pm_R _ 291 49 [.ref 41, .int a0, .int a1, .int x3_1155, .int x4_1155, .int x5_1155] [.int 0, .int x3_1155] _ _
              refine pm_R_br pm_M291 (pc' := 78) (st' := [.int x3_1155]) rfl rfl ?_
              refine pm_R_op pm_M291 (pc' := 79) (st' := [.int 0, .int x3_1155]) rfl rfl rfl ?_
              refine sf_R_iadd pm_M291 (pc' := 80) rfl rfl Bx3_1155 sf_k0 (by decide) (by decide) (fun z1197 e1198 B1199 => ?_)
              refine pm_R_lo pm_M291 (pc' := 81) (ls' := [.ref 41, .int a0, .int a1, .int z1197, .int x4_1155, .int x5_1155]) (st' := []) rfl rfl rfl ?_
              refine pm_R_lo pm_M291 (pc' := 83) rfl rfl rfl ?_
              refine pm_R_lo pm_M291 (pc' := 84) rfl rfl rfl ?_
              refine pm_R_op pm_M291 (pc' := 86) (st' := [.int 10, .int a1, .int x4_1155]) rfl rfl rfl ?_
              refine pm_R_op pm_M291 (pc' := 88) (st' := [.int 15, .int 10, .int a1, .int x4_1155]) rfl rfl rfl ?_
              refine pm_R_cs pm_M291 (pc' := 91) (ra := [.int 15, .int 10, .int a1]) (rest := [.int x4_1155]) (ls' := [.int a1, .int 10, .int 15]) rfl rfl (Or.inl rfl) pm_M174 rfl rfl (Nat.le_of_ble_eq_true rfl) rfl rfl ?_
              refine pm_R_lo pm_M174 (pc' := 1) rfl rfl rfl ?_
              refine pm_R_lo pm_M174 (pc' := 2) rfl rfl rfl ?_
              refine pm_R_icmp pm_M174 (t := 14) (pc' := 5) rfl rfl rfl (fun c1200 => ?_) (fun c1200 => ?_)
              · have B1201 : sf_B (-2147483648) 9 a1 := sf_ltL c1200 (sf_any a1) sf_k10
                refine pm_R_op pm_M174 (pc' := 15) (st' := [.int 0]) rfl rfl rfl ?_
                refine pm_R_ret pm_M174 (r := some (.int 0)) rfl rfl ?_
                show pm_R _ 291 91 [.ref 41, .int a0, .int a1, .int z1197, .int x4_1155, .int x5_1155] [.int 0, .int x4_1155] _ _
                refine pm_R_br pm_M291 (pc' := 116) (st' := [.int x4_1155]) rfl rfl ?_
                refine pm_R_op pm_M291 (pc' := 117) (st' := [.int 0, .int x4_1155]) (pm_q291_1 (Nat.le_of_ble_eq_true rfl)) rfl rfl ?_
                refine sf_R_iadd pm_M291 (pc' := 118) (pm_q291_1 (Nat.le_of_ble_eq_true rfl)) rfl Bx4_1155 sf_k0 (by decide) (by decide) (fun z1202 e1203 B1204 => ?_)
                refine pm_R_lo pm_M291 (pc' := 120) (ls' := [.ref 41, .int a0, .int a1, .int z1197, .int z1202, .int x5_1155]) (st' := []) (pm_q291_1 (Nat.le_of_ble_eq_true rfl)) rfl rfl ?_
                refine sf_R_iinc pm_M291 (pc' := 123) (ls' := fun z => [.ref 41, .int a0, .int a1, .int z1197, .int z1202, .int z]) (pm_q291_1 (Nat.le_of_ble_eq_true rfl)) B1170 rfl (by decide) (by decide) (by decide) (fun _ => rfl) rfl (fun z1205 e1206 B1207 => ?_)
                show pm_R _ 291 123 [.ref 41, .int a0, .int a1, .int z1197, .int z1202, .int z1205] [] _ _
                refine pm_R_br pm_M291 (pc' := 33) (pm_q291_1 (Nat.le_of_ble_eq_true rfl)) rfl ?_
                exact ih_1155 _ (sf_up hN_1155 e1206 B1170 (by decide) (by decide)) z1197 z1202 z1205 B1199 B1204 (sf_weak B1207 (by decide) (by decide)) rfl
              · have B1208 : sf_B 10 2147483647 a1 := sf_leR (Int32.not_lt.mp c1200) sf_k10 (sf_any a1)
                refine pm_R_lo pm_M174 (pc' := 6) rfl rfl rfl ?_
                refine pm_R_lo pm_M174 (pc' := 7) rfl rfl rfl ?_
                refine pm_R_icmp pm_M174 (t := 14) (pc' := 10) rfl rfl rfl (fun c1209 => ?_) (fun c1209 => ?_)
                · have B1210 : sf_B 16 2147483647 a1 := sf_ltR c1209 sf_k15 B1208
                  refine pm_R_op pm_M174 (pc' := 15) (st' := [.int 0]) rfl rfl rfl ?_
                  refine pm_R_ret pm_M174 (r := some (.int 0)) rfl rfl ?_
                  show pm_R _ 291 91 [.ref 41, .int a0, .int a1, .int z1197, .int x4_1155, .int x5_1155] [.int 0, .int x4_1155] _ _
                  refine pm_R_br pm_M291 (pc' := 116) (st' := [.int x4_1155]) rfl rfl ?_
                  refine pm_R_op pm_M291 (pc' := 117) (st' := [.int 0, .int x4_1155]) (pm_q291_1 (Nat.le_of_ble_eq_true rfl)) rfl rfl ?_
                  refine sf_R_iadd pm_M291 (pc' := 118) (pm_q291_1 (Nat.le_of_ble_eq_true rfl)) rfl Bx4_1155 sf_k0 (by decide) (by decide) (fun z1211 e1212 B1213 => ?_)
                  refine pm_R_lo pm_M291 (pc' := 120) (ls' := [.ref 41, .int a0, .int a1, .int z1197, .int z1211, .int x5_1155]) (st' := []) (pm_q291_1 (Nat.le_of_ble_eq_true rfl)) rfl rfl ?_
                  refine sf_R_iinc pm_M291 (pc' := 123) (ls' := fun z => [.ref 41, .int a0, .int a1, .int z1197, .int z1211, .int z]) (pm_q291_1 (Nat.le_of_ble_eq_true rfl)) B1170 rfl (by decide) (by decide) (by decide) (fun _ => rfl) rfl (fun z1214 e1215 B1216 => ?_)
                  show pm_R _ 291 123 [.ref 41, .int a0, .int a1, .int z1197, .int z1211, .int z1214] [] _ _
                  refine pm_R_br pm_M291 (pc' := 33) (pm_q291_1 (Nat.le_of_ble_eq_true rfl)) rfl ?_
                  exact ih_1155 _ (sf_up hN_1155 e1215 B1170 (by decide) (by decide)) z1197 z1211 z1214 B1199 B1213 (sf_weak B1216 (by decide) (by decide)) rfl
                · have B1217 : sf_B 10 15 a1 := sf_leL (Int32.not_lt.mp c1209) B1208 sf_k15
                  refine pm_R_op pm_M174 (pc' := 11) (st' := [.int 1]) rfl rfl rfl ?_
                  refine pm_R_br pm_M174 (pc' := 15) rfl rfl ?_
                  refine pm_R_ret pm_M174 (r := some (.int 1)) rfl rfl ?_
                  show pm_R _ 291 91 [.ref 41, .int a0, .int a1, .int z1197, .int x4_1155, .int x5_1155] [.int 1, .int x4_1155] _ _
                  refine pm_R_br pm_M291 (pc' := 94) (st' := [.int x4_1155]) rfl rfl ?_
                  refine pm_R_lo pm_M291 (pc' := 95) rfl rfl rfl ?_
                  refine rf_R_get pm_M291 T15 (pc' := 98) (v := .ref 68) rfl rfl rfl rfl ?_
                  refine pm_R_lo pm_M291 (pc' := 100) rfl rfl rfl ?_
                  obtain ⟨f1218, e1219⟩ := T15.2.2.2.1 68 (by decide) (by decide)
                  refine rf_R_ild pm_M291 T15 (pc' := 101) rfl e1219 (by decide) (sf_in B1170 (by decide) (by decide)) rfl (fun z1221 ez1222 => ?_)
                  refine sf_R_lany pm_M291 (pc' := 102) (st := [.int x4_1155]) rfl rfl rfl (fun z1223 => ?_)
                  refine pm_R_lo pm_M291 (pc' := 103) rfl rfl rfl ?_
                  refine pm_R_op pm_M291 (pc' := 105) (st' := [.int 10, .int a1, .long z1223, .int x4_1155]) rfl rfl rfl ?_
                  refine sf_R_isub pm_M291 (pc' := 106) (pm_q291_1 (Nat.le_of_ble_eq_true rfl)) rfl B1217 sf_k10 (by decide) (by decide) (fun z1224 e1225 B1226 => ?_)
                  refine pm_R_cs pm_M291 (pc' := 109) (ra := [.int z1224, .long z1223]) (rest := [.int x4_1155]) (ls' := [.long z1223, pm_no, .int z1224]) (pm_q291_1 (Nat.le_of_ble_eq_true rfl)) rfl (Or.inl rfl) pm_M206 rfl rfl (Nat.le_of_ble_eq_true rfl) rfl rfl ?_
                  refine pm_R_lo pm_M206 (pc' := 1) rfl rfl rfl ?_
                  refine pm_R_lo pm_M206 (pc' := 2) rfl rfl rfl ?_
                  refine sf_R_lany pm_M206 (pc' := 3) (st := []) rfl rfl rfl (fun z1227 => ?_)
                  refine pm_R_op pm_M206 (pc' := 4) (st' := [.long 1, .long z1227]) rfl rfl rfl ?_
                  refine sf_R_lany pm_M206 (pc' := 5) (st := []) rfl rfl rfl (fun z1228 => ?_)
                  refine pm_R_op pm_M206 (pc' := 6) (st' := [.long 1, .long z1228]) rfl rfl rfl ?_
                  refine sf_R_lcmp pm_M206 (pc' := 7) rfl rfl (fun z1229 e1230 => ?_)
                  refine pm_R_ifc pm_M206 (t := 14) (pc' := 10) rfl rfl rfl (fun c1231 => ?_) (fun c1231 => ?_)
                  · have k1232 := sf_lneC e1230 c1231
                    refine pm_R_op pm_M206 (pc' := 15) (st' := [.int 0]) rfl rfl rfl ?_
                    refine pm_R_ret pm_M206 (r := some (.int 0)) rfl rfl ?_
                    show pm_R _ 291 109 [.ref 41, .int a0, .int a1, .int z1197, .int x4_1155, .int x5_1155] [.int 0, .int x4_1155] _ _
                    refine pm_R_br pm_M291 (pc' := 116) (st' := [.int x4_1155]) (pm_q291_1 (Nat.le_of_ble_eq_true rfl)) rfl ?_
                    refine pm_R_op pm_M291 (pc' := 117) (st' := [.int 0, .int x4_1155]) (pm_q291_1 (Nat.le_of_ble_eq_true rfl)) rfl rfl ?_
                    refine sf_R_iadd pm_M291 (pc' := 118) (pm_q291_1 (Nat.le_of_ble_eq_true rfl)) rfl Bx4_1155 sf_k0 (by decide) (by decide) (fun z1233 e1234 B1235 => ?_)
                    refine pm_R_lo pm_M291 (pc' := 120) (ls' := [.ref 41, .int a0, .int a1, .int z1197, .int z1233, .int x5_1155]) (st' := []) (pm_q291_1 (Nat.le_of_ble_eq_true rfl)) rfl rfl ?_
                    refine sf_R_iinc pm_M291 (pc' := 123) (ls' := fun z => [.ref 41, .int a0, .int a1, .int z1197, .int z1233, .int z]) (pm_q291_1 (Nat.le_of_ble_eq_true rfl)) B1170 rfl (by decide) (by decide) (by decide) (fun _ => rfl) rfl (fun z1236 e1237 B1238 => ?_)
                    show pm_R _ 291 123 [.ref 41, .int a0, .int a1, .int z1197, .int z1233, .int z1236] [] _ _
                    refine pm_R_br pm_M291 (pc' := 33) (pm_q291_1 (Nat.le_of_ble_eq_true rfl)) rfl ?_
                    exact ih_1155 _ (sf_up hN_1155 e1237 B1170 (by decide) (by decide)) z1197 z1233 z1236 B1199 B1235 (sf_weak B1238 (by decide) (by decide)) rfl
                  · have B1239 : sf_B 0 0 z1229 := sf_eqL (Classical.not_not.mp c1231) sf_k0
                    refine pm_R_op pm_M206 (pc' := 11) (st' := [.int 1]) rfl rfl rfl ?_
                    refine pm_R_br pm_M206 (pc' := 15) rfl rfl ?_
                    refine pm_R_ret pm_M206 (r := some (.int 1)) rfl rfl ?_
                    show pm_R _ 291 109 [.ref 41, .int a0, .int a1, .int z1197, .int x4_1155, .int x5_1155] [.int 1, .int x4_1155] _ _
                    refine pm_R_br pm_M291 (pc' := 112) (st' := [.int x4_1155]) (pm_q291_1 (Nat.le_of_ble_eq_true rfl)) rfl ?_
                    refine pm_R_op pm_M291 (pc' := 113) (st' := [.int 1, .int x4_1155]) (pm_q291_1 (Nat.le_of_ble_eq_true rfl)) rfl rfl ?_
                    refine pm_R_br pm_M291 (pc' := 117) (pm_q291_1 (Nat.le_of_ble_eq_true rfl)) rfl ?_
                    refine sf_R_iany pm_M291 (pc' := 118) (st := []) (pm_q291_1 (Nat.le_of_ble_eq_true rfl)) rfl rfl (fun z1243 => ?_)
                    refine pm_R_lo pm_M291 (pc' := 120) (ls' := [.ref 41, .int a0, .int a1, .int z1197, .int z1243, .int x5_1155]) (st' := []) (pm_q291_1 (Nat.le_of_ble_eq_true rfl)) rfl rfl ?_
                    refine sf_R_iinc pm_M291 (pc' := 123) (ls' := fun z => [.ref 41, .int a0, .int a1, .int z1197, .int z1243, .int z]) (pm_q291_1 (Nat.le_of_ble_eq_true rfl)) B1170 rfl (by decide) (by decide) (by decide) (fun _ => rfl) rfl (fun z1244 e1245 B1246 => ?_)
                    show pm_R _ 291 123 [.ref 41, .int a0, .int a1, .int z1197, .int z1243, .int z1244] [] _ _
                    refine pm_R_br pm_M291 (pc' := 33) (pm_q291_1 (Nat.le_of_ble_eq_true rfl)) rfl ?_
                    exact ih_1155 _ (sf_up hN_1155 e1245 B1170 (by decide) (by decide)) z1197 z1243 z1244 B1199 (sf_any z1243) (sf_weak B1246 (by decide) (by decide)) rfl
            · have B1247 : sf_B 2 2 z1191 := sf_eqL (Classical.not_not.mp c1195) sf_k2
              refine pm_R_op pm_M256 (pc' := 11) (st' := [.int 1]) rfl rfl rfl ?_
              refine pm_R_br pm_M256 (pc' := 15) rfl rfl ?_
              refine pm_R_ret pm_M256 (r := some (.int 1)) rfl rfl ?_
              show pm_R _ 291 49 [.ref 41, .int a0, .int a1, .int x3_1155, .int x4_1155, .int x5_1155] [.int 1, .int x3_1155] _ _
              refine pm_R_br pm_M291 (pc' := 52) (st' := [.int x3_1155]) rfl rfl ?_
              refine pm_R_lo pm_M291 (pc' := 53) rfl rfl rfl ?_
              refine rf_R_get pm_M291 T15 (pc' := 56) (v := .ref 67) rfl rfl rfl rfl ?_
              refine pm_R_op pm_M291 (pc' := 58) (st' := [.int 6, .ref 67, .int x3_1155]) rfl rfl rfl ?_
              refine pm_R_lo pm_M291 (pc' := 60) rfl rfl rfl ?_
              refine sf_R_imul pm_M291 (pc' := 61) rfl rfl sf_k6 B1170 (by decide) (by decide) (by decide) (fun z1248 e1249 B1250 => ?_)
              refine pm_R_lo pm_M291 (pc' := 62) rfl rfl rfl ?_
              refine pm_R_lo pm_M291 (pc' := 64) rfl rfl rfl ?_
              refine pm_R_op pm_M291 (pc' := 65) (st' := [.int 1, .int x5_1155, .ref 41, .int z1248, .ref 67, .int x3_1155]) rfl rfl rfl ?_
              refine pm_R_cv pm_M291 (pc' := 68) (a := 41) (ra := [.int 1, .int x5_1155]) (rest := [.int z1248, .ref 67, .int x3_1155]) (ls' := [.ref 41, .int x5_1155, .int 1]) rfl rfl (Or.inl rfl) pm_M255 T15.2.1 rfl (by decide) (Nat.lt_of_lt_of_le (by decide) T15.1) rfl rfl (Nat.le_of_ble_eq_true rfl) rfl rfl ?_
              refine pm_R_lo pm_M255 (pc' := 1) rfl rfl rfl ?_
              refine rf_R_get pm_M255 T15 (pc' := 4) (v := .ref 49) rfl rfl rfl rfl ?_
              refine pm_R_op pm_M255 (pc' := 7) (st' := [.int 152, .ref 49]) rfl rfl rfl ?_
              refine pm_R_lo pm_M255 (pc' := 8) rfl rfl rfl ?_
              refine rf_R_get pm_M255 T15 (pc' := 11) (v := .int (m12 44)) rfl rfl rfl rfl ?_
              refine sf_R_imul pm_M255 (pc' := 12) rfl rfl sf_k152 B1172 (by decide) (by decide) (by decide) (fun z1251 e1252 B1253 => ?_)
              refine pm_R_op pm_M255 (pc' := 13) (st' := [.int 2, .int z1251, .ref 49]) rfl rfl rfl ?_
              refine sf_R_iadd pm_M255 (pc' := 14) rfl rfl B1253 sf_k2 (by decide) (by decide) (fun z1254 e1255 B1256 => ?_)
              refine pm_R_op pm_M255 (pc' := 15) (st' := [.int 3, .int z1254, .ref 49]) rfl rfl rfl ?_
              refine pm_R_lo pm_M255 (pc' := 16) rfl rfl rfl ?_
              refine sf_R_imul pm_M255 (pc' := 17) rfl rfl sf_k3 B1170 (by decide) (by decide) (by decide) (fun z1257 e1258 B1259 => ?_)
              refine sf_R_iadd pm_M255 (pc' := 18) rfl rfl B1256 B1259 (by decide) (by decide) (fun z1260 e1261 B1262 => ?_)
              refine pm_R_lo pm_M255 (pc' := 19) rfl rfl rfl ?_
              refine sf_R_iadd pm_M255 (pc' := 20) rfl rfl B1262 sf_k1 (by decide) (by decide) (fun z1263 e1264 B1265 => ?_)
              refine rf_R_ild pm_M255 T15 (pc' := 21) rfl e1189 (by decide) (sf_in B1265 (by decide) (by decide)) rfl (fun z1266 ez1267 => ?_)
              have e1268 : (z1263).toInt = 152 * ((m12 44)).toInt + 3 * (x5_1155).toInt + 3 := by
                have q0 := e1252
                have q1 := e1255
                have q2 := e1258
                have q3 := e1261
                have q4 := e1264
                simp only [(show (1 : Int32).toInt = 1 from rfl), (show (2 : Int32).toInt = 2 from rfl), (show (3 : Int32).toInt = 3 from rfl), (show (152 : Int32).toInt = 152 from rfl)] at q0 q1 q2 q3 q4
                omega
              have B1269 : sf_B 0 5 z1266 := ez1267 ▸ rf_p49w b1190 e1268 B1172 B1170 (by decide) (by decide) (by decide)
              refine pm_R_ret pm_M255 (r := some (.int z1266)) rfl (pm_ret_i _) ?_
              show pm_R _ 291 68 [.ref 41, .int a0, .int a1, .int x3_1155, .int x4_1155, .int x5_1155] [.int z1266, .int z1248, .ref 67, .int x3_1155] _ _
              refine sf_R_iadd pm_M291 (pc' := 69) rfl rfl B1250 B1269 (by decide) (by decide) (fun z1270 e1271 B1272 => ?_)
              obtain ⟨f1273, e1274⟩ := T15.2.2.2.1 67 (by decide) (by decide)
              refine rf_R_ild pm_M291 T15 (pc' := 70) rfl e1274 (by decide) (sf_in B1272 (by decide) (by decide)) rfl (fun z1276 ez1277 => ?_)
              refine pm_R_op pm_M291 (pc' := 71) (st' := [.int (-1), .int z1276, .int x3_1155]) rfl rfl rfl ?_
              refine pm_R_icmp pm_M291 (t := 78) (pc' := 74) rfl rfl rfl (fun c1278 => ?_) (fun c1278 => ?_)
              · skip
                refine pm_R_op pm_M291 (pc' := 79) (st' := [.int 0, .int x3_1155]) rfl rfl rfl ?_
                refine sf_R_iadd pm_M291 (pc' := 80) rfl rfl Bx3_1155 sf_k0 (by decide) (by decide) (fun z1279 e1280 B1281 => ?_)
                refine pm_R_lo pm_M291 (pc' := 81) (ls' := [.ref 41, .int a0, .int a1, .int z1279, .int x4_1155, .int x5_1155]) (st' := []) rfl rfl rfl ?_
                refine pm_R_lo pm_M291 (pc' := 83) rfl rfl rfl ?_
                refine pm_R_lo pm_M291 (pc' := 84) rfl rfl rfl ?_
                refine pm_R_op pm_M291 (pc' := 86) (st' := [.int 10, .int a1, .int x4_1155]) rfl rfl rfl ?_
                refine pm_R_op pm_M291 (pc' := 88) (st' := [.int 15, .int 10, .int a1, .int x4_1155]) rfl rfl rfl ?_
                refine pm_R_cs pm_M291 (pc' := 91) (ra := [.int 15, .int 10, .int a1]) (rest := [.int x4_1155]) (ls' := [.int a1, .int 10, .int 15]) rfl rfl (Or.inl rfl) pm_M174 rfl rfl (Nat.le_of_ble_eq_true rfl) rfl rfl ?_
                refine pm_R_lo pm_M174 (pc' := 1) rfl rfl rfl ?_
                refine pm_R_lo pm_M174 (pc' := 2) rfl rfl rfl ?_
                refine pm_R_icmp pm_M174 (t := 14) (pc' := 5) rfl rfl rfl (fun c1282 => ?_) (fun c1282 => ?_)
                · have B1283 : sf_B (-2147483648) 9 a1 := sf_ltL c1282 (sf_any a1) sf_k10
                  refine pm_R_op pm_M174 (pc' := 15) (st' := [.int 0]) rfl rfl rfl ?_
                  refine pm_R_ret pm_M174 (r := some (.int 0)) rfl rfl ?_
                  show pm_R _ 291 91 [.ref 41, .int a0, .int a1, .int z1279, .int x4_1155, .int x5_1155] [.int 0, .int x4_1155] _ _
                  refine pm_R_br pm_M291 (pc' := 116) (st' := [.int x4_1155]) rfl rfl ?_
                  refine pm_R_op pm_M291 (pc' := 117) (st' := [.int 0, .int x4_1155]) (pm_q291_1 (Nat.le_of_ble_eq_true rfl)) rfl rfl ?_
                  refine sf_R_iadd pm_M291 (pc' := 118) (pm_q291_1 (Nat.le_of_ble_eq_true rfl)) rfl Bx4_1155 sf_k0 (by decide) (by decide) (fun z1284 e1285 B1286 => ?_)
                  refine pm_R_lo pm_M291 (pc' := 120) (ls' := [.ref 41, .int a0, .int a1, .int z1279, .int z1284, .int x5_1155]) (st' := []) (pm_q291_1 (Nat.le_of_ble_eq_true rfl)) rfl rfl ?_
                  refine sf_R_iinc pm_M291 (pc' := 123) (ls' := fun z => [.ref 41, .int a0, .int a1, .int z1279, .int z1284, .int z]) (pm_q291_1 (Nat.le_of_ble_eq_true rfl)) B1170 rfl (by decide) (by decide) (by decide) (fun _ => rfl) rfl (fun z1287 e1288 B1289 => ?_)
                  show pm_R _ 291 123 [.ref 41, .int a0, .int a1, .int z1279, .int z1284, .int z1287] [] _ _
                  refine pm_R_br pm_M291 (pc' := 33) (pm_q291_1 (Nat.le_of_ble_eq_true rfl)) rfl ?_
                  exact ih_1155 _ (sf_up hN_1155 e1288 B1170 (by decide) (by decide)) z1279 z1284 z1287 B1281 B1286 (sf_weak B1289 (by decide) (by decide)) rfl
                · have B1290 : sf_B 10 2147483647 a1 := sf_leR (Int32.not_lt.mp c1282) sf_k10 (sf_any a1)
                  refine pm_R_lo pm_M174 (pc' := 6) rfl rfl rfl ?_
                  refine pm_R_lo pm_M174 (pc' := 7) rfl rfl rfl ?_
                  refine pm_R_icmp pm_M174 (t := 14) (pc' := 10) rfl rfl rfl (fun c1291 => ?_) (fun c1291 => ?_)
                  · have B1292 : sf_B 16 2147483647 a1 := sf_ltR c1291 sf_k15 B1290
                    refine pm_R_op pm_M174 (pc' := 15) (st' := [.int 0]) rfl rfl rfl ?_
                    refine pm_R_ret pm_M174 (r := some (.int 0)) rfl rfl ?_
                    show pm_R _ 291 91 [.ref 41, .int a0, .int a1, .int z1279, .int x4_1155, .int x5_1155] [.int 0, .int x4_1155] _ _
                    refine pm_R_br pm_M291 (pc' := 116) (st' := [.int x4_1155]) rfl rfl ?_
                    refine pm_R_op pm_M291 (pc' := 117) (st' := [.int 0, .int x4_1155]) (pm_q291_1 (Nat.le_of_ble_eq_true rfl)) rfl rfl ?_
                    refine sf_R_iadd pm_M291 (pc' := 118) (pm_q291_1 (Nat.le_of_ble_eq_true rfl)) rfl Bx4_1155 sf_k0 (by decide) (by decide) (fun z1293 e1294 B1295 => ?_)
                    refine pm_R_lo pm_M291 (pc' := 120) (ls' := [.ref 41, .int a0, .int a1, .int z1279, .int z1293, .int x5_1155]) (st' := []) (pm_q291_1 (Nat.le_of_ble_eq_true rfl)) rfl rfl ?_
                    refine sf_R_iinc pm_M291 (pc' := 123) (ls' := fun z => [.ref 41, .int a0, .int a1, .int z1279, .int z1293, .int z]) (pm_q291_1 (Nat.le_of_ble_eq_true rfl)) B1170 rfl (by decide) (by decide) (by decide) (fun _ => rfl) rfl (fun z1296 e1297 B1298 => ?_)
                    show pm_R _ 291 123 [.ref 41, .int a0, .int a1, .int z1279, .int z1293, .int z1296] [] _ _
                    refine pm_R_br pm_M291 (pc' := 33) (pm_q291_1 (Nat.le_of_ble_eq_true rfl)) rfl ?_
                    exact ih_1155 _ (sf_up hN_1155 e1297 B1170 (by decide) (by decide)) z1279 z1293 z1296 B1281 B1295 (sf_weak B1298 (by decide) (by decide)) rfl
                  · have B1299 : sf_B 10 15 a1 := sf_leL (Int32.not_lt.mp c1291) B1290 sf_k15
                    refine pm_R_op pm_M174 (pc' := 11) (st' := [.int 1]) rfl rfl rfl ?_
                    refine pm_R_br pm_M174 (pc' := 15) rfl rfl ?_
                    refine pm_R_ret pm_M174 (r := some (.int 1)) rfl rfl ?_
                    show pm_R _ 291 91 [.ref 41, .int a0, .int a1, .int z1279, .int x4_1155, .int x5_1155] [.int 1, .int x4_1155] _ _
                    refine pm_R_br pm_M291 (pc' := 94) (st' := [.int x4_1155]) rfl rfl ?_
                    refine pm_R_lo pm_M291 (pc' := 95) rfl rfl rfl ?_
                    refine rf_R_get pm_M291 T15 (pc' := 98) (v := .ref 68) rfl rfl rfl rfl ?_
                    refine pm_R_lo pm_M291 (pc' := 100) rfl rfl rfl ?_
                    obtain ⟨f1300, e1301⟩ := T15.2.2.2.1 68 (by decide) (by decide)
                    refine rf_R_ild pm_M291 T15 (pc' := 101) rfl e1301 (by decide) (sf_in B1170 (by decide) (by decide)) rfl (fun z1303 ez1304 => ?_)
                    refine sf_R_lany pm_M291 (pc' := 102) (st := [.int x4_1155]) rfl rfl rfl (fun z1305 => ?_)
                    refine pm_R_lo pm_M291 (pc' := 103) rfl rfl rfl ?_
                    refine pm_R_op pm_M291 (pc' := 105) (st' := [.int 10, .int a1, .long z1305, .int x4_1155]) rfl rfl rfl ?_
                    refine sf_R_isub pm_M291 (pc' := 106) (pm_q291_1 (Nat.le_of_ble_eq_true rfl)) rfl B1299 sf_k10 (by decide) (by decide) (fun z1306 e1307 B1308 => ?_)
                    refine pm_R_cs pm_M291 (pc' := 109) (ra := [.int z1306, .long z1305]) (rest := [.int x4_1155]) (ls' := [.long z1305, pm_no, .int z1306]) (pm_q291_1 (Nat.le_of_ble_eq_true rfl)) rfl (Or.inl rfl) pm_M206 rfl rfl (Nat.le_of_ble_eq_true rfl) rfl rfl ?_
                    refine pm_R_lo pm_M206 (pc' := 1) rfl rfl rfl ?_
                    refine pm_R_lo pm_M206 (pc' := 2) rfl rfl rfl ?_
                    refine sf_R_lany pm_M206 (pc' := 3) (st := []) rfl rfl rfl (fun z1309 => ?_)
                    refine pm_R_op pm_M206 (pc' := 4) (st' := [.long 1, .long z1309]) rfl rfl rfl ?_
                    refine sf_R_lany pm_M206 (pc' := 5) (st := []) rfl rfl rfl (fun z1310 => ?_)
                    refine pm_R_op pm_M206 (pc' := 6) (st' := [.long 1, .long z1310]) rfl rfl rfl ?_
                    refine sf_R_lcmp pm_M206 (pc' := 7) rfl rfl (fun z1311 e1312 => ?_)
                    refine pm_R_ifc pm_M206 (t := 14) (pc' := 10) rfl rfl rfl (fun c1313 => ?_) (fun c1313 => ?_)
                    · have k1314 := sf_lneC e1312 c1313
                      refine pm_R_op pm_M206 (pc' := 15) (st' := [.int 0]) rfl rfl rfl ?_
                      refine pm_R_ret pm_M206 (r := some (.int 0)) rfl rfl ?_
                      show pm_R _ 291 109 [.ref 41, .int a0, .int a1, .int z1279, .int x4_1155, .int x5_1155] [.int 0, .int x4_1155] _ _
                      refine pm_R_br pm_M291 (pc' := 116) (st' := [.int x4_1155]) (pm_q291_1 (Nat.le_of_ble_eq_true rfl)) rfl ?_
                      refine pm_R_op pm_M291 (pc' := 117) (st' := [.int 0, .int x4_1155]) (pm_q291_1 (Nat.le_of_ble_eq_true rfl)) rfl rfl ?_
                      refine sf_R_iadd pm_M291 (pc' := 118) (pm_q291_1 (Nat.le_of_ble_eq_true rfl)) rfl Bx4_1155 sf_k0 (by decide) (by decide) (fun z1315 e1316 B1317 => ?_)
                      refine pm_R_lo pm_M291 (pc' := 120) (ls' := [.ref 41, .int a0, .int a1, .int z1279, .int z1315, .int x5_1155]) (st' := []) (pm_q291_1 (Nat.le_of_ble_eq_true rfl)) rfl rfl ?_
                      refine sf_R_iinc pm_M291 (pc' := 123) (ls' := fun z => [.ref 41, .int a0, .int a1, .int z1279, .int z1315, .int z]) (pm_q291_1 (Nat.le_of_ble_eq_true rfl)) B1170 rfl (by decide) (by decide) (by decide) (fun _ => rfl) rfl (fun z1318 e1319 B1320 => ?_)
                      show pm_R _ 291 123 [.ref 41, .int a0, .int a1, .int z1279, .int z1315, .int z1318] [] _ _
                      refine pm_R_br pm_M291 (pc' := 33) (pm_q291_1 (Nat.le_of_ble_eq_true rfl)) rfl ?_
                      exact ih_1155 _ (sf_up hN_1155 e1319 B1170 (by decide) (by decide)) z1279 z1315 z1318 B1281 B1317 (sf_weak B1320 (by decide) (by decide)) rfl
                    · have B1321 : sf_B 0 0 z1311 := sf_eqL (Classical.not_not.mp c1313) sf_k0
                      refine pm_R_op pm_M206 (pc' := 11) (st' := [.int 1]) rfl rfl rfl ?_
                      refine pm_R_br pm_M206 (pc' := 15) rfl rfl ?_
                      refine pm_R_ret pm_M206 (r := some (.int 1)) rfl rfl ?_
                      show pm_R _ 291 109 [.ref 41, .int a0, .int a1, .int z1279, .int x4_1155, .int x5_1155] [.int 1, .int x4_1155] _ _
                      refine pm_R_br pm_M291 (pc' := 112) (st' := [.int x4_1155]) (pm_q291_1 (Nat.le_of_ble_eq_true rfl)) rfl ?_
                      refine pm_R_op pm_M291 (pc' := 113) (st' := [.int 1, .int x4_1155]) (pm_q291_1 (Nat.le_of_ble_eq_true rfl)) rfl rfl ?_
                      refine pm_R_br pm_M291 (pc' := 117) (pm_q291_1 (Nat.le_of_ble_eq_true rfl)) rfl ?_
                      refine sf_R_iany pm_M291 (pc' := 118) (st := []) (pm_q291_1 (Nat.le_of_ble_eq_true rfl)) rfl rfl (fun z1325 => ?_)
                      refine pm_R_lo pm_M291 (pc' := 120) (ls' := [.ref 41, .int a0, .int a1, .int z1279, .int z1325, .int x5_1155]) (st' := []) (pm_q291_1 (Nat.le_of_ble_eq_true rfl)) rfl rfl ?_
                      refine sf_R_iinc pm_M291 (pc' := 123) (ls' := fun z => [.ref 41, .int a0, .int a1, .int z1279, .int z1325, .int z]) (pm_q291_1 (Nat.le_of_ble_eq_true rfl)) B1170 rfl (by decide) (by decide) (by decide) (fun _ => rfl) rfl (fun z1326 e1327 B1328 => ?_)
                      show pm_R _ 291 123 [.ref 41, .int a0, .int a1, .int z1279, .int z1325, .int z1326] [] _ _
                      refine pm_R_br pm_M291 (pc' := 33) (pm_q291_1 (Nat.le_of_ble_eq_true rfl)) rfl ?_
                      exact ih_1155 _ (sf_up hN_1155 e1327 B1170 (by decide) (by decide)) z1279 z1325 z1326 B1281 (sf_any z1325) (sf_weak B1328 (by decide) (by decide)) rfl
              · have B1329 : sf_B (-1) (-1) z1276 := sf_eqL (Classical.not_not.mp c1278) sf_kn1
                refine pm_R_op pm_M291 (pc' := 75) (st' := [.int 1, .int x3_1155]) rfl rfl rfl ?_
                refine pm_R_br pm_M291 (pc' := 79) rfl rfl ?_
                refine sf_R_iany pm_M291 (pc' := 80) (st := []) rfl rfl rfl (fun z1333 => ?_)
                refine pm_R_lo pm_M291 (pc' := 81) (ls' := [.ref 41, .int a0, .int a1, .int z1333, .int x4_1155, .int x5_1155]) (st' := []) rfl rfl rfl ?_
                refine pm_R_lo pm_M291 (pc' := 83) rfl rfl rfl ?_
                refine pm_R_lo pm_M291 (pc' := 84) rfl rfl rfl ?_
                refine pm_R_op pm_M291 (pc' := 86) (st' := [.int 10, .int a1, .int x4_1155]) rfl rfl rfl ?_
                refine pm_R_op pm_M291 (pc' := 88) (st' := [.int 15, .int 10, .int a1, .int x4_1155]) rfl rfl rfl ?_
                refine pm_R_cs pm_M291 (pc' := 91) (ra := [.int 15, .int 10, .int a1]) (rest := [.int x4_1155]) (ls' := [.int a1, .int 10, .int 15]) rfl rfl (Or.inl rfl) pm_M174 rfl rfl (Nat.le_of_ble_eq_true rfl) rfl rfl ?_
                refine pm_R_lo pm_M174 (pc' := 1) rfl rfl rfl ?_
                refine pm_R_lo pm_M174 (pc' := 2) rfl rfl rfl ?_
                refine pm_R_icmp pm_M174 (t := 14) (pc' := 5) rfl rfl rfl (fun c1334 => ?_) (fun c1334 => ?_)
                · have B1335 : sf_B (-2147483648) 9 a1 := sf_ltL c1334 (sf_any a1) sf_k10
                  refine pm_R_op pm_M174 (pc' := 15) (st' := [.int 0]) rfl rfl rfl ?_
                  refine pm_R_ret pm_M174 (r := some (.int 0)) rfl rfl ?_
                  show pm_R _ 291 91 [.ref 41, .int a0, .int a1, .int z1333, .int x4_1155, .int x5_1155] [.int 0, .int x4_1155] _ _
                  refine pm_R_br pm_M291 (pc' := 116) (st' := [.int x4_1155]) rfl rfl ?_
                  refine pm_R_op pm_M291 (pc' := 117) (st' := [.int 0, .int x4_1155]) (pm_q291_1 (Nat.le_of_ble_eq_true rfl)) rfl rfl ?_
                  refine sf_R_iadd pm_M291 (pc' := 118) (pm_q291_1 (Nat.le_of_ble_eq_true rfl)) rfl Bx4_1155 sf_k0 (by decide) (by decide) (fun z1336 e1337 B1338 => ?_)
                  refine pm_R_lo pm_M291 (pc' := 120) (ls' := [.ref 41, .int a0, .int a1, .int z1333, .int z1336, .int x5_1155]) (st' := []) (pm_q291_1 (Nat.le_of_ble_eq_true rfl)) rfl rfl ?_
                  refine sf_R_iinc pm_M291 (pc' := 123) (ls' := fun z => [.ref 41, .int a0, .int a1, .int z1333, .int z1336, .int z]) (pm_q291_1 (Nat.le_of_ble_eq_true rfl)) B1170 rfl (by decide) (by decide) (by decide) (fun _ => rfl) rfl (fun z1339 e1340 B1341 => ?_)
                  show pm_R _ 291 123 [.ref 41, .int a0, .int a1, .int z1333, .int z1336, .int z1339] [] _ _
                  refine pm_R_br pm_M291 (pc' := 33) (pm_q291_1 (Nat.le_of_ble_eq_true rfl)) rfl ?_
                  exact ih_1155 _ (sf_up hN_1155 e1340 B1170 (by decide) (by decide)) z1333 z1336 z1339 (sf_any z1333) B1338 (sf_weak B1341 (by decide) (by decide)) rfl
                · have B1342 : sf_B 10 2147483647 a1 := sf_leR (Int32.not_lt.mp c1334) sf_k10 (sf_any a1)
                  refine pm_R_lo pm_M174 (pc' := 6) rfl rfl rfl ?_
                  refine pm_R_lo pm_M174 (pc' := 7) rfl rfl rfl ?_
                  refine pm_R_icmp pm_M174 (t := 14) (pc' := 10) rfl rfl rfl (fun c1343 => ?_) (fun c1343 => ?_)
                  · have B1344 : sf_B 16 2147483647 a1 := sf_ltR c1343 sf_k15 B1342
                    refine pm_R_op pm_M174 (pc' := 15) (st' := [.int 0]) rfl rfl rfl ?_
                    refine pm_R_ret pm_M174 (r := some (.int 0)) rfl rfl ?_
                    show pm_R _ 291 91 [.ref 41, .int a0, .int a1, .int z1333, .int x4_1155, .int x5_1155] [.int 0, .int x4_1155] _ _
                    refine pm_R_br pm_M291 (pc' := 116) (st' := [.int x4_1155]) rfl rfl ?_
                    refine pm_R_op pm_M291 (pc' := 117) (st' := [.int 0, .int x4_1155]) (pm_q291_1 (Nat.le_of_ble_eq_true rfl)) rfl rfl ?_
                    refine sf_R_iadd pm_M291 (pc' := 118) (pm_q291_1 (Nat.le_of_ble_eq_true rfl)) rfl Bx4_1155 sf_k0 (by decide) (by decide) (fun z1345 e1346 B1347 => ?_)
                    refine pm_R_lo pm_M291 (pc' := 120) (ls' := [.ref 41, .int a0, .int a1, .int z1333, .int z1345, .int x5_1155]) (st' := []) (pm_q291_1 (Nat.le_of_ble_eq_true rfl)) rfl rfl ?_
                    refine sf_R_iinc pm_M291 (pc' := 123) (ls' := fun z => [.ref 41, .int a0, .int a1, .int z1333, .int z1345, .int z]) (pm_q291_1 (Nat.le_of_ble_eq_true rfl)) B1170 rfl (by decide) (by decide) (by decide) (fun _ => rfl) rfl (fun z1348 e1349 B1350 => ?_)
                    show pm_R _ 291 123 [.ref 41, .int a0, .int a1, .int z1333, .int z1345, .int z1348] [] _ _
                    refine pm_R_br pm_M291 (pc' := 33) (pm_q291_1 (Nat.le_of_ble_eq_true rfl)) rfl ?_
                    exact ih_1155 _ (sf_up hN_1155 e1349 B1170 (by decide) (by decide)) z1333 z1345 z1348 (sf_any z1333) B1347 (sf_weak B1350 (by decide) (by decide)) rfl
                  · have B1351 : sf_B 10 15 a1 := sf_leL (Int32.not_lt.mp c1343) B1342 sf_k15
                    refine pm_R_op pm_M174 (pc' := 11) (st' := [.int 1]) rfl rfl rfl ?_
                    refine pm_R_br pm_M174 (pc' := 15) rfl rfl ?_
                    refine pm_R_ret pm_M174 (r := some (.int 1)) rfl rfl ?_
                    show pm_R _ 291 91 [.ref 41, .int a0, .int a1, .int z1333, .int x4_1155, .int x5_1155] [.int 1, .int x4_1155] _ _
                    refine pm_R_br pm_M291 (pc' := 94) (st' := [.int x4_1155]) rfl rfl ?_
                    refine pm_R_lo pm_M291 (pc' := 95) rfl rfl rfl ?_
                    refine rf_R_get pm_M291 T15 (pc' := 98) (v := .ref 68) rfl rfl rfl rfl ?_
                    refine pm_R_lo pm_M291 (pc' := 100) rfl rfl rfl ?_
                    obtain ⟨f1352, e1353⟩ := T15.2.2.2.1 68 (by decide) (by decide)
                    refine rf_R_ild pm_M291 T15 (pc' := 101) rfl e1353 (by decide) (sf_in B1170 (by decide) (by decide)) rfl (fun z1355 ez1356 => ?_)
                    refine sf_R_lany pm_M291 (pc' := 102) (st := [.int x4_1155]) rfl rfl rfl (fun z1357 => ?_)
                    refine pm_R_lo pm_M291 (pc' := 103) rfl rfl rfl ?_
                    refine pm_R_op pm_M291 (pc' := 105) (st' := [.int 10, .int a1, .long z1357, .int x4_1155]) rfl rfl rfl ?_
                    refine sf_R_isub pm_M291 (pc' := 106) (pm_q291_1 (Nat.le_of_ble_eq_true rfl)) rfl B1351 sf_k10 (by decide) (by decide) (fun z1358 e1359 B1360 => ?_)
                    refine pm_R_cs pm_M291 (pc' := 109) (ra := [.int z1358, .long z1357]) (rest := [.int x4_1155]) (ls' := [.long z1357, pm_no, .int z1358]) (pm_q291_1 (Nat.le_of_ble_eq_true rfl)) rfl (Or.inl rfl) pm_M206 rfl rfl (Nat.le_of_ble_eq_true rfl) rfl rfl ?_
                    refine pm_R_lo pm_M206 (pc' := 1) rfl rfl rfl ?_
                    refine pm_R_lo pm_M206 (pc' := 2) rfl rfl rfl ?_
                    refine sf_R_lany pm_M206 (pc' := 3) (st := []) rfl rfl rfl (fun z1361 => ?_)
                    refine pm_R_op pm_M206 (pc' := 4) (st' := [.long 1, .long z1361]) rfl rfl rfl ?_
                    refine sf_R_lany pm_M206 (pc' := 5) (st := []) rfl rfl rfl (fun z1362 => ?_)
                    refine pm_R_op pm_M206 (pc' := 6) (st' := [.long 1, .long z1362]) rfl rfl rfl ?_
                    refine sf_R_lcmp pm_M206 (pc' := 7) rfl rfl (fun z1363 e1364 => ?_)
                    refine pm_R_ifc pm_M206 (t := 14) (pc' := 10) rfl rfl rfl (fun c1365 => ?_) (fun c1365 => ?_)
                    · have k1366 := sf_lneC e1364 c1365
                      refine pm_R_op pm_M206 (pc' := 15) (st' := [.int 0]) rfl rfl rfl ?_
                      refine pm_R_ret pm_M206 (r := some (.int 0)) rfl rfl ?_
                      show pm_R _ 291 109 [.ref 41, .int a0, .int a1, .int z1333, .int x4_1155, .int x5_1155] [.int 0, .int x4_1155] _ _
                      refine pm_R_br pm_M291 (pc' := 116) (st' := [.int x4_1155]) (pm_q291_1 (Nat.le_of_ble_eq_true rfl)) rfl ?_
                      refine pm_R_op pm_M291 (pc' := 117) (st' := [.int 0, .int x4_1155]) (pm_q291_1 (Nat.le_of_ble_eq_true rfl)) rfl rfl ?_
                      refine sf_R_iadd pm_M291 (pc' := 118) (pm_q291_1 (Nat.le_of_ble_eq_true rfl)) rfl Bx4_1155 sf_k0 (by decide) (by decide) (fun z1367 e1368 B1369 => ?_)
                      refine pm_R_lo pm_M291 (pc' := 120) (ls' := [.ref 41, .int a0, .int a1, .int z1333, .int z1367, .int x5_1155]) (st' := []) (pm_q291_1 (Nat.le_of_ble_eq_true rfl)) rfl rfl ?_
                      refine sf_R_iinc pm_M291 (pc' := 123) (ls' := fun z => [.ref 41, .int a0, .int a1, .int z1333, .int z1367, .int z]) (pm_q291_1 (Nat.le_of_ble_eq_true rfl)) B1170 rfl (by decide) (by decide) (by decide) (fun _ => rfl) rfl (fun z1370 e1371 B1372 => ?_)
                      show pm_R _ 291 123 [.ref 41, .int a0, .int a1, .int z1333, .int z1367, .int z1370] [] _ _
                      refine pm_R_br pm_M291 (pc' := 33) (pm_q291_1 (Nat.le_of_ble_eq_true rfl)) rfl ?_
                      exact ih_1155 _ (sf_up hN_1155 e1371 B1170 (by decide) (by decide)) z1333 z1367 z1370 (sf_any z1333) B1369 (sf_weak B1372 (by decide) (by decide)) rfl
                    · have B1373 : sf_B 0 0 z1363 := sf_eqL (Classical.not_not.mp c1365) sf_k0
                      refine pm_R_op pm_M206 (pc' := 11) (st' := [.int 1]) rfl rfl rfl ?_
                      refine pm_R_br pm_M206 (pc' := 15) rfl rfl ?_
                      refine pm_R_ret pm_M206 (r := some (.int 1)) rfl rfl ?_
                      show pm_R _ 291 109 [.ref 41, .int a0, .int a1, .int z1333, .int x4_1155, .int x5_1155] [.int 1, .int x4_1155] _ _
                      refine pm_R_br pm_M291 (pc' := 112) (st' := [.int x4_1155]) (pm_q291_1 (Nat.le_of_ble_eq_true rfl)) rfl ?_
                      refine pm_R_op pm_M291 (pc' := 113) (st' := [.int 1, .int x4_1155]) (pm_q291_1 (Nat.le_of_ble_eq_true rfl)) rfl rfl ?_
                      refine pm_R_br pm_M291 (pc' := 117) (pm_q291_1 (Nat.le_of_ble_eq_true rfl)) rfl ?_
                      refine sf_R_iany pm_M291 (pc' := 118) (st := []) (pm_q291_1 (Nat.le_of_ble_eq_true rfl)) rfl rfl (fun z1377 => ?_)
                      refine pm_R_lo pm_M291 (pc' := 120) (ls' := [.ref 41, .int a0, .int a1, .int z1333, .int z1377, .int x5_1155]) (st' := []) (pm_q291_1 (Nat.le_of_ble_eq_true rfl)) rfl rfl ?_
                      refine sf_R_iinc pm_M291 (pc' := 123) (ls' := fun z => [.ref 41, .int a0, .int a1, .int z1333, .int z1377, .int z]) (pm_q291_1 (Nat.le_of_ble_eq_true rfl)) B1170 rfl (by decide) (by decide) (by decide) (fun _ => rfl) rfl (fun z1378 e1379 B1380 => ?_)
                      show pm_R _ 291 123 [.ref 41, .int a0, .int a1, .int z1333, .int z1377, .int z1378] [] _ _
                      refine pm_R_br pm_M291 (pc' := 33) (pm_q291_1 (Nat.le_of_ble_eq_true rfl)) rfl ?_
                      exact ih_1155 _ (sf_up hN_1155 e1379 B1170 (by decide) (by decide)) z1333 z1377 z1378 (sf_any z1333) (sf_any z1377) (sf_weak B1380 (by decide) (by decide)) rfl
      exact L_1155 _ 0 0 0 (sf_weak sf_k0 (by decide) (by decide)) (sf_weak sf_k0 (by decide) (by decide)) (sf_weak sf_k0 (by decide) (by decide)) rfl
    · have B1381 : sf_B 0 0 a1 := sf_eqL (Classical.not_not.mp c22) sf_k0
      refine pm_R_lo pm_M291 (pc' := 21) rfl rfl rfl ?_
      refine pm_R_cv pm_M291 (pc' := 24) (a := 41) (ra := []) (rest := []) (ls' := [.ref 41, pm_no, pm_no, pm_no, pm_no]) rfl rfl (Or.inl rfl) pm_M292 T15.2.1 rfl (by decide) (Nat.lt_of_lt_of_le (by decide) T15.1) rfl rfl (Nat.le_of_ble_eq_true rfl) rfl rfl ?_
      refine rf_c292 (d := d + 0) T15  (fun r1382 B1383 => ?_)
      show pm_R _ 291 24 [.ref 41, .int a0, .int a1, pm_no, pm_no, pm_no] [.int r1382] _ _
      exact pm_R_ret pm_M291 (r := some (.int r1382)) rfl (pm_ret_i _) (K r1382 m12 w13 h14 T15 F18 W19)
  · have B1390 : sf_B 0 0 r10 := sf_eqL (Classical.not_not.mp c20) sf_k0
    refine pm_R_op pm_M291 (pc' := 15) (st' := [.int (-2)]) rfl rfl rfl ?_
    exact pm_R_ret pm_M291 (r := some (.int (-2))) rfl rfl (K (-2) m12 w13 h14 T15 F18 W19)

set_option maxRecDepth 100000 in
set_option maxHeartbeats 4000000 in
/-- SilentTableModel.fault -/
theorem rf_c194 {d : Nat} {m : Nat → Int32} {w : Int64} {h : pm_H} {Q : Option Value → pm_H → Prop} {a0 : Int32} (T : rf_T m w h)  (K : ∀ (r : Int32) (m' : Nat → Int32) (w' : Int64) (h' : pm_H), rf_T m' w' h' → rf_G [41] h h' → rf_W [0] m m' → sf_B (-1) 600 r → Q (some (.int r)) h') : pm_R (d + 0) 194 0 [.ref 41, .int a0] [] h Q := by
  refine pm_R_lo pm_M194 (pc' := 1) rfl rfl rfl ?_
  refine pm_R_op pm_M194 (pc' := 2) (st' := [.int 0, .ref 41]) rfl rfl rfl ?_
  refine rf_R_put pm_M194 T (pc' := 5) rfl rfl rfl (by decide) rfl rfl sf_k0 rfl rfl (fun h1 m4 em5 T2 F3 => ?_)
  have F6 := (rf_G.refl [41] h).trans F3 (by decide)
  have B7 : sf_B 0 0 (m4 0) := by rw [em5]; exact sf_k0
  have W9 : rf_W [0] m m4 := by rw [em5]; exact (rf_W.refl [0] m).put (by decide)
  refine pm_R_lo pm_M194 (pc' := 6) rfl rfl rfl ?_
  refine pm_R_ifc pm_M194 (t := 18) (pc' := 9) rfl rfl rfl (fun c10 => ?_) (fun c10 => ?_)
  · skip
    refine pm_R_lo pm_M194 (pc' := 19) rfl rfl rfl ?_
    refine pm_R_op pm_M194 (pc' := 20) (st' := [.int 1, .int a0]) rfl rfl rfl ?_
    refine pm_R_icmp pm_M194 (t := 32) (pc' := 23) rfl rfl rfl (fun c11 => ?_) (fun c11 => ?_)
    · skip
      refine pm_R_op pm_M194 (pc' := 33) (st' := [.int (-1)]) rfl rfl rfl ?_
      exact pm_R_ret pm_M194 (r := some (.int (-1))) rfl rfl (K (-1) m4 w h1 T2 F6 W9 (sf_weak sf_kn1 (by decide) (by decide)))
    · have B12 : sf_B 1 1 a0 := sf_eqL (Classical.not_not.mp c11) sf_k1
      refine pm_R_lo pm_M194 (pc' := 24) rfl rfl rfl ?_
      refine rf_R_get pm_M194 T2 (pc' := 27) (v := .ref 45) rfl rfl rfl rfl ?_
      refine pm_R_op pm_M194 (pc' := 28) (st' := [.int 0, .ref 45]) rfl rfl rfl ?_
      obtain ⟨f13, e14, b15⟩ := T2.2.2.2.1 45 (by decide) (by decide)
      refine rf_R_ild pm_M194 T2 (pc' := 29) rfl e14 (by decide) rfl rfl (fun z16 ez17 => ?_)
      have B18 : sf_B (-1) 600 z16 := ez17 ▸ b15 _
      refine pm_R_br pm_M194 (pc' := 33) rfl rfl ?_
      exact pm_R_ret pm_M194 (r := some (.int z16)) rfl (pm_ret_i _) (K z16 m4 w h1 T2 F6 W9 B18)
  · have B19 : sf_B 0 0 a0 := sf_eqL (Classical.not_not.mp c10) sf_k0
    refine pm_R_lo pm_M194 (pc' := 10) rfl rfl rfl ?_
    refine rf_R_get pm_M194 T2 (pc' := 13) (v := .ref 44) rfl rfl rfl rfl ?_
    refine pm_R_op pm_M194 (pc' := 14) (st' := [.int 0, .ref 44]) rfl rfl rfl ?_
    obtain ⟨f20, e21, b22⟩ := T2.2.2.2.1 44 (by decide) (by decide)
    refine rf_R_ild pm_M194 T2 (pc' := 15) rfl e21 (by decide) rfl rfl (fun z23 ez24 => ?_)
    have B25 : sf_B 0 4 z23 := ez24 ▸ b22 _
    refine pm_R_br pm_M194 (pc' := 33) rfl rfl ?_
    exact pm_R_ret pm_M194 (r := some (.int z23)) rfl (pm_ret_i _) (K z23 m4 w h1 T2 F6 W9 (sf_weak B25 (by decide) (by decide)))

set_option maxRecDepth 100000 in
set_option maxHeartbeats 4000000 in
/-- SilentTableModel.list -/
theorem rf_c195 {d : Nat} {m : Nat → Int32} {w : Int64} {h : pm_H} {Q : Option Value → pm_H → Prop} {a0 : Int32} {a1 : Int32} (T : rf_T m w h)  (K : ∀ (r : Int32) (m' : Nat → Int32) (w' : Int64) (h' : pm_H), rf_T m' w' h' → rf_G [41] h h' → rf_W [0] m m' → Q (some (.int r)) h') : pm_R (d + 2) 195 0 [.ref 41, .int a0, .int a1] [] h Q := by
  refine pm_R_lo pm_M195 (pc' := 1) rfl rfl rfl ?_
  refine pm_R_op pm_M195 (pc' := 2) (st' := [.int 0, .ref 41]) rfl rfl rfl ?_
  refine rf_R_put pm_M195 T (pc' := 5) rfl rfl rfl (by decide) rfl rfl sf_k0 rfl rfl (fun h1 m4 em5 T2 F3 => ?_)
  have F6 := (rf_G.refl [41] h).trans F3 (by decide)
  have B7 : sf_B 0 0 (m4 0) := by rw [em5]; exact sf_k0
  have W9 : rf_W [0] m m4 := by rw [em5]; exact (rf_W.refl [0] m).put (by decide)
  refine pm_R_lo pm_M195 (pc' := 6) rfl rfl rfl ?_
  refine pm_R_op pm_M195 (pc' := 7) (st' := [.int 0, .ref 41]) rfl rfl rfl ?_
  refine pm_R_lo pm_M195 (pc' := 8) rfl rfl rfl ?_
  refine pm_R_cv pm_M195 (pc' := 11) (a := 41) (ra := [.int a0, .int 0]) (rest := []) (ls' := [.ref 41, .int 0, .int a0]) rfl rfl (Or.inl rfl) pm_M177 T2.2.1 rfl (by decide) (Nat.lt_of_lt_of_le (by decide) T2.1) rfl rfl (Nat.le_of_ble_eq_true rfl) rfl rfl ?_
  refine pm_R_lo pm_M177 (pc' := 1) rfl rfl rfl ?_
  refine pm_R_op pm_M177 (pc' := 2) (st' := [.int 0, .int a0]) rfl rfl rfl ?_
  refine pm_R_lo pm_M177 (pc' := 3) rfl rfl rfl ?_
  refine rf_R_get pm_M177 T2 (pc' := 6) (v := .ref 46) rfl rfl rfl rfl ?_
  refine pm_R_lo pm_M177 (pc' := 7) rfl rfl rfl ?_
  obtain ⟨f10, e11, b12⟩ := T2.2.2.2.1 46 (by decide) (by decide)
  refine rf_R_ild pm_M177 T2 (pc' := 8) rfl e11 (by decide) rfl rfl (fun z13 ez14 => ?_)
  have B15 : sf_B 0 2 z13 := ez14 ▸ (b12 0)
  refine pm_R_op pm_M177 (pc' := 9) (st' := [.int 1, .int z13, .int 0, .int a0]) rfl rfl rfl ?_
  refine sf_R_isub pm_M177 (pc' := 10) rfl rfl B15 sf_k1 (by decide) (by decide) (fun z16 e17 B18 => ?_)
  refine pm_R_cs pm_M177 (pc' := 13) (ra := [.int z16, .int 0, .int a0]) (rest := []) (ls' := [.int a0, .int 0, .int z16]) rfl rfl (Or.inl rfl) pm_M174 rfl rfl (Nat.le_of_ble_eq_true rfl) rfl rfl ?_
  refine pm_R_lo pm_M174 (pc' := 1) rfl rfl rfl ?_
  refine pm_R_lo pm_M174 (pc' := 2) rfl rfl rfl ?_
  refine pm_R_icmp pm_M174 (t := 14) (pc' := 5) rfl rfl rfl (fun c19 => ?_) (fun c19 => ?_)
  · have B20 : sf_B (-2147483648) (-1) a0 := sf_ltL c19 (sf_any a0) sf_k0
    refine pm_R_op pm_M174 (pc' := 15) (st' := [.int 0]) rfl rfl rfl ?_
    refine pm_R_ret pm_M174 (r := some (.int 0)) rfl rfl ?_
    show pm_R _ 177 13 [.ref 41, .int 0, .int a0] [.int 0] _ _
    refine pm_R_ret pm_M177 (r := some (.int 0)) rfl rfl ?_
    show pm_R _ 195 11 [.ref 41, .int a0, .int a1] [.int 0] _ _
    refine pm_R_br pm_M195 (pc' := 63) (st' := []) rfl rfl ?_
    refine pm_R_op pm_M195 (pc' := 64) (st' := [.int (-1)]) rfl rfl rfl ?_
    exact pm_R_ret pm_M195 (r := some (.int (-1))) rfl rfl (K (-1) m4 w h1 T2 F6 W9)
  · have B21 : sf_B 0 2147483647 a0 := sf_leR (Int32.not_lt.mp c19) sf_k0 (sf_any a0)
    refine pm_R_lo pm_M174 (pc' := 6) rfl rfl rfl ?_
    refine pm_R_lo pm_M174 (pc' := 7) rfl rfl rfl ?_
    refine pm_R_icmp pm_M174 (t := 14) (pc' := 10) rfl rfl rfl (fun c22 => ?_) (fun c22 => ?_)
    · skip
      refine pm_R_op pm_M174 (pc' := 15) (st' := [.int 0]) rfl rfl rfl ?_
      refine pm_R_ret pm_M174 (r := some (.int 0)) rfl rfl ?_
      show pm_R _ 177 13 [.ref 41, .int 0, .int a0] [.int 0] _ _
      refine pm_R_ret pm_M177 (r := some (.int 0)) rfl rfl ?_
      show pm_R _ 195 11 [.ref 41, .int a0, .int a1] [.int 0] _ _
      refine pm_R_br pm_M195 (pc' := 63) (st' := []) rfl rfl ?_
      refine pm_R_op pm_M195 (pc' := 64) (st' := [.int (-1)]) rfl rfl rfl ?_
      exact pm_R_ret pm_M195 (r := some (.int (-1))) rfl rfl (K (-1) m4 w h1 T2 F6 W9)
    · have B23 : sf_B 0 1 a0 := sf_leL (Int32.not_lt.mp c22) B21 B18
      have B24 : sf_B 0 1 z16 := sf_leR (Int32.not_lt.mp c22) B21 B18
      refine pm_R_op pm_M174 (pc' := 11) (st' := [.int 1]) rfl rfl rfl ?_
      refine pm_R_br pm_M174 (pc' := 15) rfl rfl ?_
      refine pm_R_ret pm_M174 (r := some (.int 1)) rfl rfl ?_
      show pm_R _ 177 13 [.ref 41, .int 0, .int a0] [.int 1] _ _
      refine pm_R_ret pm_M177 (r := some (.int 1)) rfl rfl ?_
      show pm_R _ 195 11 [.ref 41, .int a0, .int a1] [.int 1] _ _
      refine pm_R_br pm_M195 (pc' := 14) (st' := []) rfl rfl ?_
      refine pm_R_lo pm_M195 (pc' := 15) rfl rfl rfl ?_
      refine pm_R_op pm_M195 (pc' := 16) (st' := [.int 0, .int a1]) rfl rfl rfl ?_
      refine pm_R_op pm_M195 (pc' := 17) (st' := [.int 1, .int 0, .int a1]) rfl rfl rfl ?_
      refine pm_R_cs pm_M195 (pc' := 20) (ra := [.int 1, .int 0, .int a1]) (rest := []) (ls' := [.int a1, .int 0, .int 1]) rfl rfl (Or.inl rfl) pm_M174 rfl rfl (Nat.le_of_ble_eq_true rfl) rfl rfl ?_
      refine pm_R_lo pm_M174 (pc' := 1) rfl rfl rfl ?_
      refine pm_R_lo pm_M174 (pc' := 2) rfl rfl rfl ?_
      refine pm_R_icmp pm_M174 (t := 14) (pc' := 5) rfl rfl rfl (fun c25 => ?_) (fun c25 => ?_)
      · have B26 : sf_B (-2147483648) (-1) a1 := sf_ltL c25 (sf_any a1) sf_k0
        refine pm_R_op pm_M174 (pc' := 15) (st' := [.int 0]) rfl rfl rfl ?_
        refine pm_R_ret pm_M174 (r := some (.int 0)) rfl rfl ?_
        show pm_R _ 195 20 [.ref 41, .int a0, .int a1] [.int 0] _ _
        refine pm_R_br pm_M195 (pc' := 23) (st' := []) rfl rfl ?_
        refine pm_R_lo pm_M195 (pc' := 24) rfl rfl rfl ?_
        refine pm_R_op pm_M195 (pc' := 26) (st' := [.int 10, .int a1]) rfl rfl rfl ?_
        refine pm_R_op pm_M195 (pc' := 28) (st' := [.int 19, .int 10, .int a1]) rfl rfl rfl ?_
        refine pm_R_cs pm_M195 (pc' := 31) (ra := [.int 19, .int 10, .int a1]) (rest := []) (ls' := [.int a1, .int 10, .int 19]) rfl rfl (Or.inl rfl) pm_M174 rfl rfl (Nat.le_of_ble_eq_true rfl) rfl rfl ?_
        refine pm_R_lo pm_M174 (pc' := 1) rfl rfl rfl ?_
        refine pm_R_lo pm_M174 (pc' := 2) rfl rfl rfl ?_
        refine pm_R_icmp pm_M174 (t := 14) (pc' := 5) rfl rfl rfl (fun c27 => ?_) (fun c27 => absurd (Int32.not_lt.mp c27) (sf_nle sf_k10 B26 (by decide)))
        skip
        refine pm_R_op pm_M174 (pc' := 15) (st' := [.int 0]) rfl rfl rfl ?_
        refine pm_R_ret pm_M174 (r := some (.int 0)) rfl rfl ?_
        show pm_R _ 195 31 [.ref 41, .int a0, .int a1] [.int 0] _ _
        refine pm_R_br pm_M195 (pc' := 63) (st' := []) rfl rfl ?_
        refine pm_R_op pm_M195 (pc' := 64) (st' := [.int (-1)]) rfl rfl rfl ?_
        exact pm_R_ret pm_M195 (r := some (.int (-1))) rfl rfl (K (-1) m4 w h1 T2 F6 W9)
      · have B28 : sf_B 0 2147483647 a1 := sf_leR (Int32.not_lt.mp c25) sf_k0 (sf_any a1)
        refine pm_R_lo pm_M174 (pc' := 6) rfl rfl rfl ?_
        refine pm_R_lo pm_M174 (pc' := 7) rfl rfl rfl ?_
        refine pm_R_icmp pm_M174 (t := 14) (pc' := 10) rfl rfl rfl (fun c29 => ?_) (fun c29 => ?_)
        · have B30 : sf_B 2 2147483647 a1 := sf_ltR c29 sf_k1 B28
          refine pm_R_op pm_M174 (pc' := 15) (st' := [.int 0]) rfl rfl rfl ?_
          refine pm_R_ret pm_M174 (r := some (.int 0)) rfl rfl ?_
          show pm_R _ 195 20 [.ref 41, .int a0, .int a1] [.int 0] _ _
          refine pm_R_br pm_M195 (pc' := 23) (st' := []) rfl rfl ?_
          refine pm_R_lo pm_M195 (pc' := 24) rfl rfl rfl ?_
          refine pm_R_op pm_M195 (pc' := 26) (st' := [.int 10, .int a1]) rfl rfl rfl ?_
          refine pm_R_op pm_M195 (pc' := 28) (st' := [.int 19, .int 10, .int a1]) rfl rfl rfl ?_
          refine pm_R_cs pm_M195 (pc' := 31) (ra := [.int 19, .int 10, .int a1]) (rest := []) (ls' := [.int a1, .int 10, .int 19]) rfl rfl (Or.inl rfl) pm_M174 rfl rfl (Nat.le_of_ble_eq_true rfl) rfl rfl ?_
          refine pm_R_lo pm_M174 (pc' := 1) rfl rfl rfl ?_
          refine pm_R_lo pm_M174 (pc' := 2) rfl rfl rfl ?_
          refine pm_R_icmp pm_M174 (t := 14) (pc' := 5) rfl rfl rfl (fun c31 => ?_) (fun c31 => ?_)
          · have B32 : sf_B 2 9 a1 := sf_ltL c31 B30 sf_k10
            refine pm_R_op pm_M174 (pc' := 15) (st' := [.int 0]) rfl rfl rfl ?_
            refine pm_R_ret pm_M174 (r := some (.int 0)) rfl rfl ?_
            show pm_R _ 195 31 [.ref 41, .int a0, .int a1] [.int 0] _ _
            refine pm_R_br pm_M195 (pc' := 63) (st' := []) rfl rfl ?_
            refine pm_R_op pm_M195 (pc' := 64) (st' := [.int (-1)]) rfl rfl rfl ?_
            exact pm_R_ret pm_M195 (r := some (.int (-1))) rfl rfl (K (-1) m4 w h1 T2 F6 W9)
          · have B33 : sf_B 10 2147483647 a1 := sf_leR (Int32.not_lt.mp c31) sf_k10 B30
            refine pm_R_lo pm_M174 (pc' := 6) rfl rfl rfl ?_
            refine pm_R_lo pm_M174 (pc' := 7) rfl rfl rfl ?_
            refine pm_R_icmp pm_M174 (t := 14) (pc' := 10) rfl rfl rfl (fun c34 => ?_) (fun c34 => ?_)
            · have B35 : sf_B 20 2147483647 a1 := sf_ltR c34 sf_k19 B33
              refine pm_R_op pm_M174 (pc' := 15) (st' := [.int 0]) rfl rfl rfl ?_
              refine pm_R_ret pm_M174 (r := some (.int 0)) rfl rfl ?_
              show pm_R _ 195 31 [.ref 41, .int a0, .int a1] [.int 0] _ _
              refine pm_R_br pm_M195 (pc' := 63) (st' := []) rfl rfl ?_
              refine pm_R_op pm_M195 (pc' := 64) (st' := [.int (-1)]) rfl rfl rfl ?_
              exact pm_R_ret pm_M195 (r := some (.int (-1))) rfl rfl (K (-1) m4 w h1 T2 F6 W9)
            · have B36 : sf_B 10 19 a1 := sf_leL (Int32.not_lt.mp c34) B33 sf_k19
              refine pm_R_op pm_M174 (pc' := 11) (st' := [.int 1]) rfl rfl rfl ?_
              refine pm_R_br pm_M174 (pc' := 15) rfl rfl ?_
              refine pm_R_ret pm_M174 (r := some (.int 1)) rfl rfl ?_
              show pm_R _ 195 31 [.ref 41, .int a0, .int a1] [.int 1] _ _
              refine pm_R_br pm_M195 (pc' := 34) (st' := []) rfl rfl ?_
              refine pm_R_lo pm_M195 (pc' := 35) rfl rfl rfl ?_
              refine rf_R_get pm_M195 T2 (pc' := 38) (v := .ref 47) rfl rfl rfl rfl ?_
              refine pm_R_op pm_M195 (pc' := 40) (st' := [.int 100, .ref 47]) rfl rfl rfl ?_
              refine pm_R_lo pm_M195 (pc' := 41) rfl rfl rfl ?_
              refine sf_R_imul pm_M195 (pc' := 42) rfl rfl sf_k100 B23 (by decide) (by decide) (by decide) (fun z37 e38 B39 => ?_)
              refine pm_R_lo pm_M195 (pc' := 43) rfl rfl rfl ?_
              refine pm_R_op pm_M195 (pc' := 44) (st' := [.int 2, .int a1, .int z37, .ref 47]) rfl rfl rfl ?_
              refine pm_R_icmp pm_M195 (t := 51) (pc' := 47) rfl rfl rfl (fun c40 => ?_) (fun c40 => absurd (Int32.not_le.mp c40) (sf_nlt B36 sf_k2 (by decide)))
              skip
              refine pm_R_op pm_M195 (pc' := 53) (st' := [.int 90, .int z37, .ref 47]) rfl rfl rfl ?_
              refine pm_R_lo pm_M195 (pc' := 54) rfl rfl rfl ?_
              refine sf_R_iadd pm_M195 (pc' := 55) rfl rfl sf_k90 B36 (by decide) (by decide) (fun z41 e42 B43 => ?_)
              refine pm_R_op pm_M195 (pc' := 57) (st' := [.int 10, .int z41, .int z37, .ref 47]) rfl rfl rfl ?_
              refine sf_R_isub pm_M195 (pc' := 58) rfl rfl B43 sf_k10 (by decide) (by decide) (fun z44 e45 B46 => ?_)
              refine sf_R_iadd pm_M195 (pc' := 59) rfl rfl B39 B46 (by decide) (by decide) (fun z47 e48 B49 => ?_)
              obtain ⟨f50, e51, b52⟩ := T2.2.2.2.1 47 (by decide) (by decide)
              refine rf_R_ild pm_M195 T2 (pc' := 60) rfl e51 (by decide) (sf_in B49 (by decide) (by decide)) rfl (fun z53 ez54 => ?_)
              refine pm_R_br pm_M195 (pc' := 64) rfl rfl ?_
              exact pm_R_ret pm_M195 (r := some (.int z53)) rfl (pm_ret_i _) (K z53 m4 w h1 T2 F6 W9)
        · have B55 : sf_B 0 1 a1 := sf_leL (Int32.not_lt.mp c29) B28 sf_k1
          refine pm_R_op pm_M174 (pc' := 11) (st' := [.int 1]) rfl rfl rfl ?_
          refine pm_R_br pm_M174 (pc' := 15) rfl rfl ?_
          refine pm_R_ret pm_M174 (r := some (.int 1)) rfl rfl ?_
          show pm_R _ 195 20 [.ref 41, .int a0, .int a1] [.int 1] _ _
          refine pm_R_br pm_M195 (pc' := 34) (st' := []) rfl rfl ?_
          refine pm_R_lo pm_M195 (pc' := 35) rfl rfl rfl ?_
          refine rf_R_get pm_M195 T2 (pc' := 38) (v := .ref 47) rfl rfl rfl rfl ?_
          refine pm_R_op pm_M195 (pc' := 40) (st' := [.int 100, .ref 47]) rfl rfl rfl ?_
          refine pm_R_lo pm_M195 (pc' := 41) rfl rfl rfl ?_
          refine sf_R_imul pm_M195 (pc' := 42) rfl rfl sf_k100 B23 (by decide) (by decide) (by decide) (fun z56 e57 B58 => ?_)
          refine pm_R_lo pm_M195 (pc' := 43) rfl rfl rfl ?_
          refine pm_R_op pm_M195 (pc' := 44) (st' := [.int 2, .int a1, .int z56, .ref 47]) rfl rfl rfl ?_
          refine pm_R_icmp pm_M195 (t := 51) (pc' := 47) rfl rfl rfl (fun c59 => absurd c59 (sf_nle sf_k2 B55 (by decide))) (fun c59 => ?_)
          skip
          refine pm_R_lo pm_M195 (pc' := 48) rfl rfl rfl ?_
          refine pm_R_br pm_M195 (pc' := 58) rfl rfl ?_
          refine sf_R_iadd pm_M195 (pc' := 59) rfl rfl B58 B55 (by decide) (by decide) (fun z60 e61 B62 => ?_)
          obtain ⟨f63, e64, b65⟩ := T2.2.2.2.1 47 (by decide) (by decide)
          refine rf_R_ild pm_M195 T2 (pc' := 60) rfl e64 (by decide) (sf_in B62 (by decide) (by decide)) rfl (fun z66 ez67 => ?_)
          refine pm_R_br pm_M195 (pc' := 64) rfl rfl ?_
          exact pm_R_ret pm_M195 (r := some (.int z66)) rfl (pm_ret_i _) (K z66 m4 w h1 T2 F6 W9)
