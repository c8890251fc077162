set_option maxRecDepth 100000 in
set_option maxHeartbeats 4000000 in
/-- SilentTableModel.brief -/
theorem rf_c240 {d : Nat} {m : Nat → Int32} {w : Int64} {h : pm_H} {Q : Option Value → pm_H → Prop} {a0 : Int32} {a1 : Int32} {a2 : Int32} {a3 : Int32} (T : rf_T m w h)  (K : ∀ (r : Int32) (m' : Nat → Int32) (w' : Int64) (h' : pm_H), rf_T m' w' h' → rf_G [41, 53, 54, 55, 66] h h' → rf_W [0, 23, 24, 26] m m' → sf_B (-1) 9 r → Q (some (.int r)) h') : pm_R (d + 9) 240 0 [.ref 41, .int a0, .int a1, .int a2, .int a3] [] h Q := by
  refine pm_R_lo pm_M240 (pc' := 1) rfl rfl rfl ?_
  refine pm_R_op pm_M240 (pc' := 2) (st' := [.int 0, .ref 41]) rfl rfl rfl ?_
  refine rf_R_put pm_M240 T (pc' := 5) rfl rfl rfl (by decide) rfl rfl sf_k0 rfl rfl (fun h1 m4 em5 T2 F3 => ?_)
  have F6 := (rf_G.refl [41, 53, 54, 55, 66] h).trans F3 (by decide)
  have B7 : sf_B 0 0 (m4 0) := by rw [em5]; exact sf_k0
  have W9 : rf_W [0, 23, 24, 26] m m4 := by rw [em5]; exact (rf_W.refl [0, 23, 24, 26] m).put (by decide)
  refine pm_R_lo pm_M240 (pc' := 6) rfl rfl rfl ?_
  refine pm_R_op pm_M240 (pc' := 7) (st' := [.int 0, .ref 41]) rfl rfl rfl ?_
  refine pm_R_lo pm_M240 (pc' := 8) rfl rfl rfl ?_
  refine pm_R_cv pm_M240 (pc' := 11) (a := 41) (ra := [.int a0, .int 0]) (rest := []) (ls' := [.ref 41, .int 0, .int a0]) rfl rfl (Or.inl rfl) pm_M177 T2.2.1 rfl (by decide) (Nat.lt_of_lt_of_le (by decide) T2.1) rfl rfl (Nat.le_of_ble_eq_true rfl) rfl rfl ?_
  refine pm_R_lo pm_M177 (pc' := 1) rfl rfl rfl ?_
  refine pm_R_op pm_M177 (pc' := 2) (st' := [.int 0, .int a0]) rfl rfl rfl ?_
  refine pm_R_lo pm_M177 (pc' := 3) rfl rfl rfl ?_
  refine rf_R_get pm_M177 T2 (pc' := 6) (v := .ref 46) rfl rfl rfl rfl ?_
  refine pm_R_lo pm_M177 (pc' := 7) rfl rfl rfl ?_
  obtain ⟨f10, e11, b12⟩ := T2.2.2.2.1 46 (by decide) (by decide)
  refine rf_R_ild pm_M177 T2 (pc' := 8) rfl e11 (by decide) rfl rfl (fun z13 ez14 => ?_)
  have B15 : sf_B 0 2 z13 := ez14 ▸ (b12 0)
  refine pm_R_op pm_M177 (pc' := 9) (st' := [.int 1, .int z13, .int 0, .int a0]) rfl rfl rfl ?_
  refine sf_R_isub pm_M177 (pc' := 10) rfl rfl B15 sf_k1 (by decide) (by decide) (fun z16 e17 B18 => ?_)
  refine pm_R_cs pm_M177 (pc' := 13) (ra := [.int z16, .int 0, .int a0]) (rest := []) (ls' := [.int a0, .int 0, .int z16]) rfl rfl (Or.inl rfl) pm_M174 rfl rfl (Nat.le_of_ble_eq_true rfl) rfl rfl ?_
  refine pm_R_lo pm_M174 (pc' := 1) rfl rfl rfl ?_
  refine pm_R_lo pm_M174 (pc' := 2) rfl rfl rfl ?_
  refine pm_R_icmp pm_M174 (t := 14) (pc' := 5) rfl rfl rfl (fun c19 => ?_) (fun c19 => ?_)
  · have B20 : sf_B (-2147483648) (-1) a0 := sf_ltL c19 (sf_any a0) sf_k0
    refine pm_R_op pm_M174 (pc' := 15) (st' := [.int 0]) rfl rfl rfl ?_
    refine pm_R_ret pm_M174 (r := some (.int 0)) rfl rfl ?_
    show pm_R _ 177 13 [.ref 41, .int 0, .int a0] [.int 0] _ _
    refine pm_R_ret pm_M177 (r := some (.int 0)) rfl rfl ?_
    show pm_R _ 240 11 [.ref 41, .int a0, .int a1, .int a2, .int a3] [.int 0] _ _
    refine pm_R_br pm_M240 (pc' := 34) (st' := []) rfl rfl ?_
    refine pm_R_op pm_M240 (pc' := 35) (st' := [.int (-1)]) rfl rfl rfl ?_
    exact pm_R_ret pm_M240 (r := some (.int (-1))) rfl rfl (K (-1) m4 w h1 T2 F6 W9 (sf_weak sf_kn1 (by decide) (by decide)))
  · have B21 : sf_B 0 2147483647 a0 := sf_leR (Int32.not_lt.mp c19) sf_k0 (sf_any a0)
    refine pm_R_lo pm_M174 (pc' := 6) rfl rfl rfl ?_
    refine pm_R_lo pm_M174 (pc' := 7) rfl rfl rfl ?_
    refine pm_R_icmp pm_M174 (t := 14) (pc' := 10) rfl rfl rfl (fun c22 => ?_) (fun c22 => ?_)
    · skip
      refine pm_R_op pm_M174 (pc' := 15) (st' := [.int 0]) rfl rfl rfl ?_
      refine pm_R_ret pm_M174 (r := some (.int 0)) rfl rfl ?_
      show pm_R _ 177 13 [.ref 41, .int 0, .int a0] [.int 0] _ _
      refine pm_R_ret pm_M177 (r := some (.int 0)) rfl rfl ?_
      show pm_R _ 240 11 [.ref 41, .int a0, .int a1, .int a2, .int a3] [.int 0] _ _
      refine pm_R_br pm_M240 (pc' := 34) (st' := []) rfl rfl ?_
      refine pm_R_op pm_M240 (pc' := 35) (st' := [.int (-1)]) rfl rfl rfl ?_
      exact pm_R_ret pm_M240 (r := some (.int (-1))) rfl rfl (K (-1) m4 w h1 T2 F6 W9 (sf_weak sf_kn1 (by decide) (by decide)))
    · have B23 : sf_B 0 1 a0 := sf_leL (Int32.not_lt.mp c22) B21 B18
      have B24 : sf_B 0 1 z16 := sf_leR (Int32.not_lt.mp c22) B21 B18
      refine pm_R_op pm_M174 (pc' := 11) (st' := [.int 1]) rfl rfl rfl ?_
      refine pm_R_br pm_M174 (pc' := 15) rfl rfl ?_
      refine pm_R_ret pm_M174 (r := some (.int 1)) rfl rfl ?_
      show pm_R _ 177 13 [.ref 41, .int 0, .int a0] [.int 1] _ _
      refine pm_R_ret pm_M177 (r := some (.int 1)) rfl rfl ?_
      show pm_R _ 240 11 [.ref 41, .int a0, .int a1, .int a2, .int a3] [.int 1] _ _
      refine pm_R_br pm_M240 (pc' := 14) (st' := []) rfl rfl ?_
      refine pm_R_lo pm_M240 (pc' := 15) rfl rfl rfl ?_
      refine pm_R_op pm_M240 (pc' := 16) (st' := [.int 0, .int a1]) rfl rfl rfl ?_
      refine pm_R_op pm_M240 (pc' := 18) (st' := [.int 49, .int 0, .int a1]) rfl rfl rfl ?_
      refine pm_R_cs pm_M240 (pc' := 21) (ra := [.int 49, .int 0, .int a1]) (rest := []) (ls' := [.int a1, .int 0, .int 49]) rfl rfl (Or.inl rfl) pm_M174 rfl rfl (Nat.le_of_ble_eq_true rfl) rfl rfl ?_
      refine pm_R_lo pm_M174 (pc' := 1) rfl rfl rfl ?_
      refine pm_R_lo pm_M174 (pc' := 2) rfl rfl rfl ?_
      refine pm_R_icmp pm_M174 (t := 14) (pc' := 5) rfl rfl rfl (fun c25 => ?_) (fun c25 => ?_)
      · have B26 : sf_B (-2147483648) (-1) a1 := sf_ltL c25 (sf_any a1) sf_k0
        refine pm_R_op pm_M174 (pc' := 15) (st' := [.int 0]) rfl rfl rfl ?_
        refine pm_R_ret pm_M174 (r := some (.int 0)) rfl rfl ?_
        show pm_R _ 240 21 [.ref 41, .int a0, .int a1, .int a2, .int a3] [.int 0] _ _
        refine pm_R_br pm_M240 (pc' := 34) (st' := []) rfl rfl ?_
        refine pm_R_op pm_M240 (pc' := 35) (st' := [.int (-1)]) rfl rfl rfl ?_
        exact pm_R_ret pm_M240 (r := some (.int (-1))) rfl rfl (K (-1) m4 w h1 T2 F6 W9 (sf_weak sf_kn1 (by decide) (by decide)))
      · have B27 : sf_B 0 2147483647 a1 := sf_leR (Int32.not_lt.mp c25) sf_k0 (sf_any a1)
        refine pm_R_lo pm_M174 (pc' := 6) rfl rfl rfl ?_
        refine pm_R_lo pm_M174 (pc' := 7) rfl rfl rfl ?_
        refine pm_R_icmp pm_M174 (t := 14) (pc' := 10) rfl rfl rfl (fun c28 => ?_) (fun c28 => ?_)
        · have B29 : sf_B 50 2147483647 a1 := sf_ltR c28 sf_k49 B27
          refine pm_R_op pm_M174 (pc' := 15) (st' := [.int 0]) rfl rfl rfl ?_
          refine pm_R_ret pm_M174 (r := some (.int 0)) rfl rfl ?_
          show pm_R _ 240 21 [.ref 41, .int a0, .int a1, .int a2, .int a3] [.int 0] _ _
          refine pm_R_br pm_M240 (pc' := 34) (st' := []) rfl rfl ?_
          refine pm_R_op pm_M240 (pc' := 35) (st' := [.int (-1)]) rfl rfl rfl ?_
          exact pm_R_ret pm_M240 (r := some (.int (-1))) rfl rfl (K (-1) m4 w h1 T2 F6 W9 (sf_weak sf_kn1 (by decide) (by decide)))
        · have B30 : sf_B 0 49 a1 := sf_leL (Int32.not_lt.mp c28) B27 sf_k49
          refine pm_R_op pm_M174 (pc' := 11) (st' := [.int 1]) rfl rfl rfl ?_
          refine pm_R_br pm_M174 (pc' := 15) rfl rfl ?_
          refine pm_R_ret pm_M174 (r := some (.int 1)) rfl rfl ?_
          show pm_R _ 240 21 [.ref 41, .int a0, .int a1, .int a2, .int a3] [.int 1] _ _
          refine pm_R_br pm_M240 (pc' := 24) (st' := []) rfl rfl ?_
          refine pm_R_lo pm_M240 (pc' := 25) rfl rfl rfl ?_
          refine pm_R_op pm_M240 (pc' := 26) (st' := [.int (-1), .int a2]) rfl rfl rfl ?_
          refine pm_R_op pm_M240 (pc' := 28) (st' := [.int 9, .int (-1), .int a2]) rfl rfl rfl ?_
          refine pm_R_cs pm_M240 (pc' := 31) (ra := [.int 9, .int (-1), .int a2]) (rest := []) (ls' := [.int a2, .int (-1), .int 9]) rfl rfl (Or.inl rfl) pm_M174 rfl rfl (Nat.le_of_ble_eq_true rfl) rfl rfl ?_
          refine pm_R_lo pm_M174 (pc' := 1) rfl rfl rfl ?_
          refine pm_R_lo pm_M174 (pc' := 2) rfl rfl rfl ?_
          refine pm_R_icmp pm_M174 (t := 14) (pc' := 5) rfl rfl rfl (fun c31 => ?_) (fun c31 => ?_)
          · have B32 : sf_B (-2147483648) (-2) a2 := sf_ltL c31 (sf_any a2) sf_kn1
            refine pm_R_op pm_M174 (pc' := 15) (st' := [.int 0]) rfl rfl rfl ?_
            refine pm_R_ret pm_M174 (r := some (.int 0)) rfl rfl ?_
            show pm_R _ 240 31 [.ref 41, .int a0, .int a1, .int a2, .int a3] [.int 0] _ _
            refine pm_R_br pm_M240 (pc' := 34) (st' := []) rfl rfl ?_
            refine pm_R_op pm_M240 (pc' := 35) (st' := [.int (-1)]) rfl rfl rfl ?_
            exact pm_R_ret pm_M240 (r := some (.int (-1))) rfl rfl (K (-1) m4 w h1 T2 F6 W9 (sf_weak sf_kn1 (by decide) (by decide)))
          · have B33 : sf_B (-1) 2147483647 a2 := sf_leR (Int32.not_lt.mp c31) sf_kn1 (sf_any a2)
            refine pm_R_lo pm_M174 (pc' := 6) rfl rfl rfl ?_
            refine pm_R_lo pm_M174 (pc' := 7) rfl rfl rfl ?_
            refine pm_R_icmp pm_M174 (t := 14) (pc' := 10) rfl rfl rfl (fun c34 => ?_) (fun c34 => ?_)
            · have B35 : sf_B 10 2147483647 a2 := sf_ltR c34 sf_k9 B33
              refine pm_R_op pm_M174 (pc' := 15) (st' := [.int 0]) rfl rfl rfl ?_
              refine pm_R_ret pm_M174 (r := some (.int 0)) rfl rfl ?_
              show pm_R _ 240 31 [.ref 41, .int a0, .int a1, .int a2, .int a3] [.int 0] _ _
              refine pm_R_br pm_M240 (pc' := 34) (st' := []) rfl rfl ?_
              refine pm_R_op pm_M240 (pc' := 35) (st' := [.int (-1)]) rfl rfl rfl ?_
              exact pm_R_ret pm_M240 (r := some (.int (-1))) rfl rfl (K (-1) m4 w h1 T2 F6 W9 (sf_weak sf_kn1 (by decide) (by decide)))
            · have B36 : sf_B (-1) 9 a2 := sf_leL (Int32.not_lt.mp c34) B33 sf_k9
              refine pm_R_op pm_M174 (pc' := 11) (st' := [.int 1]) rfl rfl rfl ?_
              refine pm_R_br pm_M174 (pc' := 15) rfl rfl ?_
              refine pm_R_ret pm_M174 (r := some (.int 1)) rfl rfl ?_
              show pm_R _ 240 31 [.ref 41, .int a0, .int a1, .int a2, .int a3] [.int 1] _ _
              refine pm_R_br pm_M240 (pc' := 36) (st' := []) rfl rfl ?_
              refine pm_R_lo pm_M240 (pc' := 37) rfl rfl rfl ?_
              refine pm_R_lo pm_M240 (pc' := 38) rfl rfl rfl ?_
              refine rf_R_put pm_M240 T2 (pc' := 41) rfl rfl rfl (by decide) rfl rfl B23 rfl rfl (fun h37 m40 em41 T38 F39 => ?_)
              have F42 := F6.trans F39 (by decide)
              have B43 : sf_B 0 1 (m40 23) := by rw [em41]; exact B23
              have ek44 : (m40 23).toInt = (a0).toInt := by rw [em41]; rfl
              have W45 : rf_W [0, 23, 24, 26] m m40 := by rw [em41]; exact W9.put (by decide)
              refine pm_R_lo pm_M240 (pc' := 42) rfl rfl rfl ?_
              refine pm_R_lo pm_M240 (pc' := 43) rfl rfl rfl ?_
              refine pm_R_lo pm_M240 (pc' := 44) rfl rfl rfl ?_
              refine pm_R_cv pm_M240 (pc' := 47) (a := 41) (ra := [.int a2, .int a1]) (rest := []) (ls' := [.ref 41, .int a1, .int a2, pm_no, pm_no]) rfl rfl (Or.inl rfl) pm_M241 T38.2.1 rfl (by decide) (Nat.lt_of_lt_of_le (by decide) T38.1) rfl rfl (Nat.le_of_ble_eq_true rfl) rfl rfl ?_
              refine rf_c241 (d := d + 0) T38 B30 B36 (fun r46 m48 w49 h50 T51 F52 W53 B47 => ?_)
              have F54 := F42.trans F52 (by decide)
              have W55 : rf_W [0, 23, 24, 26] m m48 := W45.trans W53 (by decide)
              show pm_R _ 240 47 [.ref 41, .int a0, .int a1, .int a2, .int a3] [.int r46] _ _
              refine pm_R_ifc pm_M240 (t := 59) (pc' := 50) rfl rfl rfl (fun c56 => ?_) (fun c56 => ?_)
              · have B57 : sf_B 0 0 r46 := sf_eqL c56 sf_k0
                refine pm_R_op pm_M240 (pc' := 60) (st' := [.int (-1)]) rfl rfl rfl ?_
                exact pm_R_ret pm_M240 (r := some (.int (-1))) rfl rfl (K (-1) m48 w49 h50 T51 F54 W55 (sf_weak sf_kn1 (by decide) (by decide)))
              · have B58 : sf_B 1 1 r46 := sf_neL0 c56 sf_k0 B47
                refine pm_R_lo pm_M240 (pc' := 51) rfl rfl rfl ?_
                refine pm_R_lo pm_M240 (pc' := 53) rfl rfl rfl ?_
                refine pm_R_cv pm_M240 (pc' := 56) (a := 41) (ra := [.int a3]) (rest := []) (ls' := [.ref 41, .int a3]) rfl rfl (Or.inl rfl) pm_M246 T51.2.1 rfl (by decide) (Nat.lt_of_lt_of_le (by decide) T51.1) rfl rfl (Nat.le_of_ble_eq_true rfl) rfl rfl ?_
                refine pm_R_lo pm_M246 (pc' := 1) rfl rfl rfl ?_
                refine pm_R_op pm_M246 (pc' := 2) (st' := [.int 0, .int a3]) rfl rfl rfl ?_
                refine pm_R_lo pm_M246 (pc' := 3) rfl rfl rfl ?_
                refine rf_R_get pm_M246 T51 (pc' := 6) (v := .ref 66) rfl rfl rfl rfl ?_
                refine pm_R_op pm_M246 (pc' := 7) (st' := [.int 0, .ref 66, .int 0, .int a3]) rfl rfl rfl ?_
                obtain ⟨f59, e60, b61⟩ := T51.2.2.2.1 66 (by decide) (by decide)
                refine rf_R_ild pm_M246 T51 (pc' := 8) rfl e60 (by decide) rfl rfl (fun z62 ez63 => ?_)
                have B64 : sf_B 0 4 z62 := ez63 ▸ (b61 0)
                refine pm_R_cs pm_M246 (pc' := 11) (ra := [.int z62, .int 0, .int a3]) (rest := []) (ls' := [.int a3, .int 0, .int z62]) rfl rfl (Or.inl rfl) pm_M174 rfl rfl (Nat.le_of_ble_eq_true rfl) rfl rfl ?_
                refine pm_R_lo pm_M174 (pc' := 1) rfl rfl rfl ?_
                refine pm_R_lo pm_M174 (pc' := 2) rfl rfl rfl ?_
                refine pm_R_icmp pm_M174 (t := 14) (pc' := 5) rfl rfl rfl (fun c65 => ?_) (fun c65 => ?_)
                · have B66 : sf_B (-2147483648) (-1) a3 := sf_ltL c65 (sf_any a3) sf_k0
                  refine pm_R_op pm_M174 (pc' := 15) (st' := [.int 0]) rfl rfl rfl ?_
                  refine pm_R_ret pm_M174 (r := some (.int 0)) rfl rfl ?_
                  show pm_R _ 246 11 [.ref 41, .int a3] [.int 0] _ _
                  refine pm_R_br pm_M246 (pc' := 23) (st' := []) rfl rfl ?_
                  refine pm_R_op pm_M246 (pc' := 24) (st' := [.int (-1)]) rfl rfl rfl ?_
                  refine pm_R_ret pm_M246 (r := some (.int (-1))) rfl rfl ?_
                  show pm_R _ 240 56 [.ref 41, .int a0, .int a1, .int a2, .int a3] [.int (-1)] _ _
                  refine pm_R_br pm_M240 (pc' := 60) rfl rfl ?_
                  exact pm_R_ret pm_M240 (r := some (.int (-1))) rfl rfl (K (-1) m48 w49 h50 T51 F54 W55 (sf_weak sf_kn1 (by decide) (by decide)))
                · have B67 : sf_B 0 2147483647 a3 := sf_leR (Int32.not_lt.mp c65) sf_k0 (sf_any a3)
                  refine pm_R_lo pm_M174 (pc' := 6) rfl rfl rfl ?_
                  refine pm_R_lo pm_M174 (pc' := 7) rfl rfl rfl ?_
                  refine pm_R_icmp pm_M174 (t := 14) (pc' := 10) rfl rfl rfl (fun c68 => ?_) (fun c68 => ?_)
                  · have B69 : sf_B 1 2147483647 a3 := sf_ltR c68 B64 B67
                    refine pm_R_op pm_M174 (pc' := 15) (st' := [.int 0]) rfl rfl rfl ?_
                    refine pm_R_ret pm_M174 (r := some (.int 0)) rfl rfl ?_
                    show pm_R _ 246 11 [.ref 41, .int a3] [.int 0] _ _
                    refine pm_R_br pm_M246 (pc' := 23) (st' := []) rfl rfl ?_
                    refine pm_R_op pm_M246 (pc' := 24) (st' := [.int (-1)]) rfl rfl rfl ?_
                    refine pm_R_ret pm_M246 (r := some (.int (-1))) rfl rfl ?_
                    show pm_R _ 240 56 [.ref 41, .int a0, .int a1, .int a2, .int a3] [.int (-1)] _ _
                    refine pm_R_br pm_M240 (pc' := 60) rfl rfl ?_
                    exact pm_R_ret pm_M240 (r := some (.int (-1))) rfl rfl (K (-1) m48 w49 h50 T51 F54 W55 (sf_weak sf_kn1 (by decide) (by decide)))
                  · have B70 : sf_B 0 4 a3 := sf_leL (Int32.not_lt.mp c68) B67 B64
                    refine pm_R_op pm_M174 (pc' := 11) (st' := [.int 1]) rfl rfl rfl ?_
                    refine pm_R_br pm_M174 (pc' := 15) rfl rfl ?_
                    refine pm_R_ret pm_M174 (r := some (.int 1)) rfl rfl ?_
                    show pm_R _ 246 11 [.ref 41, .int a3] [.int 1] _ _
                    refine pm_R_br pm_M246 (pc' := 14) (st' := []) rfl rfl ?_
                    refine pm_R_lo pm_M246 (pc' := 15) rfl rfl rfl ?_
                    refine rf_R_get pm_M246 T51 (pc' := 18) (v := .ref 66) rfl rfl rfl rfl ?_
                    refine pm_R_lo pm_M246 (pc' := 19) rfl rfl rfl ?_
                    refine rf_R_ild pm_M246 T51 (pc' := 20) rfl e60 (by decide) (sf_in B70 (by decide) (by decide)) rfl (fun z71 ez72 => ?_)
                    have B73 : sf_B 0 9 z71 := ez72 ▸ (rf_p66 b61 _)
                    refine pm_R_br pm_M246 (pc' := 24) rfl rfl ?_
                    refine pm_R_ret pm_M246 (r := some (.int z71)) rfl (pm_ret_i _) ?_
                    show pm_R _ 240 56 [.ref 41, .int a0, .int a1, .int a2, .int a3] [.int z71] _ _
                    refine pm_R_br pm_M240 (pc' := 60) rfl rfl ?_
                    exact pm_R_ret pm_M240 (r := some (.int z71)) rfl (pm_ret_i _) (K z71 m48 w49 h50 T51 F54 W55 (sf_weak B73 (by decide) (by decide)))

set_option maxRecDepth 100000 in
set_option maxHeartbeats 4000000 in
/-- SilentTableModel.apart -/
theorem rf_c247 {d : Nat} {m : Nat → Int32} {w : Int64} {h : pm_H} {Q : Option Value → pm_H → Prop} {a0 : Int32} {a1 : Int32} {a2 : Int32} (T : rf_T m w h)  (K : ∀ (r : Int32) (m' : Nat → Int32) (w' : Int64) (h' : pm_H), rf_T m' w' h' → rf_G [41, 53, 54, 66] h h' → rf_W [0, 23, 24, 26] m m' → sf_B (-1) 9 r → Q (some (.int r)) h') : pm_R (d + 7) 247 0 [.ref 41, .int a0, .int a1, .int a2, pm_no, pm_no] [] h Q := by
  refine pm_R_lo pm_M247 (pc' := 1) rfl rfl rfl ?_
  refine pm_R_op pm_M247 (pc' := 2) (st' := [.int 0, .ref 41]) rfl rfl rfl ?_
  refine rf_R_put pm_M247 T (pc' := 5) rfl rfl rfl (by decide) rfl rfl sf_k0 rfl rfl (fun h1 m4 em5 T2 F3 => ?_)
  have F6 := (rf_G.refl [41, 53, 54, 66] h).trans F3 (by decide)
  have B7 : sf_B 0 0 (m4 0) := by rw [em5]; exact sf_k0
  have W9 : rf_W [0, 23, 24, 26] m m4 := by rw [em5]; exact (rf_W.refl [0, 23, 24, 26] m).put (by decide)
  refine pm_R_lo pm_M247 (pc' := 6) rfl rfl rfl ?_
  refine pm_R_op pm_M247 (pc' := 7) (st' := [.int 0, .ref 41]) rfl rfl rfl ?_
  refine pm_R_lo pm_M247 (pc' := 8) rfl rfl rfl ?_
  refine pm_R_cv pm_M247 (pc' := 11) (a := 41) (ra := [.int a0, .int 0]) (rest := []) (ls' := [.ref 41, .int 0, .int a0]) rfl rfl (Or.inl rfl) pm_M177 T2.2.1 rfl (by decide) (Nat.lt_of_lt_of_le (by decide) T2.1) rfl rfl (Nat.le_of_ble_eq_true rfl) rfl rfl ?_
  refine pm_R_lo pm_M177 (pc' := 1) rfl rfl rfl ?_
  refine pm_R_op pm_M177 (pc' := 2) (st' := [.int 0, .int a0]) rfl rfl rfl ?_
  refine pm_R_lo pm_M177 (pc' := 3) rfl rfl rfl ?_
  refine rf_R_get pm_M177 T2 (pc' := 6) (v := .ref 46) rfl rfl rfl rfl ?_
  refine pm_R_lo pm_M177 (pc' := 7) rfl rfl rfl ?_
  obtain ⟨f10, e11, b12⟩ := T2.2.2.2.1 46 (by decide) (by decide)
  refine rf_R_ild pm_M177 T2 (pc' := 8) rfl e11 (by decide) rfl rfl (fun z13 ez14 => ?_)
  have B15 : sf_B 0 2 z13 := ez14 ▸ (b12 0)
  refine pm_R_op pm_M177 (pc' := 9) (st' := [.int 1, .int z13, .int 0, .int a0]) rfl rfl rfl ?_
  refine sf_R_isub pm_M177 (pc' := 10) rfl rfl B15 sf_k1 (by decide) (by decide) (fun z16 e17 B18 => ?_)
  refine pm_R_cs pm_M177 (pc' := 13) (ra := [.int z16, .int 0, .int a0]) (rest := []) (ls' := [.int a0, .int 0, .int z16]) rfl rfl (Or.inl rfl) pm_M174 rfl rfl (Nat.le_of_ble_eq_true rfl) rfl rfl ?_
  refine pm_R_lo pm_M174 (pc' := 1) rfl rfl rfl ?_
  refine pm_R_lo pm_M174 (pc' := 2) rfl rfl rfl ?_
  refine pm_R_icmp pm_M174 (t := 14) (pc' := 5) rfl rfl rfl (fun c19 => ?_) (fun c19 => ?_)
  · have B20 : sf_B (-2147483648) (-1) a0 := sf_ltL c19 (sf_any a0) sf_k0
    refine pm_R_op pm_M174 (pc' := 15) (st' := [.int 0]) rfl rfl rfl ?_
    refine pm_R_ret pm_M174 (r := some (.int 0)) rfl rfl ?_
    show pm_R _ 177 13 [.ref 41, .int 0, .int a0] [.int 0] _ _
    refine pm_R_ret pm_M177 (r := some (.int 0)) rfl rfl ?_
    show pm_R _ 247 11 [.ref 41, .int a0, .int a1, .int a2, pm_no, pm_no] [.int 0] _ _
    refine pm_R_br pm_M247 (pc' := 23) (st' := []) rfl rfl ?_
    refine pm_R_op pm_M247 (pc' := 24) (st' := [.int (-1)]) rfl rfl rfl ?_
    exact pm_R_ret pm_M247 (r := some (.int (-1))) rfl rfl (K (-1) m4 w h1 T2 F6 W9 (sf_weak sf_kn1 (by decide) (by decide)))
  · have B21 : sf_B 0 2147483647 a0 := sf_leR (Int32.not_lt.mp c19) sf_k0 (sf_any a0)
    refine pm_R_lo pm_M174 (pc' := 6) rfl rfl rfl ?_
    refine pm_R_lo pm_M174 (pc' := 7) rfl rfl rfl ?_
    refine pm_R_icmp pm_M174 (t := 14) (pc' := 10) rfl rfl rfl (fun c22 => ?_) (fun c22 => ?_)
    · skip
      refine pm_R_op pm_M174 (pc' := 15) (st' := [.int 0]) rfl rfl rfl ?_
      refine pm_R_ret pm_M174 (r := some (.int 0)) rfl rfl ?_
      show pm_R _ 177 13 [.ref 41, .int 0, .int a0] [.int 0] _ _
      refine pm_R_ret pm_M177 (r := some (.int 0)) rfl rfl ?_
      show pm_R _ 247 11 [.ref 41, .int a0, .int a1, .int a2, pm_no, pm_no] [.int 0] _ _
      refine pm_R_br pm_M247 (pc' := 23) (st' := []) rfl rfl ?_
      refine pm_R_op pm_M247 (pc' := 24) (st' := [.int (-1)]) rfl rfl rfl ?_
      exact pm_R_ret pm_M247 (r := some (.int (-1))) rfl rfl (K (-1) m4 w h1 T2 F6 W9 (sf_weak sf_kn1 (by decide) (by decide)))
    · have B23 : sf_B 0 1 a0 := sf_leL (Int32.not_lt.mp c22) B21 B18
      have B24 : sf_B 0 1 z16 := sf_leR (Int32.not_lt.mp c22) B21 B18
      refine pm_R_op pm_M174 (pc' := 11) (st' := [.int 1]) rfl rfl rfl ?_
      refine pm_R_br pm_M174 (pc' := 15) rfl rfl ?_
      refine pm_R_ret pm_M174 (r := some (.int 1)) rfl rfl ?_
      show pm_R _ 177 13 [.ref 41, .int 0, .int a0] [.int 1] _ _
      refine pm_R_ret pm_M177 (r := some (.int 1)) rfl rfl ?_
      show pm_R _ 247 11 [.ref 41, .int a0, .int a1, .int a2, pm_no, pm_no] [.int 1] _ _
      refine pm_R_br pm_M247 (pc' := 14) (st' := []) rfl rfl ?_
      refine pm_R_lo pm_M247 (pc' := 15) rfl rfl rfl ?_
      refine pm_R_op pm_M247 (pc' := 16) (st' := [.int 0, .ref 41]) rfl rfl rfl ?_
      refine pm_R_lo pm_M247 (pc' := 17) rfl rfl rfl ?_
      refine pm_R_cv pm_M247 (pc' := 20) (a := 41) (ra := [.int a1, .int 0]) (rest := []) (ls' := [.ref 41, .int 0, .int a1]) rfl rfl (Or.inl rfl) pm_M177 T2.2.1 rfl (by decide) (Nat.lt_of_lt_of_le (by decide) T2.1) rfl rfl (Nat.le_of_ble_eq_true rfl) rfl rfl ?_
      refine pm_R_lo pm_M177 (pc' := 1) rfl rfl rfl ?_
      refine pm_R_op pm_M177 (pc' := 2) (st' := [.int 0, .int a1]) rfl rfl rfl ?_
      refine pm_R_lo pm_M177 (pc' := 3) rfl rfl rfl ?_
      refine rf_R_get pm_M177 T2 (pc' := 6) (v := .ref 46) rfl rfl rfl rfl ?_
      refine pm_R_lo pm_M177 (pc' := 7) rfl rfl rfl ?_
      refine rf_R_ild pm_M177 T2 (pc' := 8) rfl e11 (by decide) rfl rfl (fun z25 ez26 => ?_)
      have B27 : sf_B 0 2 z25 := ez26 ▸ (b12 0)
      refine pm_R_op pm_M177 (pc' := 9) (st' := [.int 1, .int z25, .int 0, .int a1]) rfl rfl rfl ?_
      refine sf_R_isub pm_M177 (pc' := 10) rfl rfl B27 sf_k1 (by decide) (by decide) (fun z28 e29 B30 => ?_)
      refine pm_R_cs pm_M177 (pc' := 13) (ra := [.int z28, .int 0, .int a1]) (rest := []) (ls' := [.int a1, .int 0, .int z28]) rfl rfl (Or.inl rfl) pm_M174 rfl rfl (Nat.le_of_ble_eq_true rfl) rfl rfl ?_
      refine pm_R_lo pm_M174 (pc' := 1) rfl rfl rfl ?_
      refine pm_R_lo pm_M174 (pc' := 2) rfl rfl rfl ?_
      refine pm_R_icmp pm_M174 (t := 14) (pc' := 5) rfl rfl rfl (fun c31 => ?_) (fun c31 => ?_)
      · have B32 : sf_B (-2147483648) (-1) a1 := sf_ltL c31 (sf_any a1) sf_k0
        refine pm_R_op pm_M174 (pc' := 15) (st' := [.int 0]) rfl rfl rfl ?_
        refine pm_R_ret pm_M174 (r := some (.int 0)) rfl rfl ?_
        show pm_R _ 177 13 [.ref 41, .int 0, .int a1] [.int 0] _ _
        refine pm_R_ret pm_M177 (r := some (.int 0)) rfl rfl ?_
        show pm_R _ 247 20 [.ref 41, .int a0, .int a1, .int a2, pm_no, pm_no] [.int 0] _ _
        refine pm_R_br pm_M247 (pc' := 23) (st' := []) rfl rfl ?_
        refine pm_R_op pm_M247 (pc' := 24) (st' := [.int (-1)]) rfl rfl rfl ?_
        exact pm_R_ret pm_M247 (r := some (.int (-1))) rfl rfl (K (-1) m4 w h1 T2 F6 W9 (sf_weak sf_kn1 (by decide) (by decide)))
      · have B33 : sf_B 0 2147483647 a1 := sf_leR (Int32.not_lt.mp c31) sf_k0 (sf_any a1)
        refine pm_R_lo pm_M174 (pc' := 6) rfl rfl rfl ?_
        refine pm_R_lo pm_M174 (pc' := 7) rfl rfl rfl ?_
        refine pm_R_icmp pm_M174 (t := 14) (pc' := 10) rfl rfl rfl (fun c34 => ?_) (fun c34 => ?_)
        · skip
          refine pm_R_op pm_M174 (pc' := 15) (st' := [.int 0]) rfl rfl rfl ?_
          refine pm_R_ret pm_M174 (r := some (.int 0)) rfl rfl ?_
          show pm_R _ 177 13 [.ref 41, .int 0, .int a1] [.int 0] _ _
          refine pm_R_ret pm_M177 (r := some (.int 0)) rfl rfl ?_
          show pm_R _ 247 20 [.ref 41, .int a0, .int a1, .int a2, pm_no, pm_no] [.int 0] _ _
          refine pm_R_br pm_M247 (pc' := 23) (st' := []) rfl rfl ?_
          refine pm_R_op pm_M247 (pc' := 24) (st' := [.int (-1)]) rfl rfl rfl ?_
          exact pm_R_ret pm_M247 (r := some (.int (-1))) rfl rfl (K (-1) m4 w h1 T2 F6 W9 (sf_weak sf_kn1 (by decide) (by decide)))
        · have B35 : sf_B 0 1 a1 := sf_leL (Int32.not_lt.mp c34) B33 B30
          have B36 : sf_B 0 1 z28 := sf_leR (Int32.not_lt.mp c34) B33 B30
          refine pm_R_op pm_M174 (pc' := 11) (st' := [.int 1]) rfl rfl rfl ?_
          refine pm_R_br pm_M174 (pc' := 15) rfl rfl ?_
          refine pm_R_ret pm_M174 (r := some (.int 1)) rfl rfl ?_
          show pm_R _ 177 13 [.ref 41, .int 0, .int a1] [.int 1] _ _
          refine pm_R_ret pm_M177 (r := some (.int 1)) rfl rfl ?_
          show pm_R _ 247 20 [.ref 41, .int a0, .int a1, .int a2, pm_no, pm_no] [.int 1] _ _
          refine pm_R_br pm_M247 (pc' := 25) (st' := []) rfl rfl ?_
          refine pm_R_op pm_M247 (pc' := 26) (st' := [.int 1]) rfl rfl rfl ?_
          refine pm_R_lo pm_M247 (pc' := 28) (ls' := [.ref 41, .int a0, .int a1, .int a2, .int 1, pm_no]) (st' := []) rfl rfl rfl ?_
          have L_2916 : ∀ (N : Nat) (h_2916 : pm_H) (m_2916 : Nat → Int32) (w_2916 : Int64) (x4_2916 : Int32) (g5_2916 : Value), rf_T m_2916 w_2916 h_2916 → rf_G [41, 53, 54, 66] h h_2916 → rf_W [23, 24, 26] m4 m_2916 → sf_B 1 4 x4_2916 → g5_2916.category = 1 → (4 - x4_2916.toInt).toNat = N → pm_R (d + 7) 247 28 [.ref 41, .int a0, .int a1, .int a2, .int x4_2916, g5_2916] [] h_2916 Q := by
            intro N
            induction N using Nat.strongRecOn with
            | ind N ih_2916 =>
              intro h_2916 m_2916 w_2916 x4_2916 g5_2916 T_2916 F_2916 W_2916 Bx4_2916 Cg5_2916 hN_2916
              have W2919 : rf_W [0, 23, 24, 26] m m_2916 := W9.trans W_2916 (by decide)
              refine pm_R_lo pm_M247 (pc' := 30) rfl rfl rfl ?_
              refine pm_R_op pm_M247 (pc' := 31) (st' := [.int 3, .int x4_2916]) rfl rfl rfl ?_
              refine pm_R_icmp pm_M247 (t := 95) (pc' := 34) rfl rfl rfl (fun c2920 => ?_) (fun c2920 => ?_)
              · have B2921 : sf_B 4 4 x4_2916 := sf_ltR c2920 sf_k3 Bx4_2916
                refine pm_R_op pm_M247 (pc' := 96) (st' := [.int (-1)]) rfl rfl rfl ?_
                exact pm_R_ret pm_M247 (r := some (.int (-1))) rfl rfl (K (-1) m_2916 w_2916 h_2916 T_2916 F_2916 W2919 (sf_weak sf_kn1 (by decide) (by decide)))
              · have B2922 : sf_B 1 3 x4_2916 := sf_leL (Int32.not_lt.mp c2920) Bx4_2916 sf_k3
                refine pm_R_op pm_M247 (pc' := 35) (st' := [.int 0]) rfl rfl rfl ?_
                refine pm_R_lo pm_M247 (pc' := 37) (ls' := [.ref 41, .int a0, .int a1, .int a2, .int x4_2916, .int 0]) (st' := []) rfl rfl rfl ?_
                have L_3528 : ∀ (N : Nat) (h_3528 : pm_H) (m_3528 : Nat → Int32) (w_3528 : Int64) (x5_3528 : Int32), rf_T m_3528 w_3528 h_3528 → rf_G [41, 53, 54, 66] h h_3528 → rf_W [23, 24, 26] m_2916 m_3528 → sf_B 0 2147483647 x5_3528 → (2147483647 - x5_3528.toInt).toNat = N → pm_R (d + 7) 247 37 [.ref 41, .int a0, .int a1, .int a2, .int x4_2916, .int x5_3528] [] h_3528 Q := by
                  intro N
                  induction N using Nat.strongRecOn with
                  | ind N ih_3528 =>
                    intro h_3528 m_3528 w_3528 x5_3528 T_3528 F_3528 W_3528 Bx5_3528 hN_3528
                    have W3531 : rf_W [0, 23, 24, 26] m m_3528 := W2919.trans W_3528 (by decide)
                    have W3532 : rf_W [23, 24, 26] m4 m_3528 := W_2916.trans W_3528 (by decide)
                    refine pm_R_lo pm_M247 (pc' := 39) rfl rfl rfl ?_
                    refine pm_R_lo pm_M247 (pc' := 41) rfl rfl rfl ?_
                    refine pm_R_cs pm_M247 (pc' := 44) (ra := [.int x4_2916]) (rest := [.int x5_3528]) (ls' := [.int x4_2916, pm_no, pm_no]) rfl rfl (Or.inl rfl) pm_M242 rfl rfl (Nat.le_of_ble_eq_true rfl) rfl rfl ?_
                    refine rf_c242 (d := d + 6) (sf_weak B2922 (by decide) (by decide)) (fun r3533 => ?_)
                    show pm_R _ 247 44 [.ref 41, .int a0, .int a1, .int a2, .int x4_2916, .int x5_3528] [.int r3533, .int x5_3528] _ _
                    refine pm_R_icmp pm_M247 (t := 89) (pc' := 47) rfl rfl rfl (fun c3541 => ?_) (fun c3541 => ?_)
                    · skip
                      refine sf_R_iinc pm_M247 (pc' := 92) (ls' := fun z => [.ref 41, .int a0, .int a1, .int a2, .int z, .int x5_3528]) rfl B2922 rfl (by decide) (by decide) (by decide) (fun _ => rfl) rfl (fun z3542 e3543 B3544 => ?_)
                      show pm_R _ 247 92 [.ref 41, .int a0, .int a1, .int a2, .int z3542, .int x5_3528] [] _ _
                      refine pm_R_br pm_M247 (pc' := 28) rfl rfl ?_
                      exact ih_2916 _ (sf_up hN_2916 e3543 B2922 (by decide) (by decide)) h_3528 m_3528 w_3528 z3542 (.int x5_3528) T_3528 F_3528 W3532 (sf_weak B3544 (by decide) (by decide)) rfl rfl
                    · have B3545 : sf_B 0 2147483646 x5_3528 := sf_ltL (Int32.not_le.mp c3541) Bx5_3528 (sf_any r3533)
                      have B3546 : sf_B 1 2147483647 r3533 := sf_ltR (Int32.not_le.mp c3541) Bx5_3528 (sf_any r3533)
                      refine pm_R_lo pm_M247 (pc' := 48) rfl rfl rfl ?_
                      refine pm_R_lo pm_M247 (pc' := 49) rfl rfl rfl ?_
                      refine pm_R_lo pm_M247 (pc' := 51) rfl rfl rfl ?_
                      refine pm_R_lo pm_M247 (pc' := 53) rfl rfl rfl ?_
                      refine pm_R_cv pm_M247 (pc' := 56) (a := 41) (ra := [.int x5_3528, .int x4_2916, .int a0]) (rest := []) (ls' := [.ref 41, .int a0, .int x4_2916, .int x5_3528]) rfl rfl (Or.inl rfl) pm_M248 T_3528.2.1 rfl (by decide) (Nat.lt_of_lt_of_le (by decide) T_3528.1) rfl rfl (Nat.le_of_ble_eq_true rfl) rfl rfl ?_
                      refine pm_R_lo pm_M248 (pc' := 1) rfl rfl rfl ?_
                      refine pm_R_lo pm_M248 (pc' := 2) rfl rfl rfl ?_
                      refine rf_R_put pm_M248 T_3528 (pc' := 5) rfl rfl rfl (by decide) rfl rfl B23 rfl rfl (fun h3547 m3550 em3551 T3548 F3549 => ?_)
                      have F3552 := F_3528.trans F3549 (by decide)
                      have B3553 : sf_B 0 1 (m3550 23) := by rw [em3551]; exact B23
                      have ek3554 : (m3550 23).toInt = (a0).toInt := by rw [em3551]; rfl
                      have W3555 : rf_W [0, 23, 24, 26] m m3550 := by rw [em3551]; exact W3531.put (by decide)
                      have W3556 : rf_W [23, 24, 26] m4 m3550 := by rw [em3551]; exact W3532.put (by decide)
                      have W3557 : rf_W [23, 24, 26] m_2916 m3550 := by rw [em3551]; exact W_3528.put (by decide)
                      refine pm_R_lo pm_M248 (pc' := 6) rfl rfl rfl ?_
                      refine pm_R_lo pm_M248 (pc' := 7) rfl rfl rfl ?_
                      refine pm_R_lo pm_M248 (pc' := 8) rfl rfl rfl ?_
                      refine pm_R_cv pm_M248 (pc' := 11) (a := 41) (ra := [.int x5_3528, .int x4_2916]) (rest := []) (ls' := [.ref 41, .int x4_2916, .int x5_3528, pm_no, pm_no]) rfl rfl (Or.inl rfl) pm_M244 T3548.2.1 rfl (by decide) (Nat.lt_of_lt_of_le (by decide) T3548.1) rfl rfl (Nat.le_of_ble_eq_true rfl) rfl rfl ?_
                      refine rf_c244 (d := d + 5) T3548 (sf_weak B2922 (by decide) (by decide)) (sf_weak B3545 (by decide) (by decide)) (fun m3560 w3561 h3562 T3563 F3564 W3565 B3566 => ?_)
                      have F3567 := F3552.trans F3564 (by decide)
                      have W3568 : rf_W [0, 23, 24, 26] m m3560 := W3555.trans W3565 (by decide)
                      have W3569 : rf_W [23, 24, 26] m4 m3560 := W3556.trans W3565 (by decide)
                      have W3570 : rf_W [23, 24, 26] m_2916 m3560 := W3557.trans W3565 (by decide)
                      show pm_R _ 248 11 [.ref 41, .int a0, .int x4_2916, .int x5_3528] [] _ _
                      refine pm_R_lo pm_M248 (pc' := 12) rfl rfl rfl ?_
                      refine pm_R_cv pm_M248 (pc' := 15) (a := 41) (ra := []) (rest := []) (ls' := [.ref 41]) rfl rfl (Or.inl rfl) pm_M215 T3563.2.1 rfl (by decide) (Nat.lt_of_lt_of_le (by decide) T3563.1) rfl rfl (Nat.le_of_ble_eq_true rfl) rfl rfl ?_
                      refine rf_c215 (d := d + 0) T3563 (sf_weak B3566 (by decide) (by decide)) (fun r3571 m3573 w3574 h3575 T3576 F3577 W3578 => ?_)
                      have F3579 := F3567.trans F3577 (by decide)
                      have B3580 : sf_B 1 4 (m3573 24) := by rw [W3578 24 (by decide)]; exact B3566
                      have W3581 : rf_W [0, 23, 24, 26] m m3573 := W3568.trans W3578 (by decide)
                      have W3582 : rf_W [23, 24, 26] m4 m3573 := W3569.trans W3578 (by decide)
                      have W3583 : rf_W [23, 24, 26] m_2916 m3573 := W3570.trans W3578 (by decide)
                      show pm_R _ 248 15 [.ref 41, .int a0, .int x4_2916, .int x5_3528] [.long r3571] _ _
                      refine pm_R_ret pm_M248 (r := some (.long r3571)) rfl rfl ?_
                      show pm_R _ 247 56 [.ref 41, .int a0, .int a1, .int a2, .int x4_2916, .int x5_3528] [.long r3571] _ _
                      refine pm_R_lo pm_M247 (pc' := 57) rfl rfl rfl ?_
                      refine pm_R_lo pm_M247 (pc' := 58) rfl rfl rfl ?_
                      refine pm_R_lo pm_M247 (pc' := 60) rfl rfl rfl ?_
                      refine pm_R_lo pm_M247 (pc' := 62) rfl rfl rfl ?_
                      refine pm_R_cv pm_M247 (pc' := 65) (a := 41) (ra := [.int x5_3528, .int x4_2916, .int a1]) (rest := [.long r3571]) (ls' := [.ref 41, .int a1, .int x4_2916, .int x5_3528]) rfl rfl (Or.inl rfl) pm_M248 T3576.2.1 rfl (by decide) (Nat.lt_of_lt_of_le (by decide) T3576.1) rfl rfl (Nat.le_of_ble_eq_true rfl) rfl rfl ?_
                      refine pm_R_lo pm_M248 (pc' := 1) rfl rfl rfl ?_
                      refine pm_R_lo pm_M248 (pc' := 2) rfl rfl rfl ?_
                      refine rf_R_put pm_M248 T3576 (pc' := 5) rfl rfl rfl (by decide) rfl rfl B35 rfl rfl (fun h3584 m3587 em3588 T3585 F3586 => ?_)
                      have F3589 := F3579.trans F3586 (by decide)
                      have B3590 : sf_B 1 4 (m3587 24) := by rw [em3588]; exact B3580
                      have B3591 : sf_B 0 1 (m3587 23) := by rw [em3588]; exact B35
                      have ek3592 : (m3587 23).toInt = (a1).toInt := by rw [em3588]; rfl
                      have W3593 : rf_W [0, 23, 24, 26] m m3587 := by rw [em3588]; exact W3581.put (by decide)
                      have W3594 : rf_W [23, 24, 26] m4 m3587 := by rw [em3588]; exact W3582.put (by decide)
                      have W3595 : rf_W [23, 24, 26] m_2916 m3587 := by rw [em3588]; exact W3583.put (by decide)
                      refine pm_R_lo pm_M248 (pc' := 6) rfl rfl rfl ?_
                      refine pm_R_lo pm_M248 (pc' := 7) rfl rfl rfl ?_
                      refine pm_R_lo pm_M248 (pc' := 8) rfl rfl rfl ?_
                      refine pm_R_cv pm_M248 (pc' := 11) (a := 41) (ra := [.int x5_3528, .int x4_2916]) (rest := []) (ls' := [.ref 41, .int x4_2916, .int x5_3528, pm_no, pm_no]) rfl rfl (Or.inl rfl) pm_M244 T3585.2.1 rfl (by decide) (Nat.lt_of_lt_of_le (by decide) T3585.1) rfl rfl (Nat.le_of_ble_eq_true rfl) rfl rfl ?_
                      refine rf_c244 (d := d + 5) T3585 (sf_weak B2922 (by decide) (by decide)) (sf_weak B3545 (by decide) (by decide)) (fun m3598 w3599 h3600 T3601 F3602 W3603 B3604 => ?_)
                      have F3605 := F3589.trans F3602 (by decide)
                      have W3606 : rf_W [0, 23, 24, 26] m m3598 := W3593.trans W3603 (by decide)
                      have W3607 : rf_W [23, 24, 26] m4 m3598 := W3594.trans W3603 (by decide)
                      have W3608 : rf_W [23, 24, 26] m_2916 m3598 := W3595.trans W3603 (by decide)
                      show pm_R _ 248 11 [.ref 41, .int a1, .int x4_2916, .int x5_3528] [] _ _
                      refine pm_R_lo pm_M248 (pc' := 12) rfl rfl rfl ?_
                      refine pm_R_cv pm_M248 (pc' := 15) (a := 41) (ra := []) (rest := []) (ls' := [.ref 41]) rfl rfl (Or.inl rfl) pm_M215 T3601.2.1 rfl (by decide) (Nat.lt_of_lt_of_le (by decide) T3601.1) rfl rfl (Nat.le_of_ble_eq_true rfl) rfl rfl ?_
                      refine rf_c215 (d := d + 0) T3601 (sf_weak B3604 (by decide) (by decide)) (fun r3609 m3611 w3612 h3613 T3614 F3615 W3616 => ?_)
                      have F3617 := F3605.trans F3615 (by decide)
                      have B3618 : sf_B 1 4 (m3611 24) := by rw [W3616 24 (by decide)]; exact B3604
                      have W3619 : rf_W [0, 23, 24, 26] m m3611 := W3606.trans W3616 (by decide)
                      have W3620 : rf_W [23, 24, 26] m4 m3611 := W3607.trans W3616 (by decide)
                      have W3621 : rf_W [23, 24, 26] m_2916 m3611 := W3608.trans W3616 (by decide)
                      show pm_R _ 248 15 [.ref 41, .int a1, .int x4_2916, .int x5_3528] [.long r3609] _ _
                      refine pm_R_ret pm_M248 (r := some (.long r3609)) rfl rfl ?_
                      show pm_R _ 247 65 [.ref 41, .int a0, .int a1, .int a2, .int x4_2916, .int x5_3528] [.long r3609, .long r3571] _ _
                      refine sf_R_lcmp pm_M247 (pc' := 66) rfl rfl (fun z3622 e3623 => ?_)
                      refine pm_R_ifc pm_M247 (t := 83) (pc' := 69) rfl rfl rfl (fun c3624 => ?_) (fun c3624 => ?_)
                      · have B3625 : sf_B 0 0 z3622 := sf_eqL c3624 sf_k0
                        refine sf_R_iinc pm_M247 (pc' := 86) (ls' := fun z => [.ref 41, .int a0, .int a1, .int a2, .int x4_2916, .int z]) rfl B3545 rfl (by decide) (by decide) (by decide) (fun _ => rfl) rfl (fun z3626 e3627 B3628 => ?_)
                        show pm_R _ 247 86 [.ref 41, .int a0, .int a1, .int a2, .int x4_2916, .int z3626] [] _ _
                        refine pm_R_br pm_M247 (pc' := 37) rfl rfl ?_
                        exact ih_3528 _ (sf_up hN_3528 e3627 B3545 (by decide) (by decide)) h3613 m3611 w3612 z3626 T3614 F3617 W3621 (sf_weak B3628 (by decide) (by decide)) rfl
                      · have k3629 := sf_lneC e3623 c3624
                        refine pm_R_lo pm_M247 (pc' := 70) rfl rfl rfl ?_
                        refine pm_R_lo pm_M247 (pc' := 72) rfl rfl rfl ?_
                        refine pm_R_lo pm_M247 (pc' := 74) rfl rfl rfl ?_
                        refine pm_R_cv pm_M247 (pc' := 77) (a := 41) (ra := [.int x5_3528, .int x4_2916]) (rest := []) (ls' := [.ref 41, .int x4_2916, .int x5_3528, pm_no, pm_no]) rfl rfl (Or.inl rfl) pm_M245 T3614.2.1 rfl (by decide) (Nat.lt_of_lt_of_le (by decide) T3614.1) rfl rfl (Nat.le_of_ble_eq_true rfl) rfl rfl ?_
                        refine rf_c245 (d := d + 6) T3614 (sf_weak B2922 (by decide) (by decide)) (sf_weak B3545 (by decide) (by decide)) (fun m3632 w3633 h3634 T3635 F3636 W3637 => ?_)
                        have F3638 := F3617.trans F3636 (by decide)
                        have B3639 : sf_B 1 4 (m3632 24) := by rw [W3637 24 (by decide)]; exact B3618
                        have W3640 : rf_W [0, 23, 24, 26] m m3632 := W3619.trans W3637 (by decide)
                        have W3641 : rf_W [23, 24, 26] m4 m3632 := W3620.trans W3637 (by decide)
                        have W3642 : rf_W [23, 24, 26] m_2916 m3632 := W3621.trans W3637 (by decide)
                        show pm_R _ 247 77 [.ref 41, .int a0, .int a1, .int a2, .int x4_2916, .int x5_3528] [] _ _
                        refine pm_R_lo pm_M247 (pc' := 78) rfl rfl rfl ?_
                        refine pm_R_lo pm_M247 (pc' := 79) rfl rfl rfl ?_
                        refine pm_R_cv pm_M247 (pc' := 82) (a := 41) (ra := [.int a2]) (rest := []) (ls' := [.ref 41, .int a2]) rfl rfl (Or.inl rfl) pm_M246 T3635.2.1 rfl (by decide) (Nat.lt_of_lt_of_le (by decide) T3635.1) rfl rfl (Nat.le_of_ble_eq_true rfl) rfl rfl ?_
                        refine pm_R_lo pm_M246 (pc' := 1) rfl rfl rfl ?_
                        refine pm_R_op pm_M246 (pc' := 2) (st' := [.int 0, .int a2]) rfl rfl rfl ?_
                        refine pm_R_lo pm_M246 (pc' := 3) rfl rfl rfl ?_
                        refine rf_R_get pm_M246 T3635 (pc' := 6) (v := .ref 66) rfl rfl rfl rfl ?_
                        refine pm_R_op pm_M246 (pc' := 7) (st' := [.int 0, .ref 66, .int 0, .int a2]) rfl rfl rfl ?_
                        obtain ⟨f3643, e3644, b3645⟩ := T3635.2.2.2.1 66 (by decide) (by decide)
                        refine rf_R_ild pm_M246 T3635 (pc' := 8) rfl e3644 (by decide) rfl rfl (fun z3646 ez3647 => ?_)
                        have B3648 : sf_B 0 4 z3646 := ez3647 ▸ (b3645 0)
                        refine pm_R_cs pm_M246 (pc' := 11) (ra := [.int z3646, .int 0, .int a2]) (rest := []) (ls' := [.int a2, .int 0, .int z3646]) rfl rfl (Or.inl rfl) pm_M174 rfl rfl (Nat.le_of_ble_eq_true rfl) rfl rfl ?_
                        refine pm_R_lo pm_M174 (pc' := 1) rfl rfl rfl ?_
                        refine pm_R_lo pm_M174 (pc' := 2) rfl rfl rfl ?_
                        refine pm_R_icmp pm_M174 (t := 14) (pc' := 5) rfl rfl rfl (fun c3649 => ?_) (fun c3649 => ?_)
                        · have B3650 : sf_B (-2147483648) (-1) a2 := sf_ltL c3649 (sf_any a2) sf_k0
                          refine pm_R_op pm_M174 (pc' := 15) (st' := [.int 0]) rfl rfl rfl ?_
                          refine pm_R_ret pm_M174 (r := some (.int 0)) rfl rfl ?_
                          show pm_R _ 246 11 [.ref 41, .int a2] [.int 0] _ _
                          refine pm_R_br pm_M246 (pc' := 23) (st' := []) rfl rfl ?_
                          refine pm_R_op pm_M246 (pc' := 24) (st' := [.int (-1)]) rfl rfl rfl ?_
                          refine pm_R_ret pm_M246 (r := some (.int (-1))) rfl rfl ?_
                          show pm_R _ 247 82 [.ref 41, .int a0, .int a1, .int a2, .int x4_2916, .int x5_3528] [.int (-1)] _ _
                          exact pm_R_ret pm_M247 (r := some (.int (-1))) rfl rfl (K (-1) m3632 w3633 h3634 T3635 F3638 W3640 (sf_weak sf_kn1 (by decide) (by decide)))
                        · have B3651 : sf_B 0 2147483647 a2 := sf_leR (Int32.not_lt.mp c3649) sf_k0 (sf_any a2)
                          refine pm_R_lo pm_M174 (pc' := 6) rfl rfl rfl ?_
                          refine pm_R_lo pm_M174 (pc' := 7) rfl rfl rfl ?_
                          refine pm_R_icmp pm_M174 (t := 14) (pc' := 10) rfl rfl rfl (fun c3652 => ?_) (fun c3652 => ?_)
                          · have B3653 : sf_B 1 2147483647 a2 := sf_ltR c3652 B3648 B3651
                            refine pm_R_op pm_M174 (pc' := 15) (st' := [.int 0]) rfl rfl rfl ?_
                            refine pm_R_ret pm_M174 (r := some (.int 0)) rfl rfl ?_
                            show pm_R _ 246 11 [.ref 41, .int a2] [.int 0] _ _
                            refine pm_R_br pm_M246 (pc' := 23) (st' := []) rfl rfl ?_
                            refine pm_R_op pm_M246 (pc' := 24) (st' := [.int (-1)]) rfl rfl rfl ?_
                            refine pm_R_ret pm_M246 (r := some (.int (-1))) rfl rfl ?_
                            show pm_R _ 247 82 [.ref 41, .int a0, .int a1, .int a2, .int x4_2916, .int x5_3528] [.int (-1)] _ _
                            exact pm_R_ret pm_M247 (r := some (.int (-1))) rfl rfl (K (-1) m3632 w3633 h3634 T3635 F3638 W3640 (sf_weak sf_kn1 (by decide) (by decide)))
                          · have B3654 : sf_B 0 4 a2 := sf_leL (Int32.not_lt.mp c3652) B3651 B3648
                            refine pm_R_op pm_M174 (pc' := 11) (st' := [.int 1]) rfl rfl rfl ?_
                            refine pm_R_br pm_M174 (pc' := 15) rfl rfl ?_
                            refine pm_R_ret pm_M174 (r := some (.int 1)) rfl rfl ?_
                            show pm_R _ 246 11 [.ref 41, .int a2] [.int 1] _ _
                            refine pm_R_br pm_M246 (pc' := 14) (st' := []) rfl rfl ?_
                            refine pm_R_lo pm_M246 (pc' := 15) rfl rfl rfl ?_
                            refine rf_R_get pm_M246 T3635 (pc' := 18) (v := .ref 66) rfl rfl rfl rfl ?_
                            refine pm_R_lo pm_M246 (pc' := 19) rfl rfl rfl ?_
                            refine rf_R_ild pm_M246 T3635 (pc' := 20) rfl e3644 (by decide) (sf_in B3654 (by decide) (by decide)) rfl (fun z3655 ez3656 => ?_)
                            have B3657 : sf_B 0 9 z3655 := ez3656 ▸ (rf_p66 b3645 _)
                            refine pm_R_br pm_M246 (pc' := 24) rfl rfl ?_
                            refine pm_R_ret pm_M246 (r := some (.int z3655)) rfl (pm_ret_i _) ?_
                            show pm_R _ 247 82 [.ref 41, .int a0, .int a1, .int a2, .int x4_2916, .int x5_3528] [.int z3655] _ _
                            exact pm_R_ret pm_M247 (r := some (.int z3655)) rfl (pm_ret_i _) (K z3655 m3632 w3633 h3634 T3635 F3638 W3640 (sf_weak B3657 (by decide) (by decide)))
                exact L_3528 _ h_2916 m_2916 w_2916 0 T_2916 F_2916 (rf_W.refl _ _) (sf_weak sf_k0 (by decide) (by decide)) rfl
          exact L_2916 _ h1 m4 w 1 (pm_no) T2 F6 (rf_W.refl _ _) (sf_weak sf_k1 (by decide) (by decide)) rfl rfl

set_option maxRecDepth 100000 in
set_option maxHeartbeats 4000000 in
/-- SilentTableModel.hole -/
theorem rf_c249 {d : Nat} {m : Nat → Int32} {w : Int64} {h : pm_H} {Q : Option Value → pm_H → Prop} {a0 : Int32} {a1 : Int32} {a2 : Int32} (T : rf_T m w h)  (K : ∀ (r : Int32) (m' : Nat → Int32) (w' : Int64) (h' : pm_H), rf_T m' w' h' → rf_G [41, 53, 54] h h' → rf_W [0, 23, 24, 26] m m' → Q (some (.int r)) h') : pm_R (d + 6) 249 0 [.ref 41, .int a0, .int a1, .int a2, pm_no, pm_no] [] h Q := by
  refine pm_R_lo pm_M249 (pc' := 1) rfl rfl rfl ?_
  refine pm_R_op pm_M249 (pc' := 2) (st' := [.int 0, .ref 41]) rfl rfl rfl ?_
  refine rf_R_put pm_M249 T (pc' := 5) rfl rfl rfl (by decide) rfl rfl sf_k0 rfl rfl (fun h1 m4 em5 T2 F3 => ?_)
  have F6 := (rf_G.refl [41, 53, 54] h).trans F3 (by decide)
  have B7 : sf_B 0 0 (m4 0) := by rw [em5]; exact sf_k0
  have W9 : rf_W [0, 23, 24, 26] m m4 := by rw [em5]; exact (rf_W.refl [0, 23, 24, 26] m).put (by decide)
  refine pm_R_lo pm_M249 (pc' := 6) rfl rfl rfl ?_
  refine pm_R_lo pm_M249 (pc' := 7) rfl rfl rfl ?_
  refine pm_R_lo pm_M249 (pc' := 8) rfl rfl rfl ?_
  refine pm_R_lo pm_M249 (pc' := 9) rfl rfl rfl ?_
  refine pm_R_cv pm_M249 (pc' := 12) (a := 41) (ra := [.int a2, .int a1, .int a0]) (rest := []) (ls' := [.ref 41, .int a0, .int a1, .int a2]) rfl rfl (Or.inl rfl) pm_M250 T2.2.1 rfl (by decide) (Nat.lt_of_lt_of_le (by decide) T2.1) rfl rfl (Nat.le_of_ble_eq_true rfl) rfl rfl ?_
  refine pm_R_lo pm_M250 (pc' := 1) rfl rfl rfl ?_
  refine pm_R_lo pm_M250 (pc' := 2) rfl rfl rfl ?_
  refine pm_R_lo pm_M250 (pc' := 3) rfl rfl rfl ?_
  refine pm_R_cv pm_M250 (pc' := 6) (a := 41) (ra := [.int a1, .int a0]) (rest := []) (ls' := [.ref 41, .int a0, .int a1]) rfl rfl (Or.inl rfl) pm_M200 T2.2.1 rfl (by decide) (Nat.lt_of_lt_of_le (by decide) T2.1) rfl rfl (Nat.le_of_ble_eq_true rfl) rfl rfl ?_
  refine pm_R_lo pm_M200 (pc' := 1) rfl rfl rfl ?_
  refine pm_R_op pm_M200 (pc' := 2) (st' := [.int 0, .ref 41]) rfl rfl rfl ?_
  refine pm_R_lo pm_M200 (pc' := 3) rfl rfl rfl ?_
  refine pm_R_cv pm_M200 (pc' := 6) (a := 41) (ra := [.int a0, .int 0]) (rest := []) (ls' := [.ref 41, .int 0, .int a0]) rfl rfl (Or.inl rfl) pm_M177 T2.2.1 rfl (by decide) (Nat.lt_of_lt_of_le (by decide) T2.1) rfl rfl (Nat.le_of_ble_eq_true rfl) rfl rfl ?_
  refine pm_R_lo pm_M177 (pc' := 1) rfl rfl rfl ?_
  refine pm_R_op pm_M177 (pc' := 2) (st' := [.int 0, .int a0]) rfl rfl rfl ?_
  refine pm_R_lo pm_M177 (pc' := 3) rfl rfl rfl ?_
  refine rf_R_get pm_M177 T2 (pc' := 6) (v := .ref 46) rfl rfl rfl rfl ?_
  refine pm_R_lo pm_M177 (pc' := 7) rfl rfl rfl ?_
  obtain ⟨f10, e11, b12⟩ := T2.2.2.2.1 46 (by decide) (by decide)
  refine rf_R_ild pm_M177 T2 (pc' := 8) rfl e11 (by decide) rfl rfl (fun z13 ez14 => ?_)
  have B15 : sf_B 0 2 z13 := ez14 ▸ (b12 0)
  refine pm_R_op pm_M177 (pc' := 9) (st' := [.int 1, .int z13, .int 0, .int a0]) rfl rfl rfl ?_
  refine sf_R_isub pm_M177 (pc' := 10) rfl rfl B15 sf_k1 (by decide) (by decide) (fun z16 e17 B18 => ?_)
  refine pm_R_cs pm_M177 (pc' := 13) (ra := [.int z16, .int 0, .int a0]) (rest := []) (ls' := [.int a0, .int 0, .int z16]) rfl rfl (Or.inl rfl) pm_M174 rfl rfl (Nat.le_of_ble_eq_true rfl) rfl rfl ?_
  refine pm_R_lo pm_M174 (pc' := 1) rfl rfl rfl ?_
  refine pm_R_lo pm_M174 (pc' := 2) rfl rfl rfl ?_
  refine pm_R_icmp pm_M174 (t := 14) (pc' := 5) rfl rfl rfl (fun c19 => ?_) (fun c19 => ?_)
  · have B20 : sf_B (-2147483648) (-1) a0 := sf_ltL c19 (sf_any a0) sf_k0
    refine pm_R_op pm_M174 (pc' := 15) (st' := [.int 0]) rfl rfl rfl ?_
    refine pm_R_ret pm_M174 (r := some (.int 0)) rfl rfl ?_
    show pm_R _ 177 13 [.ref 41, .int 0, .int a0] [.int 0] _ _
    refine pm_R_ret pm_M177 (r := some (.int 0)) rfl rfl ?_
    show pm_R _ 200 6 [.ref 41, .int a0, .int a1] [.int 0] _ _
    refine pm_R_br pm_M200 (pc' := 18) (st' := []) rfl rfl ?_
    refine pm_R_op pm_M200 (pc' := 19) (st' := [.int 0]) rfl rfl rfl ?_
    refine pm_R_ret pm_M200 (r := some (.int 0)) rfl rfl ?_
    show pm_R _ 250 6 [.ref 41, .int a0, .int a1, .int a2] [.int 0] _ _
    refine pm_R_br pm_M250 (pc' := 27) (st' := []) rfl rfl ?_
    refine pm_R_op pm_M250 (pc' := 28) (st' := [.int 0]) rfl rfl rfl ?_
    refine pm_R_ret pm_M250 (r := some (.int 0)) rfl rfl ?_
    show pm_R _ 249 12 [.ref 41, .int a0, .int a1, .int a2, pm_no, pm_no] [.int 0] _ _
    refine pm_R_br pm_M249 (pc' := 15) (st' := []) rfl rfl ?_
    refine pm_R_op pm_M249 (pc' := 16) (st' := [.int (-1)]) rfl rfl rfl ?_
    exact pm_R_ret pm_M249 (r := some (.int (-1))) rfl rfl (K (-1) m4 w h1 T2 F6 W9)
  · have B21 : sf_B 0 2147483647 a0 := sf_leR (Int32.not_lt.mp c19) sf_k0 (sf_any a0)
    refine pm_R_lo pm_M174 (pc' := 6) rfl rfl rfl ?_
    refine pm_R_lo pm_M174 (pc' := 7) rfl rfl rfl ?_
    refine pm_R_icmp pm_M174 (t := 14) (pc' := 10) rfl rfl rfl (fun c22 => ?_) (fun c22 => ?_)
    · skip
      refine pm_R_op pm_M174 (pc' := 15) (st' := [.int 0]) rfl rfl rfl ?_
      refine pm_R_ret pm_M174 (r := some (.int 0)) rfl rfl ?_
      show pm_R _ 177 13 [.ref 41, .int 0, .int a0] [.int 0] _ _
      refine pm_R_ret pm_M177 (r := some (.int 0)) rfl rfl ?_
      show pm_R _ 200 6 [.ref 41, .int a0, .int a1] [.int 0] _ _
      refine pm_R_br pm_M200 (pc' := 18) (st' := []) rfl rfl ?_
      refine pm_R_op pm_M200 (pc' := 19) (st' := [.int 0]) rfl rfl rfl ?_
      refine pm_R_ret pm_M200 (r := some (.int 0)) rfl rfl ?_
      show pm_R _ 250 6 [.ref 41, .int a0, .int a1, .int a2] [.int 0] _ _
      refine pm_R_br pm_M250 (pc' := 27) (st' := []) rfl rfl ?_
      refine pm_R_op pm_M250 (pc' := 28) (st' := [.int 0]) rfl rfl rfl ?_
      refine pm_R_ret pm_M250 (r := some (.int 0)) rfl rfl ?_
      show pm_R _ 249 12 [.ref 41, .int a0, .int a1, .int a2, pm_no, pm_no] [.int 0] _ _
      refine pm_R_br pm_M249 (pc' := 15) (st' := []) rfl rfl ?_
      refine pm_R_op pm_M249 (pc' := 16) (st' := [.int (-1)]) rfl rfl rfl ?_
      exact pm_R_ret pm_M249 (r := some (.int (-1))) rfl rfl (K (-1) m4 w h1 T2 F6 W9)
    · have B23 : sf_B 0 1 a0 := sf_leL (Int32.not_lt.mp c22) B21 B18
      have B24 : sf_B 0 1 z16 := sf_leR (Int32.not_lt.mp c22) B21 B18
      refine pm_R_op pm_M174 (pc' := 11) (st' := [.int 1]) rfl rfl rfl ?_
      refine pm_R_br pm_M174 (pc' := 15) rfl rfl ?_
      refine pm_R_ret pm_M174 (r := some (.int 1)) rfl rfl ?_
      show pm_R _ 177 13 [.ref 41, .int 0, .int a0] [.int 1] _ _
      refine pm_R_ret pm_M177 (r := some (.int 1)) rfl rfl ?_
      show pm_R _ 200 6 [.ref 41, .int a0, .int a1] [.int 1] _ _
      refine pm_R_br pm_M200 (pc' := 9) (st' := []) rfl rfl ?_
      refine pm_R_lo pm_M200 (pc' := 10) rfl rfl rfl ?_
      refine pm_R_op pm_M200 (pc' := 11) (st' := [.int 1, .ref 41]) rfl rfl rfl ?_
      refine pm_R_lo pm_M200 (pc' := 12) rfl rfl rfl ?_
      refine pm_R_cv pm_M200 (pc' := 15) (a := 41) (ra := [.int a1, .int 1]) (rest := []) (ls' := [.ref 41, .int 1, .int a1]) rfl rfl (Or.inl rfl) pm_M177 T2.2.1 rfl (by decide) (Nat.lt_of_lt_of_le (by decide) T2.1) rfl rfl (Nat.le_of_ble_eq_true rfl) rfl rfl ?_
      refine pm_R_lo pm_M177 (pc' := 1) rfl rfl rfl ?_
      refine pm_R_op pm_M177 (pc' := 2) (st' := [.int 0, .int a1]) rfl rfl rfl ?_
      refine pm_R_lo pm_M177 (pc' := 3) rfl rfl rfl ?_
      refine rf_R_get pm_M177 T2 (pc' := 6) (v := .ref 46) rfl rfl rfl rfl ?_
      refine pm_R_lo pm_M177 (pc' := 7) rfl rfl rfl ?_
      refine rf_R_ild pm_M177 T2 (pc' := 8) rfl e11 (by decide) rfl rfl (fun z25 ez26 => ?_)
      have B27 : sf_B 0 3 z25 := ez26 ▸ (b12 1)
      refine pm_R_op pm_M177 (pc' := 9) (st' := [.int 1, .int z25, .int 0, .int a1]) rfl rfl rfl ?_
      refine sf_R_isub pm_M177 (pc' := 10) rfl rfl B27 sf_k1 (by decide) (by decide) (fun z28 e29 B30 => ?_)
      refine pm_R_cs pm_M177 (pc' := 13) (ra := [.int z28, .int 0, .int a1]) (rest := []) (ls' := [.int a1, .int 0, .int z28]) rfl rfl (Or.inl rfl) pm_M174 rfl rfl (Nat.le_of_ble_eq_true rfl) rfl rfl ?_
      refine pm_R_lo pm_M174 (pc' := 1) rfl rfl rfl ?_
      refine pm_R_lo pm_M174 (pc' := 2) rfl rfl rfl ?_
      refine pm_R_icmp pm_M174 (t := 14) (pc' := 5) rfl rfl rfl (fun c31 => ?_) (fun c31 => ?_)
      · have B32 : sf_B (-2147483648) (-1) a1 := sf_ltL c31 (sf_any a1) sf_k0
        refine pm_R_op pm_M174 (pc' := 15) (st' := [.int 0]) rfl rfl rfl ?_
        refine pm_R_ret pm_M174 (r := some (.int 0)) rfl rfl ?_
        show pm_R _ 177 13 [.ref 41, .int 1, .int a1] [.int 0] _ _
        refine pm_R_ret pm_M177 (r := some (.int 0)) rfl rfl ?_
        show pm_R _ 200 15 [.ref 41, .int a0, .int a1] [.int 0] _ _
        refine pm_R_br pm_M200 (pc' := 18) (st' := []) rfl rfl ?_
        refine pm_R_op pm_M200 (pc' := 19) (st' := [.int 0]) rfl rfl rfl ?_
        refine pm_R_ret pm_M200 (r := some (.int 0)) rfl rfl ?_
        show pm_R _ 250 6 [.ref 41, .int a0, .int a1, .int a2] [.int 0] _ _
        refine pm_R_br pm_M250 (pc' := 27) (st' := []) rfl rfl ?_
        refine pm_R_op pm_M250 (pc' := 28) (st' := [.int 0]) rfl rfl rfl ?_
        refine pm_R_ret pm_M250 (r := some (.int 0)) rfl rfl ?_
        show pm_R _ 249 12 [.ref 41, .int a0, .int a1, .int a2, pm_no, pm_no] [.int 0] _ _
        refine pm_R_br pm_M249 (pc' := 15) (st' := []) rfl rfl ?_
        refine pm_R_op pm_M249 (pc' := 16) (st' := [.int (-1)]) rfl rfl rfl ?_
        exact pm_R_ret pm_M249 (r := some (.int (-1))) rfl rfl (K (-1) m4 w h1 T2 F6 W9)
      · have B33 : sf_B 0 2147483647 a1 := sf_leR (Int32.not_lt.mp c31) sf_k0 (sf_any a1)
        refine pm_R_lo pm_M174 (pc' := 6) rfl rfl rfl ?_
        refine pm_R_lo pm_M174 (pc' := 7) rfl rfl rfl ?_
        refine pm_R_icmp pm_M174 (t := 14) (pc' := 10) rfl rfl rfl (fun c34 => ?_) (fun c34 => ?_)
        · skip
          refine pm_R_op pm_M174 (pc' := 15) (st' := [.int 0]) rfl rfl rfl ?_
          refine pm_R_ret pm_M174 (r := some (.int 0)) rfl rfl ?_
          show pm_R _ 177 13 [.ref 41, .int 1, .int a1] [.int 0] _ _
          refine pm_R_ret pm_M177 (r := some (.int 0)) rfl rfl ?_
          show pm_R _ 200 15 [.ref 41, .int a0, .int a1] [.int 0] _ _
          refine pm_R_br pm_M200 (pc' := 18) (st' := []) rfl rfl ?_
          refine pm_R_op pm_M200 (pc' := 19) (st' := [.int 0]) rfl rfl rfl ?_
          refine pm_R_ret pm_M200 (r := some (.int 0)) rfl rfl ?_
          show pm_R _ 250 6 [.ref 41, .int a0, .int a1, .int a2] [.int 0] _ _
          refine pm_R_br pm_M250 (pc' := 27) (st' := []) rfl rfl ?_
          refine pm_R_op pm_M250 (pc' := 28) (st' := [.int 0]) rfl rfl rfl ?_
          refine pm_R_ret pm_M250 (r := some (.int 0)) rfl rfl ?_
          show pm_R _ 249 12 [.ref 41, .int a0, .int a1, .int a2, pm_no, pm_no] [.int 0] _ _
          refine pm_R_br pm_M249 (pc' := 15) (st' := []) rfl rfl ?_
          refine pm_R_op pm_M249 (pc' := 16) (st' := [.int (-1)]) rfl rfl rfl ?_
          exact pm_R_ret pm_M249 (r := some (.int (-1))) rfl rfl (K (-1) m4 w h1 T2 F6 W9)
        · have V35 := rf_V.mk e11 ez26 e29 (Int32.not_lt.mp c34) B33 (by decide)
          have V35 := V35.back F6 (by decide)
          have B36 : sf_B 0 2 a1 := sf_leL (Int32.not_lt.mp c34) B33 B30
          have B37 : sf_B 0 2 z28 := sf_leR (Int32.not_lt.mp c34) B33 B30
          refine pm_R_op pm_M174 (pc' := 11) (st' := [.int 1]) rfl rfl rfl ?_
          refine pm_R_br pm_M174 (pc' := 15) rfl rfl ?_
          refine pm_R_ret pm_M174 (r := some (.int 1)) rfl rfl ?_
          show pm_R _ 177 13 [.ref 41, .int 1, .int a1] [.int 1] _ _
          refine pm_R_ret pm_M177 (r := some (.int 1)) rfl rfl ?_
          show pm_R _ 200 15 [.ref 41, .int a0, .int a1] [.int 1] _ _
          refine pm_R_br pm_M200 (pc' := 20) (st' := []) rfl rfl ?_
          refine pm_R_lo pm_M200 (pc' := 21) rfl rfl rfl ?_
          refine pm_R_lo pm_M200 (pc' := 22) rfl rfl rfl ?_
          refine pm_R_lo pm_M200 (pc' := 23) rfl rfl rfl ?_
          refine pm_R_cv pm_M200 (pc' := 26) (a := 41) (ra := [.int a1, .int a0]) (rest := []) (ls' := [.ref 41, .int a0, .int a1, pm_no]) rfl rfl (Or.inl rfl) pm_M201 T2.2.1 rfl (by decide) (Nat.lt_of_lt_of_le (by decide) T2.1) rfl rfl (Nat.le_of_ble_eq_true rfl) rfl rfl ?_
          refine rf_c201 (d := d + 3) T2 B23 B36 (V35.F F6 (by decide)) (fun m40 w41 h42 T43 F44 W45 B46 => ?_)
          have F47 := F6.trans F44 (by decide)
          have W48 : rf_W [0, 23, 24, 26] m m40 := W9.trans W45 (by decide)
          show pm_R _ 200 26 [.ref 41, .int a0, .int a1] [] _ _
          refine pm_R_op pm_M200 (pc' := 27) (st' := [.int 1]) rfl rfl rfl ?_
          refine pm_R_ret pm_M200 (r := some (.int 1)) rfl rfl ?_
          show pm_R _ 250 6 [.ref 41, .int a0, .int a1, .int a2] [.int 1] _ _
          refine pm_R_br pm_M250 (pc' := 9) (st' := []) rfl rfl ?_
          refine pm_R_lo pm_M250 (pc' := 10) rfl rfl rfl ?_
          refine pm_R_op pm_M250 (pc' := 11) (st' := [.int 0, .int a2]) rfl rfl rfl ?_
          refine pm_R_lo pm_M250 (pc' := 12) rfl rfl rfl ?_
          refine rf_R_get pm_M250 T43 (pc' := 15) (v := .int (m40 24)) rfl rfl rfl rfl ?_
          refine pm_R_op pm_M250 (pc' := 16) (st' := [.int 1, .int (m40 24), .int 0, .int a2]) rfl rfl rfl ?_
          refine sf_R_isub pm_M250 (pc' := 17) rfl rfl B46 sf_k1 (by decide) (by decide) (fun z49 e50 B51 => ?_)
          refine pm_R_cs pm_M250 (pc' := 20) (ra := [.int z49, .int 0, .int a2]) (rest := []) (ls' := [.int a2, .int 0, .int z49]) rfl rfl (Or.inl rfl) pm_M174 rfl rfl (Nat.le_of_ble_eq_true rfl) rfl rfl ?_
          refine pm_R_lo pm_M174 (pc' := 1) rfl rfl rfl ?_
          refine pm_R_lo pm_M174 (pc' := 2) rfl rfl rfl ?_
          refine pm_R_icmp pm_M174 (t := 14) (pc' := 5) rfl rfl rfl (fun c52 => ?_) (fun c52 => ?_)
          · have B53 : sf_B (-2147483648) (-1) a2 := sf_ltL c52 (sf_any a2) sf_k0
            refine pm_R_op pm_M174 (pc' := 15) (st' := [.int 0]) rfl rfl rfl ?_
            refine pm_R_ret pm_M174 (r := some (.int 0)) rfl rfl ?_
            show pm_R _ 250 20 [.ref 41, .int a0, .int a1, .int a2] [.int 0] _ _
            refine pm_R_br pm_M250 (pc' := 27) (st' := []) rfl rfl ?_
            refine pm_R_op pm_M250 (pc' := 28) (st' := [.int 0]) rfl rfl rfl ?_
            refine pm_R_ret pm_M250 (r := some (.int 0)) rfl rfl ?_
            show pm_R _ 249 12 [.ref 41, .int a0, .int a1, .int a2, pm_no, pm_no] [.int 0] _ _
            refine pm_R_br pm_M249 (pc' := 15) (st' := []) rfl rfl ?_
            refine pm_R_op pm_M249 (pc' := 16) (st' := [.int (-1)]) rfl rfl rfl ?_
            exact pm_R_ret pm_M249 (r := some (.int (-1))) rfl rfl (K (-1) m40 w41 h42 T43 F47 W48)
          · have B54 : sf_B 0 2147483647 a2 := sf_leR (Int32.not_lt.mp c52) sf_k0 (sf_any a2)
            refine pm_R_lo pm_M174 (pc' := 6) rfl rfl rfl ?_
            refine pm_R_lo pm_M174 (pc' := 7) rfl rfl rfl ?_
            refine pm_R_icmp pm_M174 (t := 14) (pc' := 10) rfl rfl rfl (fun c55 => ?_) (fun c55 => ?_)
            · have B56 : sf_B 1 2147483647 a2 := sf_ltR c55 B51 B54
              refine pm_R_op pm_M174 (pc' := 15) (st' := [.int 0]) rfl rfl rfl ?_
              refine pm_R_ret pm_M174 (r := some (.int 0)) rfl rfl ?_
              show pm_R _ 250 20 [.ref 41, .int a0, .int a1, .int a2] [.int 0] _ _
              refine pm_R_br pm_M250 (pc' := 27) (st' := []) rfl rfl ?_
              refine pm_R_op pm_M250 (pc' := 28) (st' := [.int 0]) rfl rfl rfl ?_
              refine pm_R_ret pm_M250 (r := some (.int 0)) rfl rfl ?_
              show pm_R _ 249 12 [.ref 41, .int a0, .int a1, .int a2, pm_no, pm_no] [.int 0] _ _
              refine pm_R_br pm_M249 (pc' := 15) (st' := []) rfl rfl ?_
              refine pm_R_op pm_M249 (pc' := 16) (st' := [.int (-1)]) rfl rfl rfl ?_
              exact pm_R_ret pm_M249 (r := some (.int (-1))) rfl rfl (K (-1) m40 w41 h42 T43 F47 W48)
            · have B57 : sf_B 0 11 a2 := sf_leL (Int32.not_lt.mp c55) B54 B51
              refine pm_R_op pm_M174 (pc' := 11) (st' := [.int 1]) rfl rfl rfl ?_
              refine pm_R_br pm_M174 (pc' := 15) rfl rfl ?_
              refine pm_R_ret pm_M174 (r := some (.int 1)) rfl rfl ?_
              show pm_R _ 250 20 [.ref 41, .int a0, .int a1, .int a2] [.int 1] _ _
              refine pm_R_br pm_M250 (pc' := 23) (st' := []) rfl rfl ?_
              refine pm_R_op pm_M250 (pc' := 24) (st' := [.int 1]) rfl rfl rfl ?_
              refine pm_R_br pm_M250 (pc' := 28) rfl rfl ?_
              refine pm_R_ret pm_M250 (r := some (.int 1)) rfl rfl ?_
              show pm_R _ 249 12 [.ref 41, .int a0, .int a1, .int a2, pm_no, pm_no] [.int 1] _ _
              refine pm_R_br pm_M249 (pc' := 17) (st' := []) rfl rfl ?_
              refine pm_R_op pm_M249 (pc' := 18) (st' := [.int 0]) rfl rfl rfl ?_
              refine pm_R_lo pm_M249 (pc' := 20) (ls' := [.ref 41, .int a0, .int a1, .int a2, .int 0, pm_no]) (st' := []) rfl rfl rfl ?_
              refine pm_R_op pm_M249 (pc' := 21) (st' := [.int 0]) rfl rfl rfl ?_
              refine pm_R_lo pm_M249 (pc' := 23) (ls' := [.ref 41, .int a0, .int a1, .int a2, .int 0, .int 0]) (st' := []) rfl rfl rfl ?_
              have L_317 : ∀ (N : Nat) (h_317 : pm_H) (m_317 : Nat → Int32) (w_317 : Int64) (x4_317 : Int32) (x5_317 : Int32), rf_T m_317 w_317 h_317 → rf_G [41, 53, 54] h h_317 → rf_W [] m40 m_317 → sf_B (-2147483648) 2147483647 x4_317 → sf_B 0 10 x5_317 → (10 - x5_317.toInt).toNat = N → pm_R (d + 6) 249 23 [.ref 41, .int a0, .int a1, .int a2, .int x4_317, .int x5_317] [] h_317 Q := by
                intro N
                induction N using Nat.strongRecOn with
                | ind N ih_317 =>
                  intro h_317 m_317 w_317 x4_317 x5_317 T_317 F_317 W_317 Bx4_317 Bx5_317 hN_317
                  have B320 : sf_B 1 12 (m_317 24) := by rw [W_317 24 (by decide)]; exact B46
                  have W321 : rf_W [0, 23, 24, 26] m m_317 := W48.trans W_317 (by decide)
                  refine pm_R_lo pm_M249 (pc' := 25) rfl rfl rfl ?_
                  refine pm_R_op pm_M249 (pc' := 27) (st' := [.int 10, .int x5_317]) rfl rfl rfl ?_
                  refine pm_R_icmp pm_M249 (t := 68) (pc' := 30) rfl rfl rfl (fun c322 => ?_) (fun c322 => ?_)
                  · have B323 : sf_B 10 10 x5_317 := sf_leR c322 sf_k10 Bx5_317
                    refine pm_R_lo pm_M249 (pc' := 70) rfl rfl rfl ?_
                    exact pm_R_ret pm_M249 (r := some (.int x4_317)) rfl (pm_ret_i _) (K x4_317 m_317 w_317 h_317 T_317 F_317 W321)
                  · have B324 : sf_B 0 9 x5_317 := sf_ltL (Int32.not_le.mp c322) Bx5_317 sf_k10
                    refine pm_R_lo pm_M249 (pc' := 31) rfl rfl rfl ?_
                    refine rf_R_get pm_M249 T_317 (pc' := 34) (v := .ref 53) rfl rfl rfl rfl ?_
                    refine pm_R_lo pm_M249 (pc' := 35) rfl rfl rfl ?_
                    refine pm_R_op pm_M249 (pc' := 36) (st' := [.int 1, .int a2, .ref 53]) rfl rfl rfl ?_
                    refine pm_R_lo pm_M249 (pc' := 38) rfl rfl rfl ?_
                    refine sf_R_iany pm_M249 (pc' := 39) (st := [.int a2, .ref 53]) rfl rfl rfl (fun z328 => ?_)
                    obtain ⟨f329, e330⟩ := T_317.2.2.2.1 53 (by decide) (by decide)
                    refine rf_R_ist pm_M249 T_317 (pc' := 40) rfl e330 (by decide) (by decide) (sf_in B57 (by decide) (by decide)) ⟨_, rfl⟩ rfl (fun h332 T333 F334 e335 => ?_)
                    have F336 := F_317.trans F334 (by decide)
                    refine pm_R_lo pm_M249 (pc' := 42) rfl rfl rfl ?_
                    refine pm_R_lo pm_M249 (pc' := 43) rfl rfl rfl ?_
                    refine pm_R_cv pm_M249 (pc' := 46) (a := 41) (ra := []) (rest := [.int x4_317]) (ls' := [.ref 41]) rfl rfl (Or.inl rfl) pm_M215 T333.2.1 rfl (by decide) (Nat.lt_of_lt_of_le (by decide) T333.1) rfl rfl (Nat.le_of_ble_eq_true rfl) rfl rfl ?_
                    refine rf_c215 (d := d + 0) T333 B320 (fun r337 m339 w340 h341 T342 F343 W344 => ?_)
                    have F345 := F336.trans F343 (by decide)
                    have B346 : sf_B 1 12 (m339 24) := by rw [W344 24 (by decide)]; exact B320
                    have W347 : rf_W [0, 23, 24, 26] m m339 := W321.trans W344 (by decide)
                    have W348 : rf_W [] m40 m339 := W_317.trans W344 (by decide)
                    show pm_R _ 249 46 [.ref 41, .int a0, .int a1, .int a2, .int x4_317, .int x5_317] [.long r337, .int x4_317] _ _
                    refine pm_R_op pm_M249 (pc' := 47) (st' := [.long 0, .long r337, .int x4_317]) rfl rfl rfl ?_
                    refine sf_R_lcmp pm_M249 (pc' := 48) rfl rfl (fun z349 e350 => ?_)
                    refine pm_R_ifc pm_M249 (t := 58) (pc' := 51) rfl rfl rfl (fun c351 => ?_) (fun c351 => ?_)
                    · have B352 : sf_B 0 0 z349 := sf_eqL c351 sf_k0
                      refine pm_R_op pm_M249 (pc' := 59) (st' := [.int 0, .int x4_317]) rfl rfl rfl ?_
                      refine sf_R_iany pm_M249 (pc' := 60) (st := []) rfl rfl rfl (fun z356 => ?_)
                      refine pm_R_lo pm_M249 (pc' := 62) (ls' := [.ref 41, .int a0, .int a1, .int a2, .int z356, .int x5_317]) (st' := []) rfl rfl rfl ?_
                      refine sf_R_iinc pm_M249 (pc' := 65) (ls' := fun z => [.ref 41, .int a0, .int a1, .int a2, .int z356, .int z]) rfl B324 rfl (by decide) (by decide) (by decide) (fun _ => rfl) rfl (fun z357 e358 B359 => ?_)
                      show pm_R _ 249 65 [.ref 41, .int a0, .int a1, .int a2, .int z356, .int z357] [] _ _
                      refine pm_R_br pm_M249 (pc' := 23) rfl rfl ?_
                      exact ih_317 _ (sf_up hN_317 e358 B324 (by decide) (by decide)) h341 m339 w340 z356 z357 T342 F345 W348 (sf_any z356) (sf_weak B359 (by decide) (by decide)) rfl
                    · have k360 := sf_lneC e350 c351
                      refine pm_R_op pm_M249 (pc' := 52) (st' := [.int 1, .int x4_317]) rfl rfl rfl ?_
                      refine pm_R_lo pm_M249 (pc' := 54) rfl rfl rfl ?_
                      refine sf_R_iany pm_M249 (pc' := 55) (st := [.int x4_317]) rfl rfl rfl (fun z364 => ?_)
                      refine pm_R_br pm_M249 (pc' := 59) rfl rfl ?_
                      refine sf_R_iany pm_M249 (pc' := 60) (st := []) rfl rfl rfl (fun z368 => ?_)
                      refine pm_R_lo pm_M249 (pc' := 62) (ls' := [.ref 41, .int a0, .int a1, .int a2, .int z368, .int x5_317]) (st' := []) rfl rfl rfl ?_
                      refine sf_R_iinc pm_M249 (pc' := 65) (ls' := fun z => [.ref 41, .int a0, .int a1, .int a2, .int z368, .int z]) rfl B324 rfl (by decide) (by decide) (by decide) (fun _ => rfl) rfl (fun z369 e370 B371 => ?_)
                      show pm_R _ 249 65 [.ref 41, .int a0, .int a1, .int a2, .int z368, .int z369] [] _ _
                      refine pm_R_br pm_M249 (pc' := 23) rfl rfl ?_
                      exact ih_317 _ (sf_up hN_317 e370 B324 (by decide) (by decide)) h341 m339 w340 z368 z369 T342 F345 W348 (sf_any z368) (sf_weak B371 (by decide) (by decide)) rfl
              exact L_317 _ h42 m40 w41 0 0 T43 F47 (rf_W.refl _ _) (sf_weak sf_k0 (by decide) (by decide)) (sf_weak sf_k0 (by decide) (by decide)) rfl

set_option maxRecDepth 100000 in
set_option maxHeartbeats 4000000 in
/-- SilentTableModel.doubt -/
theorem rf_c252 {d : Nat} {m : Nat → Int32} {w : Int64} {h : pm_H} {Q : Option Value → pm_H → Prop} {a0 : Int32} {a1 : Int32} {a2 : Int32} (T : rf_T m w h)  (K : ∀ (r : Int32) (m' : Nat → Int32) (w' : Int64) (h' : pm_H), rf_T m' w' h' → rf_G [41, 53, 54] h h' → rf_W [0, 23, 24, 26, 27] m m' → Q (some (.int r)) h') : pm_R (d + 6) 252 0 [.ref 41, .int a0, .int a1, .int a2, pm_no, pm_no] [] h Q := by
  refine pm_R_lo pm_M252 (pc' := 1) rfl rfl rfl ?_
  refine pm_R_op pm_M252 (pc' := 2) (st' := [.int 0, .ref 41]) rfl rfl rfl ?_
  refine rf_R_put pm_M252 T (pc' := 5) rfl rfl rfl (by decide) rfl rfl sf_k0 rfl rfl (fun h1 m4 em5 T2 F3 => ?_)
  have F6 := (rf_G.refl [41, 53, 54] h).trans F3 (by decide)
  have B7 : sf_B 0 0 (m4 0) := by rw [em5]; exact sf_k0
  have W9 : rf_W [0, 23, 24, 26, 27] m m4 := by rw [em5]; exact (rf_W.refl [0, 23, 24, 26, 27] m).put (by decide)
  refine pm_R_lo pm_M252 (pc' := 6) rfl rfl rfl ?_
  refine pm_R_lo pm_M252 (pc' := 7) rfl rfl rfl ?_
  refine pm_R_lo pm_M252 (pc' := 8) rfl rfl rfl ?_
  refine pm_R_lo pm_M252 (pc' := 9) rfl rfl rfl ?_
  refine pm_R_cv pm_M252 (pc' := 12) (a := 41) (ra := [.int a2, .int a1, .int a0]) (rest := []) (ls' := [.ref 41, .int a0, .int a1, .int a2]) rfl rfl (Or.inl rfl) pm_M250 T2.2.1 rfl (by decide) (Nat.lt_of_lt_of_le (by decide) T2.1) rfl rfl (Nat.le_of_ble_eq_true rfl) rfl rfl ?_
  refine pm_R_lo pm_M250 (pc' := 1) rfl rfl rfl ?_
  refine pm_R_lo pm_M250 (pc' := 2) rfl rfl rfl ?_
  refine pm_R_lo pm_M250 (pc' := 3) rfl rfl rfl ?_
  refine pm_R_cv pm_M250 (pc' := 6) (a := 41) (ra := [.int a1, .int a0]) (rest := []) (ls' := [.ref 41, .int a0, .int a1]) rfl rfl (Or.inl rfl) pm_M200 T2.2.1 rfl (by decide) (Nat.lt_of_lt_of_le (by decide) T2.1) rfl rfl (Nat.le_of_ble_eq_true rfl) rfl rfl ?_
  refine pm_R_lo pm_M200 (pc' := 1) rfl rfl rfl ?_
  refine pm_R_op pm_M200 (pc' := 2) (st' := [.int 0, .ref 41]) rfl rfl rfl ?_
  refine pm_R_lo pm_M200 (pc' := 3) rfl rfl rfl ?_
  refine pm_R_cv pm_M200 (pc' := 6) (a := 41) (ra := [.int a0, .int 0]) (rest := []) (ls' := [.ref 41, .int 0, .int a0]) rfl rfl (Or.inl rfl) pm_M177 T2.2.1 rfl (by decide) (Nat.lt_of_lt_of_le (by decide) T2.1) rfl rfl (Nat.le_of_ble_eq_true rfl) rfl rfl ?_
  refine pm_R_lo pm_M177 (pc' := 1) rfl rfl rfl ?_
  refine pm_R_op pm_M177 (pc' := 2) (st' := [.int 0, .int a0]) rfl rfl rfl ?_
  refine pm_R_lo pm_M177 (pc' := 3) rfl rfl rfl ?_
  refine rf_R_get pm_M177 T2 (pc' := 6) (v := .ref 46) rfl rfl rfl rfl ?_
  refine pm_R_lo pm_M177 (pc' := 7) rfl rfl rfl ?_
  obtain ⟨f10, e11, b12⟩ := T2.2.2.2.1 46 (by decide) (by decide)
  refine rf_R_ild pm_M177 T2 (pc' := 8) rfl e11 (by decide) rfl rfl (fun z13 ez14 => ?_)
  have B15 : sf_B 0 2 z13 := ez14 ▸ (b12 0)
  refine pm_R_op pm_M177 (pc' := 9) (st' := [.int 1, .int z13, .int 0, .int a0]) rfl rfl rfl ?_
  refine sf_R_isub pm_M177 (pc' := 10) rfl rfl B15 sf_k1 (by decide) (by decide) (fun z16 e17 B18 => ?_)
  refine pm_R_cs pm_M177 (pc' := 13) (ra := [.int z16, .int 0, .int a0]) (rest := []) (ls' := [.int a0, .int 0, .int z16]) rfl rfl (Or.inl rfl) pm_M174 rfl rfl (Nat.le_of_ble_eq_true rfl) rfl rfl ?_
  refine pm_R_lo pm_M174 (pc' := 1) rfl rfl rfl ?_
  refine pm_R_lo pm_M174 (pc' := 2) rfl rfl rfl ?_
  refine pm_R_icmp pm_M174 (t := 14) (pc' := 5) rfl rfl rfl (fun c19 => ?_) (fun c19 => ?_)
  · have B20 : sf_B (-2147483648) (-1) a0 := sf_ltL c19 (sf_any a0) sf_k0
    refine pm_R_op pm_M174 (pc' := 15) (st' := [.int 0]) rfl rfl rfl ?_
    refine pm_R_ret pm_M174 (r := some (.int 0)) rfl rfl ?_
    show pm_R _ 177 13 [.ref 41, .int 0, .int a0] [.int 0] _ _
    refine pm_R_ret pm_M177 (r := some (.int 0)) rfl rfl ?_
    show pm_R _ 200 6 [.ref 41, .int a0, .int a1] [.int 0] _ _
    refine pm_R_br pm_M200 (pc' := 18) (st' := []) rfl rfl ?_
    refine pm_R_op pm_M200 (pc' := 19) (st' := [.int 0]) rfl rfl rfl ?_
    refine pm_R_ret pm_M200 (r := some (.int 0)) rfl rfl ?_
    show pm_R _ 250 6 [.ref 41, .int a0, .int a1, .int a2] [.int 0] _ _
    refine pm_R_br pm_M250 (pc' := 27) (st' := []) rfl rfl ?_
    refine pm_R_op pm_M250 (pc' := 28) (st' := [.int 0]) rfl rfl rfl ?_
    refine pm_R_ret pm_M250 (r := some (.int 0)) rfl rfl ?_
    show pm_R _ 252 12 [.ref 41, .int a0, .int a1, .int a2, pm_no, pm_no] [.int 0] _ _
    refine pm_R_br pm_M252 (pc' := 15) (st' := []) rfl rfl ?_
    refine pm_R_op pm_M252 (pc' := 16) (st' := [.int (-1)]) rfl rfl rfl ?_
    exact pm_R_ret pm_M252 (r := some (.int (-1))) rfl rfl (K (-1) m4 w h1 T2 F6 W9)
  · have B21 : sf_B 0 2147483647 a0 := sf_leR (Int32.not_lt.mp c19) sf_k0 (sf_any a0)
    refine pm_R_lo pm_M174 (pc' := 6) rfl rfl rfl ?_
    refine pm_R_lo pm_M174 (pc' := 7) rfl rfl rfl ?_
    refine pm_R_icmp pm_M174 (t := 14) (pc' := 10) rfl rfl rfl (fun c22 => ?_) (fun c22 => ?_)
    · skip
      refine pm_R_op pm_M174 (pc' := 15) (st' := [.int 0]) rfl rfl rfl ?_
      refine pm_R_ret pm_M174 (r := some (.int 0)) rfl rfl ?_
      show pm_R _ 177 13 [.ref 41, .int 0, .int a0] [.int 0] _ _
      refine pm_R_ret pm_M177 (r := some (.int 0)) rfl rfl ?_
      show pm_R _ 200 6 [.ref 41, .int a0, .int a1] [.int 0] _ _
      refine pm_R_br pm_M200 (pc' := 18) (st' := []) rfl rfl ?_
      refine pm_R_op pm_M200 (pc' := 19) (st' := [.int 0]) rfl rfl rfl ?_
      refine pm_R_ret pm_M200 (r := some (.int 0)) rfl rfl ?_
      show pm_R _ 250 6 [.ref 41, .int a0, .int a1, .int a2] [.int 0] _ _
      refine pm_R_br pm_M250 (pc' := 27) (st' := []) rfl rfl ?_
      refine pm_R_op pm_M250 (pc' := 28) (st' := [.int 0]) rfl rfl rfl ?_
      refine pm_R_ret pm_M250 (r := some (.int 0)) rfl rfl ?_
      show pm_R _ 252 12 [.ref 41, .int a0, .int a1, .int a2, pm_no, pm_no] [.int 0] _ _
      refine pm_R_br pm_M252 (pc' := 15) (st' := []) rfl rfl ?_
      refine pm_R_op pm_M252 (pc' := 16) (st' := [.int (-1)]) rfl rfl rfl ?_
      exact pm_R_ret pm_M252 (r := some (.int (-1))) rfl rfl (K (-1) m4 w h1 T2 F6 W9)
    · have B23 : sf_B 0 1 a0 := sf_leL (Int32.not_lt.mp c22) B21 B18
      have B24 : sf_B 0 1 z16 := sf_leR (Int32.not_lt.mp c22) B21 B18
      refine pm_R_op pm_M174 (pc' := 11) (st' := [.int 1]) rfl rfl rfl ?_
      refine pm_R_br pm_M174 (pc' := 15) rfl rfl ?_
      refine pm_R_ret pm_M174 (r := some (.int 1)) rfl rfl ?_
      show pm_R _ 177 13 [.ref 41, .int 0, .int a0] [.int 1] _ _
      refine pm_R_ret pm_M177 (r := some (.int 1)) rfl rfl ?_
      show pm_R _ 200 6 [.ref 41, .int a0, .int a1] [.int 1] _ _
      refine pm_R_br pm_M200 (pc' := 9) (st' := []) rfl rfl ?_
      refine pm_R_lo pm_M200 (pc' := 10) rfl rfl rfl ?_
      refine pm_R_op pm_M200 (pc' := 11) (st' := [.int 1, .ref 41]) rfl rfl rfl ?_
      refine pm_R_lo pm_M200 (pc' := 12) rfl rfl rfl ?_
      refine pm_R_cv pm_M200 (pc' := 15) (a := 41) (ra := [.int a1, .int 1]) (rest := []) (ls' := [.ref 41, .int 1, .int a1]) rfl rfl (Or.inl rfl) pm_M177 T2.2.1 rfl (by decide) (Nat.lt_of_lt_of_le (by decide) T2.1) rfl rfl (Nat.le_of_ble_eq_true rfl) rfl rfl ?_
      refine pm_R_lo pm_M177 (pc' := 1) rfl rfl rfl ?_
      refine pm_R_op pm_M177 (pc' := 2) (st' := [.int 0, .int a1]) rfl rfl rfl ?_
      refine pm_R_lo pm_M177 (pc' := 3) rfl rfl rfl ?_
      refine rf_R_get pm_M177 T2 (pc' := 6) (v := .ref 46) rfl rfl rfl rfl ?_
      refine pm_R_lo pm_M177 (pc' := 7) rfl rfl rfl ?_
      refine rf_R_ild pm_M177 T2 (pc' := 8) rfl e11 (by decide) rfl rfl (fun z25 ez26 => ?_)
      have B27 : sf_B 0 3 z25 := ez26 ▸ (b12 1)
      refine pm_R_op pm_M177 (pc' := 9) (st' := [.int 1, .int z25, .int 0, .int a1]) rfl rfl rfl ?_
      refine sf_R_isub pm_M177 (pc' := 10) rfl rfl B27 sf_k1 (by decide) (by decide) (fun z28 e29 B30 => ?_)
      refine pm_R_cs pm_M177 (pc' := 13) (ra := [.int z28, .int 0, .int a1]) (rest := []) (ls' := [.int a1, .int 0, .int z28]) rfl rfl (Or.inl rfl) pm_M174 rfl rfl (Nat.le_of_ble_eq_true rfl) rfl rfl ?_
      refine pm_R_lo pm_M174 (pc' := 1) rfl rfl rfl ?_
      refine pm_R_lo pm_M174 (pc' := 2) rfl rfl rfl ?_
      refine pm_R_icmp pm_M174 (t := 14) (pc' := 5) rfl rfl rfl (fun c31 => ?_) (fun c31 => ?_)
      · have B32 : sf_B (-2147483648) (-1) a1 := sf_ltL c31 (sf_any a1) sf_k0
        refine pm_R_op pm_M174 (pc' := 15) (st' := [.int 0]) rfl rfl rfl ?_
        refine pm_R_ret pm_M174 (r := some (.int 0)) rfl rfl ?_
        show pm_R _ 177 13 [.ref 41, .int 1, .int a1] [.int 0] _ _
        refine pm_R_ret pm_M177 (r := some (.int 0)) rfl rfl ?_
        show pm_R _ 200 15 [.ref 41, .int a0, .int a1] [.int 0] _ _
        refine pm_R_br pm_M200 (pc' := 18) (st' := []) rfl rfl ?_
        refine pm_R_op pm_M200 (pc' := 19) (st' := [.int 0]) rfl rfl rfl ?_
        refine pm_R_ret pm_M200 (r := some (.int 0)) rfl rfl ?_
        show pm_R _ 250 6 [.ref 41, .int a0, .int a1, .int a2] [.int 0] _ _
        refine pm_R_br pm_M250 (pc' := 27) (st' := []) rfl rfl ?_
        refine pm_R_op pm_M250 (pc' := 28) (st' := [.int 0]) rfl rfl rfl ?_
        refine pm_R_ret pm_M250 (r := some (.int 0)) rfl rfl ?_
        show pm_R _ 252 12 [.ref 41, .int a0, .int a1, .int a2, pm_no, pm_no] [.int 0] _ _
        refine pm_R_br pm_M252 (pc' := 15) (st' := []) rfl rfl ?_
        refine pm_R_op pm_M252 (pc' := 16) (st' := [.int (-1)]) rfl rfl rfl ?_
        exact pm_R_ret pm_M252 (r := some (.int (-1))) rfl rfl (K (-1) m4 w h1 T2 F6 W9)
      · have B33 : sf_B 0 2147483647 a1 := sf_leR (Int32.not_lt.mp c31) sf_k0 (sf_any a1)
        refine pm_R_lo pm_M174 (pc' := 6) rfl rfl rfl ?_
        refine pm_R_lo pm_M174 (pc' := 7) rfl rfl rfl ?_
        refine pm_R_icmp pm_M174 (t := 14) (pc' := 10) rfl rfl rfl (fun c34 => ?_) (fun c34 => ?_)
        · skip
          refine pm_R_op pm_M174 (pc' := 15) (st' := [.int 0]) rfl rfl rfl ?_
          refine pm_R_ret pm_M174 (r := some (.int 0)) rfl rfl ?_
          show pm_R _ 177 13 [.ref 41, .int 1, .int a1] [.int 0] _ _
          refine pm_R_ret pm_M177 (r := some (.int 0)) rfl rfl ?_
          show pm_R _ 200 15 [.ref 41, .int a0, .int a1] [.int 0] _ _
          refine pm_R_br pm_M200 (pc' := 18) (st' := []) rfl rfl ?_
          refine pm_R_op pm_M200 (pc' := 19) (st' := [.int 0]) rfl rfl rfl ?_
          refine pm_R_ret pm_M200 (r := some (.int 0)) rfl rfl ?_
          show pm_R _ 250 6 [.ref 41, .int a0, .int a1, .int a2] [.int 0] _ _
          refine pm_R_br pm_M250 (pc' := 27) (st' := []) rfl rfl ?_
          refine pm_R_op pm_M250 (pc' := 28) (st' := [.int 0]) rfl rfl rfl ?_
          refine pm_R_ret pm_M250 (r := some (.int 0)) rfl rfl ?_
          show pm_R _ 252 12 [.ref 41, .int a0, .int a1, .int a2, pm_no, pm_no] [.int 0] _ _
          refine pm_R_br pm_M252 (pc' := 15) (st' := []) rfl rfl ?_
          refine pm_R_op pm_M252 (pc' := 16) (st' := [.int (-1)]) rfl rfl rfl ?_
          exact pm_R_ret pm_M252 (r := some (.int (-1))) rfl rfl (K (-1) m4 w h1 T2 F6 W9)
        · have V35 := rf_V.mk e11 ez26 e29 (Int32.not_lt.mp c34) B33 (by decide)
          have V35 := V35.back F6 (by decide)
          have B36 : sf_B 0 2 a1 := sf_leL (Int32.not_lt.mp c34) B33 B30
          have B37 : sf_B 0 2 z28 := sf_leR (Int32.not_lt.mp c34) B33 B30
          refine pm_R_op pm_M174 (pc' := 11) (st' := [.int 1]) rfl rfl rfl ?_
          refine pm_R_br pm_M174 (pc' := 15) rfl rfl ?_
          refine pm_R_ret pm_M174 (r := some (.int 1)) rfl rfl ?_
          show pm_R _ 177 13 [.ref 41, .int 1, .int a1] [.int 1] _ _
          refine pm_R_ret pm_M177 (r := some (.int 1)) rfl rfl ?_
          show pm_R _ 200 15 [.ref 41, .int a0, .int a1] [.int 1] _ _
          refine pm_R_br pm_M200 (pc' := 20) (st' := []) rfl rfl ?_
          refine pm_R_lo pm_M200 (pc' := 21) rfl rfl rfl ?_
          refine pm_R_lo pm_M200 (pc' := 22) rfl rfl rfl ?_
          refine pm_R_lo pm_M200 (pc' := 23) rfl rfl rfl ?_
          refine pm_R_cv pm_M200 (pc' := 26) (a := 41) (ra := [.int a1, .int a0]) (rest := []) (ls' := [.ref 41, .int a0, .int a1, pm_no]) rfl rfl (Or.inl rfl) pm_M201 T2.2.1 rfl (by decide) (Nat.lt_of_lt_of_le (by decide) T2.1) rfl rfl (Nat.le_of_ble_eq_true rfl) rfl rfl ?_
          refine rf_c201 (d := d + 3) T2 B23 B36 (V35.F F6 (by decide)) (fun m40 w41 h42 T43 F44 W45 B46 => ?_)
          have F47 := F6.trans F44 (by decide)
          have W48 : rf_W [0, 23, 24, 26, 27] m m40 := W9.trans W45 (by decide)
          show pm_R _ 200 26 [.ref 41, .int a0, .int a1] [] _ _
          refine pm_R_op pm_M200 (pc' := 27) (st' := [.int 1]) rfl rfl rfl ?_
          refine pm_R_ret pm_M200 (r := some (.int 1)) rfl rfl ?_
          show pm_R _ 250 6 [.ref 41, .int a0, .int a1, .int a2] [.int 1] _ _
          refine pm_R_br pm_M250 (pc' := 9) (st' := []) rfl rfl ?_
          refine pm_R_lo pm_M250 (pc' := 10) rfl rfl rfl ?_
          refine pm_R_op pm_M250 (pc' := 11) (st' := [.int 0, .int a2]) rfl rfl rfl ?_
          refine pm_R_lo pm_M250 (pc' := 12) rfl rfl rfl ?_
          refine rf_R_get pm_M250 T43 (pc' := 15) (v := .int (m40 24)) rfl rfl rfl rfl ?_
          refine pm_R_op pm_M250 (pc' := 16) (st' := [.int 1, .int (m40 24), .int 0, .int a2]) rfl rfl rfl ?_
          refine sf_R_isub pm_M250 (pc' := 17) rfl rfl B46 sf_k1 (by decide) (by decide) (fun z49 e50 B51 => ?_)
          refine pm_R_cs pm_M250 (pc' := 20) (ra := [.int z49, .int 0, .int a2]) (rest := []) (ls' := [.int a2, .int 0, .int z49]) rfl rfl (Or.inl rfl) pm_M174 rfl rfl (Nat.le_of_ble_eq_true rfl) rfl rfl ?_
          refine pm_R_lo pm_M174 (pc' := 1) rfl rfl rfl ?_
          refine pm_R_lo pm_M174 (pc' := 2) rfl rfl rfl ?_
          refine pm_R_icmp pm_M174 (t := 14) (pc' := 5) rfl rfl rfl (fun c52 => ?_) (fun c52 => ?_)
          · have B53 : sf_B (-2147483648) (-1) a2 := sf_ltL c52 (sf_any a2) sf_k0
            refine pm_R_op pm_M174 (pc' := 15) (st' := [.int 0]) rfl rfl rfl ?_
            refine pm_R_ret pm_M174 (r := some (.int 0)) rfl rfl ?_
            show pm_R _ 250 20 [.ref 41, .int a0, .int a1, .int a2] [.int 0] _ _
            refine pm_R_br pm_M250 (pc' := 27) (st' := []) rfl rfl ?_
            refine pm_R_op pm_M250 (pc' := 28) (st' := [.int 0]) rfl rfl rfl ?_
            refine pm_R_ret pm_M250 (r := some (.int 0)) rfl rfl ?_
            show pm_R _ 252 12 [.ref 41, .int a0, .int a1, .int a2, pm_no, pm_no] [.int 0] _ _
            refine pm_R_br pm_M252 (pc' := 15) (st' := []) rfl rfl ?_
            refine pm_R_op pm_M252 (pc' := 16) (st' := [.int (-1)]) rfl rfl rfl ?_
            exact pm_R_ret pm_M252 (r := some (.int (-1))) rfl rfl (K (-1) m40 w41 h42 T43 F47 W48)
          · have B54 : sf_B 0 2147483647 a2 := sf_leR (Int32.not_lt.mp c52) sf_k0 (sf_any a2)
            refine pm_R_lo pm_M174 (pc' := 6) rfl rfl rfl ?_
            refine pm_R_lo pm_M174 (pc' := 7) rfl rfl rfl ?_
            refine pm_R_icmp pm_M174 (t := 14) (pc' := 10) rfl rfl rfl (fun c55 => ?_) (fun c55 => ?_)
            · have B56 : sf_B 1 2147483647 a2 := sf_ltR c55 B51 B54
              refine pm_R_op pm_M174 (pc' := 15) (st' := [.int 0]) rfl rfl rfl ?_
              refine pm_R_ret pm_M174 (r := some (.int 0)) rfl rfl ?_
              show pm_R _ 250 20 [.ref 41, .int a0, .int a1, .int a2] [.int 0] _ _
              refine pm_R_br pm_M250 (pc' := 27) (st' := []) rfl rfl ?_
              refine pm_R_op pm_M250 (pc' := 28) (st' := [.int 0]) rfl rfl rfl ?_
              refine pm_R_ret pm_M250 (r := some (.int 0)) rfl rfl ?_
              show pm_R _ 252 12 [.ref 41, .int a0, .int a1, .int a2, pm_no, pm_no] [.int 0] _ _
              refine pm_R_br pm_M252 (pc' := 15) (st' := []) rfl rfl ?_
              refine pm_R_op pm_M252 (pc' := 16) (st' := [.int (-1)]) rfl rfl rfl ?_
              exact pm_R_ret pm_M252 (r := some (.int (-1))) rfl rfl (K (-1) m40 w41 h42 T43 F47 W48)
            · have B57 : sf_B 0 11 a2 := sf_leL (Int32.not_lt.mp c55) B54 B51
              refine pm_R_op pm_M174 (pc' := 11) (st' := [.int 1]) rfl rfl rfl ?_
              refine pm_R_br pm_M174 (pc' := 15) rfl rfl ?_
              refine pm_R_ret pm_M174 (r := some (.int 1)) rfl rfl ?_
              show pm_R _ 250 20 [.ref 41, .int a0, .int a1, .int a2] [.int 1] _ _
              refine pm_R_br pm_M250 (pc' := 23) (st' := []) rfl rfl ?_
              refine pm_R_op pm_M250 (pc' := 24) (st' := [.int 1]) rfl rfl rfl ?_
              refine pm_R_br pm_M250 (pc' := 28) rfl rfl ?_
              refine pm_R_ret pm_M250 (r := some (.int 1)) rfl rfl ?_
              show pm_R _ 252 12 [.ref 41, .int a0, .int a1, .int a2, pm_no, pm_no] [.int 1] _ _
              refine pm_R_br pm_M252 (pc' := 17) (st' := []) rfl rfl ?_
              refine pm_R_op pm_M252 (pc' := 18) (st' := [.int 0]) rfl rfl rfl ?_
              refine pm_R_lo pm_M252 (pc' := 20) (ls' := [.ref 41, .int a0, .int a1, .int a2, .int 0, pm_no]) (st' := []) rfl rfl rfl ?_
              refine pm_R_lo pm_M252 (pc' := 21) rfl rfl rfl ?_
              refine pm_R_lo pm_M252 (pc' := 22) rfl rfl rfl ?_
              refine rf_R_put pm_M252 T43 (pc' := 25) rfl rfl rfl (by decide) rfl rfl (sf_weak B57 (by decide) (by decide)) rfl rfl (fun h58 m61 em62 T59 F60 => ?_)
              have F63 := F47.trans F60 (by decide)
              have B64 : sf_B 1 12 (m61 24) := by rw [em62]; exact B46
              have B65 : sf_B 0 11 (m61 26) := by rw [em62]; exact B57
              have ek66 : (m61 26).toInt = (a2).toInt := by rw [em62]; rfl
              have W67 : rf_W [0, 23, 24, 26, 27] m m61 := by rw [em62]; exact W48.put (by decide)
              refine pm_R_op pm_M252 (pc' := 26) (st' := [.int 0]) rfl rfl rfl ?_
              refine pm_R_lo pm_M252 (pc' := 28) (ls' := [.ref 41, .int a0, .int a1, .int a2, .int 0, .int 0]) (st' := []) rfl rfl rfl ?_
              have L_628 : ∀ (N : Nat) (h_628 : pm_H) (m_628 : Nat → Int32) (w_628 : Int64) (x4_628 : Int32) (x5_628 : Int32), rf_T m_628 w_628 h_628 → rf_G [41, 53, 54] h h_628 → rf_W [27] m61 m_628 → sf_B (-2147483648) 2147483647 x4_628 → sf_B 0 16 x5_628 → (16 - x5_628.toInt).toNat = N → pm_R (d + 6) 252 28 [.ref 41, .int a0, .int a1, .int a2, .int x4_628, .int x5_628] [] h_628 Q := by
                intro N
                induction N using Nat.strongRecOn with
                | ind N ih_628 =>
                  intro h_628 m_628 w_628 x4_628 x5_628 T_628 F_628 W_628 Bx4_628 Bx5_628 hN_628
                  have B631 : sf_B 1 12 (m_628 24) := by rw [W_628 24 (by decide)]; exact B64
                  have B632 : sf_B 0 11 (m_628 26) := by rw [W_628 26 (by decide)]; exact B65
                  have W633 : rf_W [0, 23, 24, 26, 27] m m_628 := W67.trans W_628 (by decide)
                  refine pm_R_lo pm_M252 (pc' := 30) rfl rfl rfl ?_
                  refine pm_R_lo pm_M252 (pc' := 31) rfl rfl rfl ?_
                  refine pm_R_cv pm_M252 (pc' := 34) (a := 41) (ra := []) (rest := [.int x5_628]) (ls' := [.ref 41]) rfl rfl (Or.inl rfl) pm_M203 T_628.2.1 rfl (by decide) (Nat.lt_of_lt_of_le (by decide) T_628.1) rfl rfl (Nat.le_of_ble_eq_true rfl) rfl rfl ?_
                  refine pm_R_lo pm_M203 (pc' := 1) rfl rfl rfl ?_
                  refine rf_R_get pm_M203 T_628 (pc' := 4) (v := .ref 47) rfl rfl rfl rfl ?_
                  refine pm_R_op pm_M203 (pc' := 6) (st' := [.int 100, .ref 47]) rfl rfl rfl ?_
                  refine pm_R_lo pm_M203 (pc' := 7) rfl rfl rfl ?_
                  have B634 : sf_B 0 1 (m_628 23) := T_628.2.2.1 23
                  refine rf_R_get pm_M203 T_628 (pc' := 10) (v := .int (m_628 23)) rfl rfl rfl rfl ?_
                  refine sf_R_imul pm_M203 (pc' := 11) rfl rfl sf_k100 B634 (by decide) (by decide) (by decide) (fun z635 e636 B637 => ?_)
                  refine pm_R_op pm_M203 (pc' := 12) (st' := [.int 1, .int z635, .ref 47]) rfl rfl rfl ?_
                  refine sf_R_iadd pm_M203 (pc' := 13) rfl rfl B637 sf_k1 (by decide) (by decide) (fun z638 e639 B640 => ?_)
                  obtain ⟨f641, e642, b643⟩ := T_628.2.2.2.1 47 (by decide) (by decide)
                  refine rf_R_ild pm_M203 T_628 (pc' := 14) rfl e642 (by decide) (sf_in B640 (by decide) (by decide)) rfl (fun z644 ez645 => ?_)
                  have e646 : (z638).toInt = 100 * ((m_628 23)).toInt + 1 := by
                    have q0 := e636
                    have q1 := e639
                    simp only [(show (1 : Int32).toInt = 1 from rfl), (show (100 : Int32).toInt = 100 from rfl)] at q0 q1
                    omega
                  have B647 : sf_B 0 16 z644 := ez645 ▸ rf_p47b b643 e646 B634 (by decide)
                  refine pm_R_ret pm_M203 (r := some (.int z644)) rfl (pm_ret_i _) ?_
                  show pm_R _ 252 34 [.ref 41, .int a0, .int a1, .int a2, .int x4_628, .int x5_628] [.int z644, .int x5_628] _ _
                  refine pm_R_icmp pm_M252 (t := 88) (pc' := 37) rfl rfl rfl (fun c648 => ?_) (fun c648 => ?_)
                  · skip
                    refine pm_R_lo pm_M252 (pc' := 89) rfl rfl rfl ?_
                    refine pm_R_op pm_M252 (pc' := 90) (st' := [.int (-1), .ref 41]) rfl rfl rfl ?_
                    refine rf_R_put pm_M252 T_628 (pc' := 93) rfl rfl rfl (by decide) rfl rfl (sf_weak sf_kn1 (by decide) (by decide)) rfl rfl (fun h649 m652 em653 T650 F651 => ?_)
                    have F654 := F_628.trans F651 (by decide)
                    have B655 : sf_B 1 12 (m652 24) := by rw [em653]; exact B631
                    have B656 : sf_B (-1) (-1) (m652 26) := by rw [em653]; exact sf_kn1
                    have W658 : rf_W [0, 23, 24, 26, 27] m m652 := by rw [em653]; exact W633.put (by decide)
                    refine pm_R_lo pm_M252 (pc' := 95) rfl rfl rfl ?_
                    exact pm_R_ret pm_M252 (r := some (.int x4_628)) rfl (pm_ret_i _) (K x4_628 m652 w_628 h649 T650 F654 W658)
                  · have B659 : sf_B 0 15 x5_628 := sf_ltL (Int32.not_le.mp c648) Bx5_628 B647
                    have B660 : sf_B 1 16 z644 := sf_ltR (Int32.not_le.mp c648) Bx5_628 B647
                    refine pm_R_lo pm_M252 (pc' := 38) rfl rfl rfl ?_
                    refine pm_R_lo pm_M252 (pc' := 40) rfl rfl rfl ?_
                    refine rf_R_put pm_M252 T_628 (pc' := 43) rfl rfl rfl (by decide) rfl rfl B659 rfl rfl (fun h661 m664 em665 T662 F663 => ?_)
                    have F666 := F_628.trans F663 (by decide)
                    have B667 : sf_B 1 12 (m664 24) := by rw [em665]; exact B631
                    have B668 : sf_B 0 11 (m664 26) := by rw [em665]; exact B632
                    have B669 : sf_B 0 15 (m664 27) := by rw [em665]; exact B659
                    have ek670 : (m664 27).toInt = (x5_628).toInt := by rw [em665]; rfl
                    have W671 : rf_W [0, 23, 24, 26, 27] m m664 := by rw [em665]; exact W633.put (by decide)
                    have W672 : rf_W [27] m61 m664 := by rw [em665]; exact W_628.put (by decide)
                    refine pm_R_lo pm_M252 (pc' := 45) rfl rfl rfl ?_
                    refine pm_R_lo pm_M252 (pc' := 46) rfl rfl rfl ?_
                    refine rf_R_get pm_M252 T662 (pc' := 49) (v := .ref 53) rfl rfl rfl rfl ?_
                    refine pm_R_lo pm_M252 (pc' := 50) rfl rfl rfl ?_
                    obtain ⟨f673, e674⟩ := T662.2.2.2.1 53 (by decide) (by decide)
                    refine rf_R_ild pm_M252 T662 (pc' := 51) rfl e674 (by decide) (sf_in B57 (by decide) (by decide)) rfl (fun z676 ez677 => ?_)
                    refine sf_R_lany pm_M252 (pc' := 52) (st := [.int x4_628]) rfl rfl rfl (fun z678 => ?_)
                    refine pm_R_lo pm_M252 (pc' := 53) rfl rfl rfl ?_
                    refine pm_R_lo pm_M252 (pc' := 55) rfl rfl rfl ?_
                    refine pm_R_op pm_M252 (pc' := 56) (st' := [.int 0, .int x5_628, .ref 41, .long z678, .int x4_628]) rfl rfl rfl ?_
                    refine pm_R_cv pm_M252 (pc' := 59) (a := 41) (ra := [.int 0, .int x5_628]) (rest := [.long z678, .int x4_628]) (ls' := [.ref 41, .int x5_628, .int 0]) rfl rfl (Or.inl rfl) pm_M205 T662.2.1 rfl (by decide) (Nat.lt_of_lt_of_le (by decide) T662.1) rfl rfl (Nat.le_of_ble_eq_true rfl) rfl rfl ?_
                    refine pm_R_lo pm_M205 (pc' := 1) rfl rfl rfl ?_
                    refine rf_R_get pm_M205 T662 (pc' := 4) (v := .ref 47) rfl rfl rfl rfl ?_
                    refine pm_R_op pm_M205 (pc' := 6) (st' := [.int 100, .ref 47]) rfl rfl rfl ?_
                    refine pm_R_lo pm_M205 (pc' := 7) rfl rfl rfl ?_
                    have B679 : sf_B 0 1 (m664 23) := T662.2.2.1 23
                    refine rf_R_get pm_M205 T662 (pc' := 10) (v := .int (m664 23)) rfl rfl rfl rfl ?_
                    refine sf_R_imul pm_M205 (pc' := 11) rfl rfl sf_k100 B679 (by decide) (by decide) (by decide) (fun z680 e681 B682 => ?_)
                    refine pm_R_op pm_M205 (pc' := 13) (st' := [.int 42, .int z680, .ref 47]) rfl rfl rfl ?_
                    refine sf_R_iadd pm_M205 (pc' := 14) rfl rfl B682 sf_k42 (by decide) (by decide) (fun z683 e684 B685 => ?_)
                    refine pm_R_op pm_M205 (pc' := 15) (st' := [.int 3, .int z683, .ref 47]) rfl rfl rfl ?_
                    refine pm_R_lo pm_M205 (pc' := 16) rfl rfl rfl ?_
                    refine sf_R_imul pm_M205 (pc' := 17) rfl rfl sf_k3 B659 (by decide) (by decide) (by decide) (fun z686 e687 B688 => ?_)
                    refine sf_R_iadd pm_M205 (pc' := 18) rfl rfl B685 B688 (by decide) (by decide) (fun z689 e690 B691 => ?_)
                    refine pm_R_lo pm_M205 (pc' := 19) rfl rfl rfl ?_
                    refine sf_R_iadd pm_M205 (pc' := 20) rfl rfl B691 sf_k0 (by decide) (by decide) (fun z692 e693 B694 => ?_)
                    have e695 := (F663.cell (by decide) e642)
                    refine rf_R_ild pm_M205 T662 (pc' := 21) rfl e695 (by decide) (sf_in B694 (by decide) (by decide)) rfl (fun z696 ez697 => ?_)
                    have e698 : (z692).toInt = 100 * ((m664 23)).toInt + 3 * (x5_628).toInt + 42 := by
                      have q0 := e681
                      have q1 := e684
                      have q2 := e687
                      have q3 := e690
                      have q4 := e693
                      simp only [(show (0 : Int32).toInt = 0 from rfl), (show (3 : Int32).toInt = 3 from rfl), (show (42 : Int32).toInt = 42 from rfl), (show (100 : Int32).toInt = 100 from rfl)] at q0 q1 q2 q3 q4
                      omega
                    have B699 : sf_B 0 9 z696 := ez697 ▸ rf_p47s b643 e698 B679 B659 (by decide) (by decide) (by decide)
                    refine pm_R_ret pm_M205 (r := some (.int z696)) rfl (pm_ret_i _) ?_
                    show pm_R _ 252 59 [.ref 41, .int a0, .int a1, .int a2, .int x4_628, .int x5_628] [.int z696, .long z678, .int x4_628] _ _
                    refine pm_R_cs pm_M252 (pc' := 62) (ra := [.int z696, .long z678]) (rest := [.int x4_628]) (ls' := [.long z678, pm_no, .int z696]) rfl rfl (Or.inl rfl) pm_M206 rfl rfl (Nat.le_of_ble_eq_true rfl) rfl rfl ?_
                    refine pm_R_lo pm_M206 (pc' := 1) rfl rfl rfl ?_
                    refine pm_R_lo pm_M206 (pc' := 2) rfl rfl rfl ?_
                    refine sf_R_lany pm_M206 (pc' := 3) (st := []) rfl rfl rfl (fun z700 => ?_)
                    refine pm_R_op pm_M206 (pc' := 4) (st' := [.long 1, .long z700]) rfl rfl rfl ?_
                    refine sf_R_lany pm_M206 (pc' := 5) (st := []) rfl rfl rfl (fun z701 => ?_)
                    refine pm_R_op pm_M206 (pc' := 6) (st' := [.long 1, .long z701]) rfl rfl rfl ?_
                    refine sf_R_lcmp pm_M206 (pc' := 7) rfl rfl (fun z702 e703 => ?_)
                    refine pm_R_ifc pm_M206 (t := 14) (pc' := 10) rfl rfl rfl (fun c704 => ?_) (fun c704 => ?_)
                    · have k705 := sf_lneC e703 c704
                      refine pm_R_op pm_M206 (pc' := 15) (st' := [.int 0]) rfl rfl rfl ?_
                      refine pm_R_ret pm_M206 (r := some (.int 0)) rfl rfl ?_
                      show pm_R _ 252 62 [.ref 41, .int a0, .int a1, .int a2, .int x4_628, .int x5_628] [.int 0, .int x4_628] _ _
                      refine pm_R_br pm_M252 (pc' := 78) (st' := [.int x4_628]) rfl rfl ?_
                      refine pm_R_op pm_M252 (pc' := 79) (st' := [.int 0, .int x4_628]) rfl rfl rfl ?_
                      refine sf_R_iadd pm_M252 (pc' := 80) rfl rfl Bx4_628 sf_k0 (by decide) (by decide) (fun z706 e707 B708 => ?_)
                      refine pm_R_lo pm_M252 (pc' := 82) (ls' := [.ref 41, .int a0, .int a1, .int a2, .int z706, .int x5_628]) (st' := []) rfl rfl rfl ?_
                      refine sf_R_iinc pm_M252 (pc' := 85) (ls' := fun z => [.ref 41, .int a0, .int a1, .int a2, .int z706, .int z]) rfl B659 rfl (by decide) (by decide) (by decide) (fun _ => rfl) rfl (fun z709 e710 B711 => ?_)
                      show pm_R _ 252 85 [.ref 41, .int a0, .int a1, .int a2, .int z706, .int z709] [] _ _
                      refine pm_R_br pm_M252 (pc' := 28) rfl rfl ?_
                      exact ih_628 _ (sf_up hN_628 e710 B659 (by decide) (by decide)) h661 m664 w_628 z706 z709 T662 F666 W672 B708 (sf_weak B711 (by decide) (by decide)) rfl
                    · have B712 : sf_B 0 0 z702 := sf_eqL (Classical.not_not.mp c704) sf_k0
                      refine pm_R_op pm_M206 (pc' := 11) (st' := [.int 1]) rfl rfl rfl ?_
                      refine pm_R_br pm_M206 (pc' := 15) rfl rfl ?_
                      refine pm_R_ret pm_M206 (r := some (.int 1)) rfl rfl ?_
                      show pm_R _ 252 62 [.ref 41, .int a0, .int a1, .int a2, .int x4_628, .int x5_628] [.int 1, .int x4_628] _ _
                      refine pm_R_br pm_M252 (pc' := 65) (st' := [.int x4_628]) rfl rfl ?_
                      refine pm_R_lo pm_M252 (pc' := 66) rfl rfl rfl ?_
                      refine pm_R_cv pm_M252 (pc' := 69) (a := 41) (ra := []) (rest := [.int x4_628]) (ls' := [.ref 41]) rfl rfl (Or.inl rfl) pm_M215 T662.2.1 rfl (by decide) (Nat.lt_of_lt_of_le (by decide) T662.1) rfl rfl (Nat.le_of_ble_eq_true rfl) rfl rfl ?_
                      refine rf_c215 (d := d + 0) T662 B667 (fun r713 m715 w716 h717 T718 F719 W720 => ?_)
                      have F721 := F666.trans F719 (by decide)
                      have B722 : sf_B 1 12 (m715 24) := by rw [W720 24 (by decide)]; exact B667
                      have B723 : sf_B 0 11 (m715 26) := by rw [W720 26 (by decide)]; exact B668
                      have W724 : rf_W [0, 23, 24, 26, 27] m m715 := W671.trans W720 (by decide)
                      have W725 : rf_W [27] m61 m715 := W672.trans W720 (by decide)
                      show pm_R _ 252 69 [.ref 41, .int a0, .int a1, .int a2, .int x4_628, .int x5_628] [.long r713, .int x4_628] _ _
                      refine pm_R_op pm_M252 (pc' := 70) (st' := [.long 0, .long r713, .int x4_628]) rfl rfl rfl ?_
                      refine sf_R_lcmp pm_M252 (pc' := 71) rfl rfl (fun z726 e727 => ?_)
                      refine pm_R_ifc pm_M252 (t := 78) (pc' := 74) rfl rfl rfl (fun c728 => ?_) (fun c728 => ?_)
                      · have B729 : sf_B 0 0 z726 := sf_eqL c728 sf_k0
                        refine pm_R_op pm_M252 (pc' := 79) (st' := [.int 0, .int x4_628]) rfl rfl rfl ?_
                        refine sf_R_iadd pm_M252 (pc' := 80) rfl rfl Bx4_628 sf_k0 (by decide) (by decide) (fun z730 e731 B732 => ?_)
                        refine pm_R_lo pm_M252 (pc' := 82) (ls' := [.ref 41, .int a0, .int a1, .int a2, .int z730, .int x5_628]) (st' := []) rfl rfl rfl ?_
                        refine sf_R_iinc pm_M252 (pc' := 85) (ls' := fun z => [.ref 41, .int a0, .int a1, .int a2, .int z730, .int z]) rfl B659 rfl (by decide) (by decide) (by decide) (fun _ => rfl) rfl (fun z733 e734 B735 => ?_)
                        show pm_R _ 252 85 [.ref 41, .int a0, .int a1, .int a2, .int z730, .int z733] [] _ _
                        refine pm_R_br pm_M252 (pc' := 28) rfl rfl ?_
                        exact ih_628 _ (sf_up hN_628 e734 B659 (by decide) (by decide)) h717 m715 w716 z730 z733 T718 F721 W725 B732 (sf_weak B735 (by decide) (by decide)) rfl
                      · have k736 := sf_lneC e727 c728
                        refine pm_R_op pm_M252 (pc' := 75) (st' := [.int 1, .int x4_628]) rfl rfl rfl ?_
                        refine pm_R_br pm_M252 (pc' := 79) rfl rfl ?_
                        refine sf_R_iany pm_M252 (pc' := 80) (st := []) rfl rfl rfl (fun z740 => ?_)
                        refine pm_R_lo pm_M252 (pc' := 82) (ls' := [.ref 41, .int a0, .int a1, .int a2, .int z740, .int x5_628]) (st' := []) rfl rfl rfl ?_
                        refine sf_R_iinc pm_M252 (pc' := 85) (ls' := fun z => [.ref 41, .int a0, .int a1, .int a2, .int z740, .int z]) rfl B659 rfl (by decide) (by decide) (by decide) (fun _ => rfl) rfl (fun z741 e742 B743 => ?_)
                        show pm_R _ 252 85 [.ref 41, .int a0, .int a1, .int a2, .int z740, .int z741] [] _ _
                        refine pm_R_br pm_M252 (pc' := 28) rfl rfl ?_
                        exact ih_628 _ (sf_up hN_628 e742 B659 (by decide) (by decide)) h717 m715 w716 z740 z741 T718 F721 W725 (sf_any z740) (sf_weak B743 (by decide) (by decide)) rfl
              exact L_628 _ h58 m61 w41 0 0 T59 F63 (rf_W.refl _ _) (sf_weak sf_k0 (by decide) (by decide)) (sf_weak sf_k0 (by decide) (by decide)) rfl

set_option maxRecDepth 100000 in
set_option maxHeartbeats 4000000 in
/-- SilentTableModel.reaches -/
theorem rf_c268 {d : Nat} {m : Nat → Int32} {w : Int64} {h : pm_H} {Q : Option Value → pm_H → Prop} {a0 : Int32} {a1 : Int32} {a2 : Int32} {a3 : Int32} {a4 : Int32} (T : rf_T m w h)  (K : ∀ (r : Int32) (m' : Nat → Int32) (w' : Int64) (h' : pm_H), rf_T m' w' h' → rf_G [41, 53, 54, 67, 68] h h' → rf_W [0, 23, 24, 26, 42, 43, 44] m m' → sf_B 0 1 r → Q (some (.int r)) h') : pm_R (d + 8) 268 0 [.ref 41, .int a0, .int a1, .int a2, .int a3, .int a4, pm_no] [] h Q := by
  refine pm_R_lo pm_M268 (pc' := 1) rfl rfl rfl ?_
  refine pm_R_op pm_M268 (pc' := 2) (st' := [.int 0, .ref 41]) rfl rfl rfl ?_
  refine rf_R_put pm_M268 T (pc' := 5) rfl rfl rfl (by decide) rfl rfl sf_k0 rfl rfl (fun h1 m4 em5 T2 F3 => ?_)
  have F6 := (rf_G.refl [41, 53, 54, 67, 68] h).trans F3 (by decide)
  have B7 : sf_B 0 0 (m4 0) := by rw [em5]; exact sf_k0
  have W9 : rf_W [0, 23, 24, 26, 42, 43, 44] m m4 := by rw [em5]; exact (rf_W.refl [0, 23, 24, 26, 42, 43, 44] m).put (by decide)
  refine pm_R_lo pm_M268 (pc' := 6) rfl rfl rfl ?_
  refine pm_R_lo pm_M268 (pc' := 7) rfl rfl rfl ?_
  refine pm_R_lo pm_M268 (pc' := 9) rfl rfl rfl ?_
  refine pm_R_lo pm_M268 (pc' := 11) rfl rfl rfl ?_
  refine pm_R_cv pm_M268 (pc' := 14) (a := 41) (ra := [.int a4, .int a3, .int a2]) (rest := []) (ls' := [.ref 41, .int a2, .int a3, .int a4, pm_no, pm_no, pm_no, pm_no, pm_no]) rfl rfl (Or.inl rfl) pm_M266 T2.2.1 rfl (by decide) (Nat.lt_of_lt_of_le (by decide) T2.1) rfl rfl (Nat.le_of_ble_eq_true rfl) rfl rfl ?_
  refine rf_c266 (d := d + 4) T2  (fun r10 m12 w13 h14 T15 F16 W17 B11 => ?_)
  have F18 := F6.trans F16 (by decide)
  have W19 : rf_W [0, 23, 24, 26, 42, 43, 44] m m12 := W9.trans W17 (by decide)
  show pm_R _ 268 14 [.ref 41, .int a0, .int a1, .int a2, .int a3, .int a4, pm_no] [.int r10] _ _
  refine pm_R_lo pm_M268 (pc' := 16) (ls' := [.ref 41, .int a0, .int a1, .int a2, .int a3, .int a4, .int r10]) (st' := []) rfl rfl rfl ?_
  refine pm_R_lo pm_M268 (pc' := 18) rfl rfl rfl ?_
  refine pm_R_op pm_M268 (pc' := 19) (st' := [.int (-1), .int r10]) rfl rfl rfl ?_
  refine pm_R_icmp pm_M268 (t := 46) (pc' := 22) rfl rfl rfl (fun c20 => ?_) (fun c20 => ?_)
  · have B21 : sf_B (-1) (-1) r10 := sf_eqL c20 sf_kn1
    refine pm_R_op pm_M268 (pc' := 47) (st' := [.int 0]) rfl rfl rfl ?_
    exact pm_R_ret pm_M268 (r := some (.int 0)) rfl rfl (K 0 m12 w13 h14 T15 F18 W19 (sf_weak sf_k0 (by decide) (by decide)))
  · have B22 : sf_B 0 5 r10 := sf_neL0 c20 sf_kn1 B11
    refine pm_R_lo pm_M268 (pc' := 23) rfl rfl rfl ?_
    refine pm_R_lo pm_M268 (pc' := 24) rfl rfl rfl ?_
    refine pm_R_lo pm_M268 (pc' := 25) rfl rfl rfl ?_
    refine pm_R_cv pm_M268 (pc' := 28) (a := 41) (ra := [.int a1, .int a0]) (rest := []) (ls' := [.ref 41, .int a0, .int a1]) rfl rfl (Or.inl rfl) pm_M200 T15.2.1 rfl (by decide) (Nat.lt_of_lt_of_le (by decide) T15.1) rfl rfl (Nat.le_of_ble_eq_true rfl) rfl rfl ?_
    refine pm_R_lo pm_M200 (pc' := 1) rfl rfl rfl ?_
    refine pm_R_op pm_M200 (pc' := 2) (st' := [.int 0, .ref 41]) rfl rfl rfl ?_
    refine pm_R_lo pm_M200 (pc' := 3) rfl rfl rfl ?_
    refine pm_R_cv pm_M200 (pc' := 6) (a := 41) (ra := [.int a0, .int 0]) (rest := []) (ls' := [.ref 41, .int 0, .int a0]) rfl rfl (Or.inl rfl) pm_M177 T15.2.1 rfl (by decide) (Nat.lt_of_lt_of_le (by decide) T15.1) rfl rfl (Nat.le_of_ble_eq_true rfl) rfl rfl ?_
    refine pm_R_lo pm_M177 (pc' := 1) rfl rfl rfl ?_
    refine pm_R_op pm_M177 (pc' := 2) (st' := [.int 0, .int a0]) rfl rfl rfl ?_
    refine pm_R_lo pm_M177 (pc' := 3) rfl rfl rfl ?_
    refine rf_R_get pm_M177 T15 (pc' := 6) (v := .ref 46) rfl rfl rfl rfl ?_
    refine pm_R_lo pm_M177 (pc' := 7) rfl rfl rfl ?_
    obtain ⟨f23, e24, b25⟩ := T15.2.2.2.1 46 (by decide) (by decide)
    refine rf_R_ild pm_M177 T15 (pc' := 8) rfl e24 (by decide) rfl rfl (fun z26 ez27 => ?_)
    have B28 : sf_B 0 2 z26 := ez27 ▸ (b25 0)
    refine pm_R_op pm_M177 (pc' := 9) (st' := [.int 1, .int z26, .int 0, .int a0]) rfl rfl rfl ?_
    refine sf_R_isub pm_M177 (pc' := 10) rfl rfl B28 sf_k1 (by decide) (by decide) (fun z29 e30 B31 => ?_)
    refine pm_R_cs pm_M177 (pc' := 13) (ra := [.int z29, .int 0, .int a0]) (rest := []) (ls' := [.int a0, .int 0, .int z29]) rfl rfl (Or.inl rfl) pm_M174 rfl rfl (Nat.le_of_ble_eq_true rfl) rfl rfl ?_
    refine pm_R_lo pm_M174 (pc' := 1) rfl rfl rfl ?_
    refine pm_R_lo pm_M174 (pc' := 2) rfl rfl rfl ?_
    refine pm_R_icmp pm_M174 (t := 14) (pc' := 5) rfl rfl rfl (fun c32 => ?_) (fun c32 => ?_)
    · have B33 : sf_B (-2147483648) (-1) a0 := sf_ltL c32 (sf_any a0) sf_k0
      refine pm_R_op pm_M174 (pc' := 15) (st' := [.int 0]) rfl rfl rfl ?_
      refine pm_R_ret pm_M174 (r := some (.int 0)) rfl rfl ?_
      show pm_R _ 177 13 [.ref 41, .int 0, .int a0] [.int 0] _ _
      refine pm_R_ret pm_M177 (r := some (.int 0)) rfl rfl ?_
      show pm_R _ 200 6 [.ref 41, .int a0, .int a1] [.int 0] _ _
      refine pm_R_br pm_M200 (pc' := 18) (st' := []) rfl rfl ?_
      refine pm_R_op pm_M200 (pc' := 19) (st' := [.int 0]) rfl rfl rfl ?_
      refine pm_R_ret pm_M200 (r := some (.int 0)) rfl rfl ?_
      show pm_R _ 268 28 [.ref 41, .int a0, .int a1, .int a2, .int a3, .int a4, .int r10] [.int 0] _ _
      refine pm_R_br pm_M268 (pc' := 46) (st' := []) rfl rfl ?_
      refine pm_R_op pm_M268 (pc' := 47) (st' := [.int 0]) rfl rfl rfl ?_
      exact pm_R_ret pm_M268 (r := some (.int 0)) rfl rfl (K 0 m12 w13 h14 T15 F18 W19 (sf_weak sf_k0 (by decide) (by decide)))
    · have B34 : sf_B 0 2147483647 a0 := sf_leR (Int32.not_lt.mp c32) sf_k0 (sf_any a0)
      refine pm_R_lo pm_M174 (pc' := 6) rfl rfl rfl ?_
      refine pm_R_lo pm_M174 (pc' := 7) rfl rfl rfl ?_
      refine pm_R_icmp pm_M174 (t := 14) (pc' := 10) rfl rfl rfl (fun c35 => ?_) (fun c35 => ?_)
      · skip
        refine pm_R_op pm_M174 (pc' := 15) (st' := [.int 0]) rfl rfl rfl ?_
        refine pm_R_ret pm_M174 (r := some (.int 0)) rfl rfl ?_
        show pm_R _ 177 13 [.ref 41, .int 0, .int a0] [.int 0] _ _
        refine pm_R_ret pm_M177 (r := some (.int 0)) rfl rfl ?_
        show pm_R _ 200 6 [.ref 41, .int a0, .int a1] [.int 0] _ _
        refine pm_R_br pm_M200 (pc' := 18) (st' := []) rfl rfl ?_
        refine pm_R_op pm_M200 (pc' := 19) (st' := [.int 0]) rfl rfl rfl ?_
        refine pm_R_ret pm_M200 (r := some (.int 0)) rfl rfl ?_
        show pm_R _ 268 28 [.ref 41, .int a0, .int a1, .int a2, .int a3, .int a4, .int r10] [.int 0] _ _
        refine pm_R_br pm_M268 (pc' := 46) (st' := []) rfl rfl ?_
        refine pm_R_op pm_M268 (pc' := 47) (st' := [.int 0]) rfl rfl rfl ?_
        exact pm_R_ret pm_M268 (r := some (.int 0)) rfl rfl (K 0 m12 w13 h14 T15 F18 W19 (sf_weak sf_k0 (by decide) (by decide)))
      · have B36 : sf_B 0 1 a0 := sf_leL (Int32.not_lt.mp c35) B34 B31
        have B37 : sf_B 0 1 z29 := sf_leR (Int32.not_lt.mp c35) B34 B31
        refine pm_R_op pm_M174 (pc' := 11) (st' := [.int 1]) rfl rfl rfl ?_
        refine pm_R_br pm_M174 (pc' := 15) rfl rfl ?_
        refine pm_R_ret pm_M174 (r := some (.int 1)) rfl rfl ?_
        show pm_R _ 177 13 [.ref 41, .int 0, .int a0] [.int 1] _ _
        refine pm_R_ret pm_M177 (r := some (.int 1)) rfl rfl ?_
        show pm_R _ 200 6 [.ref 41, .int a0, .int a1] [.int 1] _ _
        refine pm_R_br pm_M200 (pc' := 9) (st' := []) rfl rfl ?_
        refine pm_R_lo pm_M200 (pc' := 10) rfl rfl rfl ?_
        refine pm_R_op pm_M200 (pc' := 11) (st' := [.int 1, .ref 41]) rfl rfl rfl ?_
        refine pm_R_lo pm_M200 (pc' := 12) rfl rfl rfl ?_
        refine pm_R_cv pm_M200 (pc' := 15) (a := 41) (ra := [.int a1, .int 1]) (rest := []) (ls' := [.ref 41, .int 1, .int a1]) rfl rfl (Or.inl rfl) pm_M177 T15.2.1 rfl (by decide) (Nat.lt_of_lt_of_le (by decide) T15.1) rfl rfl (Nat.le_of_ble_eq_true rfl) rfl rfl ?_
        refine pm_R_lo pm_M177 (pc' := 1) rfl rfl rfl ?_
        refine pm_R_op pm_M177 (pc' := 2) (st' := [.int 0, .int a1]) rfl rfl rfl ?_
        refine pm_R_lo pm_M177 (pc' := 3) rfl rfl rfl ?_
        refine rf_R_get pm_M177 T15 (pc' := 6) (v := .ref 46) rfl rfl rfl rfl ?_
        refine pm_R_lo pm_M177 (pc' := 7) rfl rfl rfl ?_
        refine rf_R_ild pm_M177 T15 (pc' := 8) rfl e24 (by decide) rfl rfl (fun z38 ez39 => ?_)
        have B40 : sf_B 0 3 z38 := ez39 ▸ (b25 1)
        refine pm_R_op pm_M177 (pc' := 9) (st' := [.int 1, .int z38, .int 0, .int a1]) rfl rfl rfl ?_
        refine sf_R_isub pm_M177 (pc' := 10) rfl rfl B40 sf_k1 (by decide) (by decide) (fun z41 e42 B43 => ?_)
        refine pm_R_cs pm_M177 (pc' := 13) (ra := [.int z41, .int 0, .int a1]) (rest := []) (ls' := [.int a1, .int 0, .int z41]) rfl rfl (Or.inl rfl) pm_M174 rfl rfl (Nat.le_of_ble_eq_true rfl) rfl rfl ?_
        refine pm_R_lo pm_M174 (pc' := 1) rfl rfl rfl ?_
        refine pm_R_lo pm_M174 (pc' := 2) rfl rfl rfl ?_
        refine pm_R_icmp pm_M174 (t := 14) (pc' := 5) rfl rfl rfl (fun c44 => ?_) (fun c44 => ?_)
        · have B45 : sf_B (-2147483648) (-1) a1 := sf_ltL c44 (sf_any a1) sf_k0
          refine pm_R_op pm_M174 (pc' := 15) (st' := [.int 0]) rfl rfl rfl ?_
          refine pm_R_ret pm_M174 (r := some (.int 0)) rfl rfl ?_
          show pm_R _ 177 13 [.ref 41, .int 1, .int a1] [.int 0] _ _
          refine pm_R_ret pm_M177 (r := some (.int 0)) rfl rfl ?_
          show pm_R _ 200 15 [.ref 41, .int a0, .int a1] [.int 0] _ _
          refine pm_R_br pm_M200 (pc' := 18) (st' := []) rfl rfl ?_
          refine pm_R_op pm_M200 (pc' := 19) (st' := [.int 0]) rfl rfl rfl ?_
          refine pm_R_ret pm_M200 (r := some (.int 0)) rfl rfl ?_
          show pm_R _ 268 28 [.ref 41, .int a0, .int a1, .int a2, .int a3, .int a4, .int r10] [.int 0] _ _
          refine pm_R_br pm_M268 (pc' := 46) (st' := []) rfl rfl ?_
          refine pm_R_op pm_M268 (pc' := 47) (st' := [.int 0]) rfl rfl rfl ?_
          exact pm_R_ret pm_M268 (r := some (.int 0)) rfl rfl (K 0 m12 w13 h14 T15 F18 W19 (sf_weak sf_k0 (by decide) (by decide)))
        · have B46 : sf_B 0 2147483647 a1 := sf_leR (Int32.not_lt.mp c44) sf_k0 (sf_any a1)
          refine pm_R_lo pm_M174 (pc' := 6) rfl rfl rfl ?_
          refine pm_R_lo pm_M174 (pc' := 7) rfl rfl rfl ?_
          refine pm_R_icmp pm_M174 (t := 14) (pc' := 10) rfl rfl rfl (fun c47 => ?_) (fun c47 => ?_)
          · skip
            refine pm_R_op pm_M174 (pc' := 15) (st' := [.int 0]) rfl rfl rfl ?_
            refine pm_R_ret pm_M174 (r := some (.int 0)) rfl rfl ?_
            show pm_R _ 177 13 [.ref 41, .int 1, .int a1] [.int 0] _ _
            refine pm_R_ret pm_M177 (r := some (.int 0)) rfl rfl ?_
            show pm_R _ 200 15 [.ref 41, .int a0, .int a1] [.int 0] _ _
            refine pm_R_br pm_M200 (pc' := 18) (st' := []) rfl rfl ?_
            refine pm_R_op pm_M200 (pc' := 19) (st' := [.int 0]) rfl rfl rfl ?_
            refine pm_R_ret pm_M200 (r := some (.int 0)) rfl rfl ?_
            show pm_R _ 268 28 [.ref 41, .int a0, .int a1, .int a2, .int a3, .int a4, .int r10] [.int 0] _ _
            refine pm_R_br pm_M268 (pc' := 46) (st' := []) rfl rfl ?_
            refine pm_R_op pm_M268 (pc' := 47) (st' := [.int 0]) rfl rfl rfl ?_
            exact pm_R_ret pm_M268 (r := some (.int 0)) rfl rfl (K 0 m12 w13 h14 T15 F18 W19 (sf_weak sf_k0 (by decide) (by decide)))
          · have V48 := rf_V.mk e24 ez39 e42 (Int32.not_lt.mp c47) B46 (by decide)
            have V48 := V48.back F18 (by decide)
            have B49 : sf_B 0 2 a1 := sf_leL (Int32.not_lt.mp c47) B46 B43
            have B50 : sf_B 0 2 z41 := sf_leR (Int32.not_lt.mp c47) B46 B43
            refine pm_R_op pm_M174 (pc' := 11) (st' := [.int 1]) rfl rfl rfl ?_
            refine pm_R_br pm_M174 (pc' := 15) rfl rfl ?_
            refine pm_R_ret pm_M174 (r := some (.int 1)) rfl rfl ?_
            show pm_R _ 177 13 [.ref 41, .int 1, .int a1] [.int 1] _ _
            refine pm_R_ret pm_M177 (r := some (.int 1)) rfl rfl ?_
            show pm_R _ 200 15 [.ref 41, .int a0, .int a1] [.int 1] _ _
            refine pm_R_br pm_M200 (pc' := 20) (st' := []) rfl rfl ?_
            refine pm_R_lo pm_M200 (pc' := 21) rfl rfl rfl ?_
            refine pm_R_lo pm_M200 (pc' := 22) rfl rfl rfl ?_
            refine pm_R_lo pm_M200 (pc' := 23) rfl rfl rfl ?_
            refine pm_R_cv pm_M200 (pc' := 26) (a := 41) (ra := [.int a1, .int a0]) (rest := []) (ls' := [.ref 41, .int a0, .int a1, pm_no]) rfl rfl (Or.inl rfl) pm_M201 T15.2.1 rfl (by decide) (Nat.lt_of_lt_of_le (by decide) T15.1) rfl rfl (Nat.le_of_ble_eq_true rfl) rfl rfl ?_
            refine rf_c201 (d := d + 6) T15 B36 B49 (V48.F F18 (by decide)) (fun m53 w54 h55 T56 F57 W58 B59 => ?_)
            have F60 := F18.trans F57 (by decide)
            have W61 : rf_W [0, 23, 24, 26, 42, 43, 44] m m53 := W19.trans W58 (by decide)
            show pm_R _ 200 26 [.ref 41, .int a0, .int a1] [] _ _
            refine pm_R_op pm_M200 (pc' := 27) (st' := [.int 1]) rfl rfl rfl ?_
            refine pm_R_ret pm_M200 (r := some (.int 1)) rfl rfl ?_
            show pm_R _ 268 28 [.ref 41, .int a0, .int a1, .int a2, .int a3, .int a4, .int r10] [.int 1] _ _
            refine pm_R_br pm_M268 (pc' := 31) (st' := []) rfl rfl ?_
            refine pm_R_lo pm_M268 (pc' := 32) rfl rfl rfl ?_
            refine pm_R_lo pm_M268 (pc' := 34) rfl rfl rfl ?_
            refine pm_R_op pm_M268 (pc' := 35) (st' := [.int 1, .int r10, .ref 41]) rfl rfl rfl ?_
            refine sf_R_isub pm_M268 (pc' := 36) rfl rfl B22 sf_k1 (by decide) (by decide) (fun z62 e63 B64 => ?_)
            refine pm_R_cv pm_M268 (pc' := 39) (a := 41) (ra := [.int z62]) (rest := []) (ls' := [.ref 41, .int z62, pm_no, pm_no]) rfl rfl (Or.inl rfl) pm_M239 T56.2.1 rfl (by decide) (Nat.lt_of_lt_of_le (by decide) T56.1) rfl rfl (Nat.le_of_ble_eq_true rfl) rfl rfl ?_
            refine pm_R_lo pm_M239 (pc' := 1) rfl rfl rfl ?_
            refine pm_R_cv pm_M239 (pc' := 4) (a := 41) (ra := []) (rest := []) (ls' := [.ref 41]) rfl rfl (Or.inl rfl) pm_M215 T56.2.1 rfl (by decide) (Nat.lt_of_lt_of_le (by decide) T56.1) rfl rfl (Nat.le_of_ble_eq_true rfl) rfl rfl ?_
            refine rf_c215 (d := d + 1) T56 B59 (fun r65 m67 w68 h69 T70 F71 W72 => ?_)
            have F73 := F60.trans F71 (by decide)
            have B74 : sf_B 1 12 (m67 24) := by rw [W72 24 (by decide)]; exact B59
            have W75 : rf_W [0, 23, 24, 26, 42, 43, 44] m m67 := W61.trans W72 (by decide)
            show pm_R _ 239 4 [.ref 41, .int z62, pm_no, pm_no] [.long r65] _ _
            refine pm_R_lo pm_M239 (pc' := 5) (ls' := [.ref 41, .int z62, .long r65, pm_no]) (st' := []) rfl rfl rfl ?_
            refine pm_R_lo pm_M239 (pc' := 6) rfl rfl rfl ?_
            refine pm_R_op pm_M239 (pc' := 7) (st' := [.long 0, .long r65]) rfl rfl rfl ?_
            refine sf_R_lcmp pm_M239 (pc' := 8) rfl rfl (fun z76 e77 => ?_)
            refine pm_R_ifc pm_M239 (t := 25) (pc' := 11) rfl rfl rfl (fun c78 => ?_) (fun c78 => ?_)
            · have B79 : sf_B 0 0 z76 := sf_eqL c78 sf_k0
              refine pm_R_op pm_M239 (pc' := 26) (st' := [.int 0]) rfl rfl rfl ?_
              refine pm_R_ret pm_M239 (r := some (.int 0)) rfl rfl ?_
              show pm_R _ 268 39 [.ref 41, .int a0, .int a1, .int a2, .int a3, .int a4, .int r10] [.int 0] _ _
              refine pm_R_br pm_M268 (pc' := 46) (st' := []) rfl rfl ?_
              refine pm_R_op pm_M268 (pc' := 47) (st' := [.int 0]) rfl rfl rfl ?_
              exact pm_R_ret pm_M268 (r := some (.int 0)) rfl rfl (K 0 m67 w68 h69 T70 F73 W75 (sf_weak sf_k0 (by decide) (by decide)))
            · have k80 := sf_lneC e77 c78
              refine pm_R_lo pm_M239 (pc' := 12) rfl rfl rfl ?_
              refine pm_R_lo pm_M239 (pc' := 13) rfl rfl rfl ?_
              refine pm_R_cv pm_M239 (pc' := 16) (a := 41) (ra := [.int z62]) (rest := []) (ls' := [.ref 41, .int z62]) rfl rfl (Or.inl rfl) pm_M234 T70.2.1 rfl (by decide) (Nat.lt_of_lt_of_le (by decide) T70.1) rfl rfl (Nat.le_of_ble_eq_true rfl) rfl rfl ?_
              refine pm_R_lo pm_M234 (pc' := 1) rfl rfl rfl ?_
              refine pm_R_lo pm_M234 (pc' := 2) rfl rfl rfl ?_
              refine pm_R_cv pm_M234 (pc' := 5) (a := 41) (ra := [.int z62]) (rest := []) (ls' := [.ref 41, .int z62, pm_no, pm_no, pm_no, pm_no]) rfl rfl (Or.inl rfl) pm_M235 T70.2.1 rfl (by decide) (Nat.lt_of_lt_of_le (by decide) T70.1) rfl rfl (Nat.le_of_ble_eq_true rfl) rfl rfl ?_
              refine rf_c235 (d := d + 4) T70 (sf_weak B64 (by decide) (by decide)) (fun m83 w84 h85 T86 F87 W88 => ?_)
              have F89 := F73.trans F87 (by decide)
              have B90 : sf_B 1 12 (m83 24) := by rw [W88 24 (by decide)]; exact B74
              have W91 : rf_W [0, 23, 24, 26, 42, 43, 44] m m83 := W75.trans W88 (by decide)
              show pm_R _ 234 5 [.ref 41, .int z62] [] _ _
              refine pm_R_lo pm_M234 (pc' := 6) rfl rfl rfl ?_
              refine pm_R_cv pm_M234 (pc' := 9) (a := 41) (ra := []) (rest := []) (ls' := [.ref 41]) rfl rfl (Or.inl rfl) pm_M215 T86.2.1 rfl (by decide) (Nat.lt_of_lt_of_le (by decide) T86.1) rfl rfl (Nat.le_of_ble_eq_true rfl) rfl rfl ?_
              refine rf_c215 (d := d + 0) T86 B90 (fun r92 m94 w95 h96 T97 F98 W99 => ?_)
              have F100 := F89.trans F98 (by decide)
              have B101 : sf_B 1 12 (m94 24) := by rw [W99 24 (by decide)]; exact B90
              have W102 : rf_W [0, 23, 24, 26, 42, 43, 44] m m94 := W91.trans W99 (by decide)
              show pm_R _ 234 9 [.ref 41, .int z62] [.long r92] _ _
              refine pm_R_ret pm_M234 (r := some (.long r92)) rfl rfl ?_
              show pm_R _ 239 16 [.ref 41, .int z62, .long r65, pm_no] [.long r92] _ _
              refine pm_R_lo pm_M239 (pc' := 17) rfl rfl rfl ?_
              refine sf_R_lcmp pm_M239 (pc' := 18) rfl rfl (fun z103 e104 => ?_)
              refine pm_R_ifc pm_M239 (t := 25) (pc' := 21) rfl rfl rfl (fun c105 => ?_) (fun c105 => ?_)
              · have k106 := sf_lneC e104 c105
                refine pm_R_op pm_M239 (pc' := 26) (st' := [.int 0]) rfl rfl rfl ?_
                refine pm_R_ret pm_M239 (r := some (.int 0)) rfl rfl ?_
                show pm_R _ 268 39 [.ref 41, .int a0, .int a1, .int a2, .int a3, .int a4, .int r10] [.int 0] _ _
                refine pm_R_br pm_M268 (pc' := 46) (st' := []) rfl rfl ?_
                refine pm_R_op pm_M268 (pc' := 47) (st' := [.int 0]) rfl rfl rfl ?_
                exact pm_R_ret pm_M268 (r := some (.int 0)) rfl rfl (K 0 m94 w95 h96 T97 F100 W102 (sf_weak sf_k0 (by decide) (by decide)))
              · have B107 : sf_B 0 0 z103 := sf_eqL (Classical.not_not.mp c105) sf_k0
                refine pm_R_op pm_M239 (pc' := 22) (st' := [.int 1]) rfl rfl rfl ?_
                refine pm_R_br pm_M239 (pc' := 26) rfl rfl ?_
                refine pm_R_ret pm_M239 (r := some (.int 1)) rfl rfl ?_
                show pm_R _ 268 39 [.ref 41, .int a0, .int a1, .int a2, .int a3, .int a4, .int r10] [.int 1] _ _
                refine pm_R_br pm_M268 (pc' := 42) (st' := []) rfl rfl ?_
                refine pm_R_op pm_M268 (pc' := 43) (st' := [.int 1]) rfl rfl rfl ?_
                refine pm_R_br pm_M268 (pc' := 47) rfl rfl ?_
                exact pm_R_ret pm_M268 (r := some (.int 1)) rfl rfl (K 1 m94 w95 h96 T97 F100 W102 (sf_weak sf_k1 (by decide) (by decide)))

set_option maxRecDepth 100000 in
set_option maxHeartbeats 4000000 in
/-- SilentTableModel.drawn -/
theorem rf_c284 {d : Nat} {m : Nat → Int32} {w : Int64} {h : pm_H} {Q : Option Value → pm_H → Prop} {a0 : Int32} {a1 : Int32} {a2 : Int32} {a3 : Int32} {a4 : Int32} (T : rf_T m w h)  (K : ∀ (r : Int32) (m' : Nat → Int32) (w' : Int64) (h' : pm_H), rf_T m' w' h' → rf_G [41, 53, 70] h h' → rf_W [0, 23, 24, 26, 50] m m' → sf_B (-1) 9 r → Q (some (.int r)) h') : pm_R (d + 3) 284 0 [.ref 41, .int a0, .int a1, .int a2, .int a3, .int a4, pm_no, pm_no] [] h Q := by
  refine pm_R_lo pm_M284 (pc' := 1) rfl rfl rfl ?_
  refine pm_R_op pm_M284 (pc' := 2) (st' := [.int 0, .ref 41]) rfl rfl rfl ?_
  refine rf_R_put pm_M284 T (pc' := 5) rfl rfl rfl (by decide) rfl rfl sf_k0 rfl rfl (fun h1 m4 em5 T2 F3 => ?_)
  have F6 := (rf_G.refl [41, 53, 70] h).trans F3 (by decide)
  have B7 : sf_B 0 0 (m4 0) := by rw [em5]; exact sf_k0
  have W9 : rf_W [0, 23, 24, 26, 50] m m4 := by rw [em5]; exact (rf_W.refl [0, 23, 24, 26, 50] m).put (by decide)
  refine pm_R_lo pm_M284 (pc' := 6) rfl rfl rfl ?_
  refine pm_R_op pm_M284 (pc' := 7) (st' := [.int 0, .int a2]) rfl rfl rfl ?_
  refine pm_R_op pm_M284 (pc' := 9) (st' := [.int 9, .int 0, .int a2]) rfl rfl rfl ?_
  refine pm_R_cs pm_M284 (pc' := 12) (ra := [.int 9, .int 0, .int a2]) (rest := []) (ls' := [.int a2, .int 0, .int 9]) rfl rfl (Or.inl rfl) pm_M174 rfl rfl (Nat.le_of_ble_eq_true rfl) rfl rfl ?_
  refine pm_R_lo pm_M174 (pc' := 1) rfl rfl rfl ?_
  refine pm_R_lo pm_M174 (pc' := 2) rfl rfl rfl ?_
  refine pm_R_icmp pm_M174 (t := 14) (pc' := 5) rfl rfl rfl (fun c10 => ?_) (fun c10 => ?_)
  · have B11 : sf_B (-2147483648) (-1) a2 := sf_ltL c10 (sf_any a2) sf_k0
    refine pm_R_op pm_M174 (pc' := 15) (st' := [.int 0]) rfl rfl rfl ?_
    refine pm_R_ret pm_M174 (r := some (.int 0)) rfl rfl ?_
    show pm_R _ 284 12 [.ref 41, .int a0, .int a1, .int a2, .int a3, .int a4, pm_no, pm_no] [.int 0] _ _
    refine pm_R_br pm_M284 (pc' := 39) (st' := []) rfl rfl ?_
    refine pm_R_op pm_M284 (pc' := 40) (st' := [.int (-1)]) rfl rfl rfl ?_
    exact pm_R_ret pm_M284 (r := some (.int (-1))) rfl rfl (K (-1) m4 w h1 T2 F6 W9 (sf_weak sf_kn1 (by decide) (by decide)))
  · have B12 : sf_B 0 2147483647 a2 := sf_leR (Int32.not_lt.mp c10) sf_k0 (sf_any a2)
    refine pm_R_lo pm_M174 (pc' := 6) rfl rfl rfl ?_
    refine pm_R_lo pm_M174 (pc' := 7) rfl rfl rfl ?_
    refine pm_R_icmp pm_M174 (t := 14) (pc' := 10) rfl rfl rfl (fun c13 => ?_) (fun c13 => ?_)
    · have B14 : sf_B 10 2147483647 a2 := sf_ltR c13 sf_k9 B12
      refine pm_R_op pm_M174 (pc' := 15) (st' := [.int 0]) rfl rfl rfl ?_
      refine pm_R_ret pm_M174 (r := some (.int 0)) rfl rfl ?_
      show pm_R _ 284 12 [.ref 41, .int a0, .int a1, .int a2, .int a3, .int a4, pm_no, pm_no] [.int 0] _ _
      refine pm_R_br pm_M284 (pc' := 39) (st' := []) rfl rfl ?_
      refine pm_R_op pm_M284 (pc' := 40) (st' := [.int (-1)]) rfl rfl rfl ?_
      exact pm_R_ret pm_M284 (r := some (.int (-1))) rfl rfl (K (-1) m4 w h1 T2 F6 W9 (sf_weak sf_kn1 (by decide) (by decide)))
    · have B15 : sf_B 0 9 a2 := sf_leL (Int32.not_lt.mp c13) B12 sf_k9
      refine pm_R_op pm_M174 (pc' := 11) (st' := [.int 1]) rfl rfl rfl ?_
      refine pm_R_br pm_M174 (pc' := 15) rfl rfl ?_
      refine pm_R_ret pm_M174 (r := some (.int 1)) rfl rfl ?_
      show pm_R _ 284 12 [.ref 41, .int a0, .int a1, .int a2, .int a3, .int a4, pm_no, pm_no] [.int 1] _ _
      refine pm_R_br pm_M284 (pc' := 15) (st' := []) rfl rfl ?_
      refine pm_R_lo pm_M284 (pc' := 16) rfl rfl rfl ?_
      refine pm_R_lo pm_M284 (pc' := 17) rfl rfl rfl ?_
      refine pm_R_lo pm_M284 (pc' := 18) rfl rfl rfl ?_
      refine pm_R_cv pm_M284 (pc' := 21) (a := 41) (ra := [.int a1, .int a0]) (rest := []) (ls' := [.ref 41, .int a0, .int a1]) rfl rfl (Or.inl rfl) pm_M200 T2.2.1 rfl (by decide) (Nat.lt_of_lt_of_le (by decide) T2.1) rfl rfl (Nat.le_of_ble_eq_true rfl) rfl rfl ?_
      refine pm_R_lo pm_M200 (pc' := 1) rfl rfl rfl ?_
      refine pm_R_op pm_M200 (pc' := 2) (st' := [.int 0, .ref 41]) rfl rfl rfl ?_
      refine pm_R_lo pm_M200 (pc' := 3) rfl rfl rfl ?_
      refine pm_R_cv pm_M200 (pc' := 6) (a := 41) (ra := [.int a0, .int 0]) (rest := []) (ls' := [.ref 41, .int 0, .int a0]) rfl rfl (Or.inl rfl) pm_M177 T2.2.1 rfl (by decide) (Nat.lt_of_lt_of_le (by decide) T2.1) rfl rfl (Nat.le_of_ble_eq_true rfl) rfl rfl ?_
      refine pm_R_lo pm_M177 (pc' := 1) rfl rfl rfl ?_
      refine pm_R_op pm_M177 (pc' := 2) (st' := [.int 0, .int a0]) rfl rfl rfl ?_
      refine pm_R_lo pm_M177 (pc' := 3) rfl rfl rfl ?_
      refine rf_R_get pm_M177 T2 (pc' := 6) (v := .ref 46) rfl rfl rfl rfl ?_
      refine pm_R_lo pm_M177 (pc' := 7) rfl rfl rfl ?_
      obtain ⟨f16, e17, b18⟩ := T2.2.2.2.1 46 (by decide) (by decide)
      refine rf_R_ild pm_M177 T2 (pc' := 8) rfl e17 (by decide) rfl rfl (fun z19 ez20 => ?_)
      have B21 : sf_B 0 2 z19 := ez20 ▸ (b18 0)
      refine pm_R_op pm_M177 (pc' := 9) (st' := [.int 1, .int z19, .int 0, .int a0]) rfl rfl rfl ?_
      refine sf_R_isub pm_M177 (pc' := 10) rfl rfl B21 sf_k1 (by decide) (by decide) (fun z22 e23 B24 => ?_)
      refine pm_R_cs pm_M177 (pc' := 13) (ra := [.int z22, .int 0, .int a0]) (rest := []) (ls' := [.int a0, .int 0, .int z22]) rfl rfl (Or.inl rfl) pm_M174 rfl rfl (Nat.le_of_ble_eq_true rfl) rfl rfl ?_
      refine pm_R_lo pm_M174 (pc' := 1) rfl rfl rfl ?_
      refine pm_R_lo pm_M174 (pc' := 2) rfl rfl rfl ?_
      refine pm_R_icmp pm_M174 (t := 14) (pc' := 5) rfl rfl rfl (fun c25 => ?_) (fun c25 => ?_)
      · have B26 : sf_B (-2147483648) (-1) a0 := sf_ltL c25 (sf_any a0) sf_k0
        refine pm_R_op pm_M174 (pc' := 15) (st' := [.int 0]) rfl rfl rfl ?_
        refine pm_R_ret pm_M174 (r := some (.int 0)) rfl rfl ?_
        show pm_R _ 177 13 [.ref 41, .int 0, .int a0] [.int 0] _ _
        refine pm_R_ret pm_M177 (r := some (.int 0)) rfl rfl ?_
        show pm_R _ 200 6 [.ref 41, .int a0, .int a1] [.int 0] _ _
        refine pm_R_br pm_M200 (pc' := 18) (st' := []) rfl rfl ?_
        refine pm_R_op pm_M200 (pc' := 19) (st' := [.int 0]) rfl rfl rfl ?_
        refine pm_R_ret pm_M200 (r := some (.int 0)) rfl rfl ?_
        show pm_R _ 284 21 [.ref 41, .int a0, .int a1, .int a2, .int a3, .int a4, pm_no, pm_no] [.int 0] _ _
        refine pm_R_br pm_M284 (pc' := 39) (st' := []) rfl rfl ?_
        refine pm_R_op pm_M284 (pc' := 40) (st' := [.int (-1)]) rfl rfl rfl ?_
        exact pm_R_ret pm_M284 (r := some (.int (-1))) rfl rfl (K (-1) m4 w h1 T2 F6 W9 (sf_weak sf_kn1 (by decide) (by decide)))
      · have B27 : sf_B 0 2147483647 a0 := sf_leR (Int32.not_lt.mp c25) sf_k0 (sf_any a0)
        refine pm_R_lo pm_M174 (pc' := 6) rfl rfl rfl ?_
        refine pm_R_lo pm_M174 (pc' := 7) rfl rfl rfl ?_
        refine pm_R_icmp pm_M174 (t := 14) (pc' := 10) rfl rfl rfl (fun c28 => ?_) (fun c28 => ?_)
        · skip
          refine pm_R_op pm_M174 (pc' := 15) (st' := [.int 0]) rfl rfl rfl ?_
          refine pm_R_ret pm_M174 (r := some (.int 0)) rfl rfl ?_
          show pm_R _ 177 13 [.ref 41, .int 0, .int a0] [.int 0] _ _
          refine pm_R_ret pm_M177 (r := some (.int 0)) rfl rfl ?_
          show pm_R _ 200 6 [.ref 41, .int a0, .int a1] [.int 0] _ _
          refine pm_R_br pm_M200 (pc' := 18) (st' := []) rfl rfl ?_
          refine pm_R_op pm_M200 (pc' := 19) (st' := [.int 0]) rfl rfl rfl ?_
          refine pm_R_ret pm_M200 (r := some (.int 0)) rfl rfl ?_
          show pm_R _ 284 21 [.ref 41, .int a0, .int a1, .int a2, .int a3, .int a4, pm_no, pm_no] [.int 0] _ _
          refine pm_R_br pm_M284 (pc' := 39) (st' := []) rfl rfl ?_
          refine pm_R_op pm_M284 (pc' := 40) (st' := [.int (-1)]) rfl rfl rfl ?_
          exact pm_R_ret pm_M284 (r := some (.int (-1))) rfl rfl (K (-1) m4 w h1 T2 F6 W9 (sf_weak sf_kn1 (by decide) (by decide)))
        · have B29 : sf_B 0 1 a0 := sf_leL (Int32.not_lt.mp c28) B27 B24
          have B30 : sf_B 0 1 z22 := sf_leR (Int32.not_lt.mp c28) B27 B24
          refine pm_R_op pm_M174 (pc' := 11) (st' := [.int 1]) rfl rfl rfl ?_
          refine pm_R_br pm_M174 (pc' := 15) rfl rfl ?_
          refine pm_R_ret pm_M174 (r := some (.int 1)) rfl rfl ?_
          show pm_R _ 177 13 [.ref 41, .int 0, .int a0] [.int 1] _ _
          refine pm_R_ret pm_M177 (r := some (.int 1)) rfl rfl ?_
          show pm_R _ 200 6 [.ref 41, .int a0, .int a1] [.int 1] _ _
          refine pm_R_br pm_M200 (pc' := 9) (st' := []) rfl rfl ?_
          refine pm_R_lo pm_M200 (pc' := 10) rfl rfl rfl ?_
          refine pm_R_op pm_M200 (pc' := 11) (st' := [.int 1, .ref 41]) rfl rfl rfl ?_
          refine pm_R_lo pm_M200 (pc' := 12) rfl rfl rfl ?_
          refine pm_R_cv pm_M200 (pc' := 15) (a := 41) (ra := [.int a1, .int 1]) (rest := []) (ls' := [.ref 41, .int 1, .int a1]) rfl rfl (Or.inl rfl) pm_M177 T2.2.1 rfl (by decide) (Nat.lt_of_lt_of_le (by decide) T2.1) rfl rfl (Nat.le_of_ble_eq_true rfl) rfl rfl ?_
          refine pm_R_lo pm_M177 (pc' := 1) rfl rfl rfl ?_
          refine pm_R_op pm_M177 (pc' := 2) (st' := [.int 0, .int a1]) rfl rfl rfl ?_
          refine pm_R_lo pm_M177 (pc' := 3) rfl rfl rfl ?_
          refine rf_R_get pm_M177 T2 (pc' := 6) (v := .ref 46) rfl rfl rfl rfl ?_
          refine pm_R_lo pm_M177 (pc' := 7) rfl rfl rfl ?_
          refine rf_R_ild pm_M177 T2 (pc' := 8) rfl e17 (by decide) rfl rfl (fun z31 ez32 => ?_)
          have B33 : sf_B 0 3 z31 := ez32 ▸ (b18 1)
          refine pm_R_op pm_M177 (pc' := 9) (st' := [.int 1, .int z31, .int 0, .int a1]) rfl rfl rfl ?_
          refine sf_R_isub pm_M177 (pc' := 10) rfl rfl B33 sf_k1 (by decide) (by decide) (fun z34 e35 B36 => ?_)
          refine pm_R_cs pm_M177 (pc' := 13) (ra := [.int z34, .int 0, .int a1]) (rest := []) (ls' := [.int a1, .int 0, .int z34]) rfl rfl (Or.inl rfl) pm_M174 rfl rfl (Nat.le_of_ble_eq_true rfl) rfl rfl ?_
          refine pm_R_lo pm_M174 (pc' := 1) rfl rfl rfl ?_
          refine pm_R_lo pm_M174 (pc' := 2) rfl rfl rfl ?_
          refine pm_R_icmp pm_M174 (t := 14) (pc' := 5) rfl rfl rfl (fun c37 => ?_) (fun c37 => ?_)
          · have B38 : sf_B (-2147483648) (-1) a1 := sf_ltL c37 (sf_any a1) sf_k0
            refine pm_R_op pm_M174 (pc' := 15) (st' := [.int 0]) rfl rfl rfl ?_
            refine pm_R_ret pm_M174 (r := some (.int 0)) rfl rfl ?_
            show pm_R _ 177 13 [.ref 41, .int 1, .int a1] [.int 0] _ _
            refine pm_R_ret pm_M177 (r := some (.int 0)) rfl rfl ?_
            show pm_R _ 200 15 [.ref 41, .int a0, .int a1] [.int 0] _ _
            refine pm_R_br pm_M200 (pc' := 18) (st' := []) rfl rfl ?_
            refine pm_R_op pm_M200 (pc' := 19) (st' := [.int 0]) rfl rfl rfl ?_
            refine pm_R_ret pm_M200 (r := some (.int 0)) rfl rfl ?_
            show pm_R _ 284 21 [.ref 41, .int a0, .int a1, .int a2, .int a3, .int a4, pm_no, pm_no] [.int 0] _ _
            refine pm_R_br pm_M284 (pc' := 39) (st' := []) rfl rfl ?_
            refine pm_R_op pm_M284 (pc' := 40) (st' := [.int (-1)]) rfl rfl rfl ?_
            exact pm_R_ret pm_M284 (r := some (.int (-1))) rfl rfl (K (-1) m4 w h1 T2 F6 W9 (sf_weak sf_kn1 (by decide) (by decide)))
          · have B39 : sf_B 0 2147483647 a1 := sf_leR (Int32.not_lt.mp c37) sf_k0 (sf_any a1)
            refine pm_R_lo pm_M174 (pc' := 6) rfl rfl rfl ?_
            refine pm_R_lo pm_M174 (pc' := 7) rfl rfl rfl ?_
            refine pm_R_icmp pm_M174 (t := 14) (pc' := 10) rfl rfl rfl (fun c40 => ?_) (fun c40 => ?_)
            · skip
              refine pm_R_op pm_M174 (pc' := 15) (st' := [.int 0]) rfl rfl rfl ?_
              refine pm_R_ret pm_M174 (r := some (.int 0)) rfl rfl ?_
              show pm_R _ 177 13 [.ref 41, .int 1, .int a1] [.int 0] _ _
              refine pm_R_ret pm_M177 (r := some (.int 0)) rfl rfl ?_
              show pm_R _ 200 15 [.ref 41, .int a0, .int a1] [.int 0] _ _
              refine pm_R_br pm_M200 (pc' := 18) (st' := []) rfl rfl ?_
              refine pm_R_op pm_M200 (pc' := 19) (st' := [.int 0]) rfl rfl rfl ?_
              refine pm_R_ret pm_M200 (r := some (.int 0)) rfl rfl ?_
              show pm_R _ 284 21 [.ref 41, .int a0, .int a1, .int a2, .int a3, .int a4, pm_no, pm_no] [.int 0] _ _
              refine pm_R_br pm_M284 (pc' := 39) (st' := []) rfl rfl ?_
              refine pm_R_op pm_M284 (pc' := 40) (st' := [.int (-1)]) rfl rfl rfl ?_
              exact pm_R_ret pm_M284 (r := some (.int (-1))) rfl rfl (K (-1) m4 w h1 T2 F6 W9 (sf_weak sf_kn1 (by decide) (by decide)))
            · have V41 := rf_V.mk e17 ez32 e35 (Int32.not_lt.mp c40) B39 (by decide)
              have V41 := V41.back F6 (by decide)
              have B42 : sf_B 0 2 a1 := sf_leL (Int32.not_lt.mp c40) B39 B36
              have B43 : sf_B 0 2 z34 := sf_leR (Int32.not_lt.mp c40) B39 B36
              refine pm_R_op pm_M174 (pc' := 11) (st' := [.int 1]) rfl rfl rfl ?_
              refine pm_R_br pm_M174 (pc' := 15) rfl rfl ?_
              refine pm_R_ret pm_M174 (r := some (.int 1)) rfl rfl ?_
              show pm_R _ 177 13 [.ref 41, .int 1, .int a1] [.int 1] _ _
              refine pm_R_ret pm_M177 (r := some (.int 1)) rfl rfl ?_
              show pm_R _ 200 15 [.ref 41, .int a0, .int a1] [.int 1] _ _
              refine pm_R_br pm_M200 (pc' := 20) (st' := []) rfl rfl ?_
              refine pm_R_lo pm_M200 (pc' := 21) rfl rfl rfl ?_
              refine pm_R_lo pm_M200 (pc' := 22) rfl rfl rfl ?_
              refine pm_R_lo pm_M200 (pc' := 23) rfl rfl rfl ?_
              refine pm_R_cv pm_M200 (pc' := 26) (a := 41) (ra := [.int a1, .int a0]) (rest := []) (ls' := [.ref 41, .int a0, .int a1, pm_no]) rfl rfl (Or.inl rfl) pm_M201 T2.2.1 rfl (by decide) (Nat.lt_of_lt_of_le (by decide) T2.1) rfl rfl (Nat.le_of_ble_eq_true rfl) rfl rfl ?_
              refine rf_c201 (d := d + 1) T2 B29 B42 (V41.F F6 (by decide)) (fun m46 w47 h48 T49 F50 W51 B52 => ?_)
              have F53 := F6.trans F50 (by decide)
              have W54 : rf_W [0, 23, 24, 26, 50] m m46 := W9.trans W51 (by decide)
              show pm_R _ 200 26 [.ref 41, .int a0, .int a1] [] _ _
              refine pm_R_op pm_M200 (pc' := 27) (st' := [.int 1]) rfl rfl rfl ?_
              refine pm_R_ret pm_M200 (r := some (.int 1)) rfl rfl ?_
              show pm_R _ 284 21 [.ref 41, .int a0, .int a1, .int a2, .int a3, .int a4, pm_no, pm_no] [.int 1] _ _
              refine pm_R_br pm_M284 (pc' := 24) (st' := []) rfl rfl ?_
              refine pm_R_lo pm_M284 (pc' := 26) rfl rfl rfl ?_
              refine pm_R_op pm_M284 (pc' := 27) (st' := [.int 0, .int a4]) rfl rfl rfl ?_
              refine pm_R_lo pm_M284 (pc' := 28) rfl rfl rfl ?_
              refine rf_R_get pm_M284 T49 (pc' := 31) (v := .int (m46 24)) rfl rfl rfl rfl ?_
              refine pm_R_op pm_M284 (pc' := 32) (st' := [.int 1, .int (m46 24), .int 0, .int a4]) rfl rfl rfl ?_
              refine sf_R_isub pm_M284 (pc' := 33) rfl rfl B52 sf_k1 (by decide) (by decide) (fun z55 e56 B57 => ?_)
              refine pm_R_cs pm_M284 (pc' := 36) (ra := [.int z55, .int 0, .int a4]) (rest := []) (ls' := [.int a4, .int 0, .int z55]) rfl rfl (Or.inl rfl) pm_M174 rfl rfl (Nat.le_of_ble_eq_true rfl) rfl rfl ?_
              refine pm_R_lo pm_M174 (pc' := 1) rfl rfl rfl ?_
              refine pm_R_lo pm_M174 (pc' := 2) rfl rfl rfl ?_
              refine pm_R_icmp pm_M174 (t := 14) (pc' := 5) rfl rfl rfl (fun c58 => ?_) (fun c58 => ?_)
              · have B59 : sf_B (-2147483648) (-1) a4 := sf_ltL c58 (sf_any a4) sf_k0
                refine pm_R_op pm_M174 (pc' := 15) (st' := [.int 0]) rfl rfl rfl ?_
                refine pm_R_ret pm_M174 (r := some (.int 0)) rfl rfl ?_
                show pm_R _ 284 36 [.ref 41, .int a0, .int a1, .int a2, .int a3, .int a4, pm_no, pm_no] [.int 0] _ _
                refine pm_R_br pm_M284 (pc' := 39) (st' := []) rfl rfl ?_
                refine pm_R_op pm_M284 (pc' := 40) (st' := [.int (-1)]) rfl rfl rfl ?_
                exact pm_R_ret pm_M284 (r := some (.int (-1))) rfl rfl (K (-1) m46 w47 h48 T49 F53 W54 (sf_weak sf_kn1 (by decide) (by decide)))
              · have B60 : sf_B 0 2147483647 a4 := sf_leR (Int32.not_lt.mp c58) sf_k0 (sf_any a4)
                refine pm_R_lo pm_M174 (pc' := 6) rfl rfl rfl ?_
                refine pm_R_lo pm_M174 (pc' := 7) rfl rfl rfl ?_
                refine pm_R_icmp pm_M174 (t := 14) (pc' := 10) rfl rfl rfl (fun c61 => ?_) (fun c61 => ?_)
                · have B62 : sf_B 1 2147483647 a4 := sf_ltR c61 B57 B60
                  refine pm_R_op pm_M174 (pc' := 15) (st' := [.int 0]) rfl rfl rfl ?_
                  refine pm_R_ret pm_M174 (r := some (.int 0)) rfl rfl ?_
                  show pm_R _ 284 36 [.ref 41, .int a0, .int a1, .int a2, .int a3, .int a4, pm_no, pm_no] [.int 0] _ _
                  refine pm_R_br pm_M284 (pc' := 39) (st' := []) rfl rfl ?_
                  refine pm_R_op pm_M284 (pc' := 40) (st' := [.int (-1)]) rfl rfl rfl ?_
                  exact pm_R_ret pm_M284 (r := some (.int (-1))) rfl rfl (K (-1) m46 w47 h48 T49 F53 W54 (sf_weak sf_kn1 (by decide) (by decide)))
                · have B63 : sf_B 0 11 a4 := sf_leL (Int32.not_lt.mp c61) B60 B57
                  refine pm_R_op pm_M174 (pc' := 11) (st' := [.int 1]) rfl rfl rfl ?_
                  refine pm_R_br pm_M174 (pc' := 15) rfl rfl ?_
                  refine pm_R_ret pm_M174 (r := some (.int 1)) rfl rfl ?_
                  show pm_R _ 284 36 [.ref 41, .int a0, .int a1, .int a2, .int a3, .int a4, pm_no, pm_no] [.int 1] _ _
                  refine pm_R_br pm_M284 (pc' := 41) (st' := []) rfl rfl ?_
                  refine pm_R_lo pm_M284 (pc' := 42) rfl rfl rfl ?_
                  refine pm_R_lo pm_M284 (pc' := 44) rfl rfl rfl ?_
                  refine rf_R_put pm_M284 T49 (pc' := 47) rfl rfl rfl (by decide) rfl rfl (sf_any _) rfl rfl (fun h64 m67 em68 T65 F66 => ?_)
                  have F69 := F53.trans F66 (by decide)
                  have B70 : sf_B 1 12 (m67 24) := by rw [em68]; exact B52
                  have B71 : sf_B (-2147483648) 2147483647 (m67 50) := by rw [em68]; exact (sf_any a3)
                  have ek72 : (m67 50).toInt = (a3).toInt := by rw [em68]; rfl
                  have W73 : rf_W [0, 23, 24, 26, 50] m m67 := by rw [em68]; exact W54.put (by decide)
                  refine pm_R_op pm_M284 (pc' := 48) (st' := [.int 0]) rfl rfl rfl ?_
                  refine pm_R_lo pm_M284 (pc' := 50) (ls' := [.ref 41, .int a0, .int a1, .int a2, .int a3, .int a4, .int 0, pm_no]) (st' := []) rfl rfl rfl ?_
                  have L_11845 : ∀ (N : Nat) (h_11845 : pm_H) (m_11845 : Nat → Int32) (w_11845 : Int64) (x6_11845 : Int32), rf_T m_11845 w_11845 h_11845 → rf_G [41, 53, 70] h h_11845 → rf_W [] m67 m_11845 → sf_B 0 12 x6_11845 → (12 - x6_11845.toInt).toNat = N → pm_R (d + 3) 284 50 [.ref 41, .int a0, .int a1, .int a2, .int a3, .int a4, .int x6_11845, pm_no] [] h_11845 Q := by
                    intro N
                    induction N using Nat.strongRecOn with
                    | ind N ih_11845 =>
                      intro h_11845 m_11845 w_11845 x6_11845 T_11845 F_11845 W_11845 Bx6_11845 hN_11845
                      have B11848 : sf_B 1 12 (m_11845 24) := by rw [W_11845 24 (by decide)]; exact B70
                      have W11849 : rf_W [0, 23, 24, 26, 50] m m_11845 := W73.trans W_11845 (by decide)
                      refine pm_R_lo pm_M284 (pc' := 52) rfl rfl rfl ?_
                      refine pm_R_lo pm_M284 (pc' := 53) rfl rfl rfl ?_
                      refine rf_R_get pm_M284 T_11845 (pc' := 56) (v := .int (m_11845 24)) rfl rfl rfl rfl ?_
                      refine pm_R_icmp pm_M284 (t := 86) (pc' := 59) rfl rfl rfl (fun c11850 => ?_) (fun c11850 => ?_)
                      · have B11851 : sf_B 1 12 x6_11845 := sf_leR c11850 B11848 Bx6_11845
                        refine pm_R_op pm_M284 (pc' := 87) (st' := [.int 0]) rfl rfl rfl ?_
                        refine pm_R_lo pm_M284 (pc' := 89) (ls' := [.ref 41, .int a0, .int a1, .int a2, .int a3, .int a4, .int 0, pm_no]) (st' := []) rfl rfl rfl ?_
                        have L_14622 : ∀ (N : Nat) (h_14622 : pm_H) (m_14622 : Nat → Int32) (w_14622 : Int64) (x6_14622 : Int32) (g7_14622 : Value), rf_T m_14622 w_14622 h_14622 → rf_G [41, 53, 70] h h_14622 → rf_W [50] m_11845 m_14622 → sf_B 0 9 x6_14622 → g7_14622.category = 1 → (9 - x6_14622.toInt).toNat = N → pm_R (d + 3) 284 89 [.ref 41, .int a0, .int a1, .int a2, .int a3, .int a4, .int x6_14622, g7_14622] [] h_14622 Q := by
                          intro N
                          induction N using Nat.strongRecOn with
                          | ind N ih_14622 =>
                            intro h_14622 m_14622 w_14622 x6_14622 g7_14622 T_14622 F_14622 W_14622 Bx6_14622 Cg7_14622 hN_14622
                            have B14625 : sf_B 1 12 (m_14622 24) := by rw [W_14622 24 (by decide)]; exact B11848
                            have W14626 : rf_W [0, 23, 24, 26, 50] m m_14622 := W11849.trans W_14622 (by decide)
                            refine pm_R_lo pm_M284 (pc' := 91) rfl rfl rfl ?_
                            refine pm_R_lo pm_M284 (pc' := 92) rfl rfl rfl ?_
                            refine pm_R_icmp pm_M284 (t := 158) (pc' := 95) rfl rfl rfl (fun c14627 => ?_) (fun c14627 => ?_)
                            · skip
                              refine pm_R_lo pm_M284 (pc' := 159) (pm_q284_1 (Nat.le_of_ble_eq_true rfl)) rfl rfl ?_
                              refine rf_R_get pm_M284 T_14622 (pc' := 162) (v := .ref 70) (pm_q284_1 (Nat.le_of_ble_eq_true rfl)) rfl rfl rfl ?_
                              refine pm_R_lo pm_M284 (pc' := 164) (pm_q284_1 (Nat.le_of_ble_eq_true rfl)) rfl rfl ?_
                              obtain ⟨f14628, e14629, b14630⟩ := T_14622.2.2.2.1 70 (by decide) (by decide)
                              refine rf_R_ild pm_M284 T_14622 (pc' := 165) (pm_q284_1 (Nat.le_of_ble_eq_true rfl)) e14629 (by decide) (sf_in B63 (by decide) (by decide)) rfl (fun z14631 ez14632 => ?_)
                              have B14633 : sf_B 0 9 z14631 := ez14632 ▸ b14630 _
                              exact pm_R_ret pm_M284 (r := some (.int z14631)) (pm_q284_1 (Nat.le_of_ble_eq_true rfl)) (pm_ret_i _) (K z14631 m_14622 w_14622 h_14622 T_14622 F_14622 W14626 (sf_weak B14633 (by decide) (by decide)))
                            · have B14634 : sf_B 0 8 x6_14622 := sf_ltL (Int32.not_le.mp c14627) Bx6_14622 B15
                              have B14635 : sf_B 1 9 a2 := sf_ltR (Int32.not_le.mp c14627) Bx6_14622 B15
                              refine pm_R_op pm_M284 (pc' := 96) (st' := [.int 0]) rfl rfl rfl ?_
                              refine pm_R_lo pm_M284 (pc' := 98) (ls' := [.ref 41, .int a0, .int a1, .int a2, .int a3, .int a4, .int x6_14622, .int 0]) (st' := []) rfl rfl rfl ?_
                              have L_15183 : ∀ (N : Nat) (h_15183 : pm_H) (m_15183 : Nat → Int32) (w_15183 : Int64) (x7_15183 : Int32), rf_T m_15183 w_15183 h_15183 → rf_G [41, 53, 70] h h_15183 → rf_W [50] m_14622 m_15183 → sf_B 0 12 x7_15183 → (12 - x7_15183.toInt).toNat = N → pm_R (d + 3) 284 98 [.ref 41, .int a0, .int a1, .int a2, .int a3, .int a4, .int x6_14622, .int x7_15183] [] h_15183 Q := by
                                intro N
                                induction N using Nat.strongRecOn with
                                | ind N ih_15183 =>
                                  intro h_15183 m_15183 w_15183 x7_15183 T_15183 F_15183 W_15183 Bx7_15183 hN_15183
                                  have B15186 : sf_B 1 12 (m_15183 24) := by rw [W_15183 24 (by decide)]; exact B14625
                                  have W15187 : rf_W [0, 23, 24, 26, 50] m m_15183 := W14626.trans W_15183 (by decide)
                                  have W15188 : rf_W [50] m_11845 m_15183 := W_14622.trans W_15183 (by decide)
                                  refine pm_R_lo pm_M284 (pc' := 100) rfl rfl rfl ?_
                                  refine pm_R_lo pm_M284 (pc' := 101) rfl rfl rfl ?_
                                  refine rf_R_get pm_M284 T_15183 (pc' := 104) (v := .int (m_15183 24)) rfl rfl rfl rfl ?_
                                  refine pm_R_icmp pm_M284 (t := 152) (pc' := 107) rfl rfl rfl (fun c15189 => ?_) (fun c15189 => ?_)
                                  · have B15190 : sf_B 1 12 x7_15183 := sf_leR c15189 B15186 Bx7_15183
                                    refine sf_R_iinc pm_M284 (pc' := 155) (ls' := fun z => [.ref 41, .int a0, .int a1, .int a2, .int a3, .int a4, .int z, .int x7_15183]) (pm_q284_1 (Nat.le_of_ble_eq_true rfl)) B14634 rfl (by decide) (by decide) (by decide) (fun _ => rfl) rfl (fun z15191 e15192 B15193 => ?_)
                                    show pm_R _ 284 155 [.ref 41, .int a0, .int a1, .int a2, .int a3, .int a4, .int z15191, .int x7_15183] [] _ _
                                    refine pm_R_br pm_M284 (pc' := 89) (pm_q284_1 (Nat.le_of_ble_eq_true rfl)) rfl ?_
                                    exact ih_14622 _ (sf_up hN_14622 e15192 B14634 (by decide) (by decide)) h_15183 m_15183 w_15183 z15191 (.int x7_15183) T_15183 F_15183 W15188 (sf_weak B15193 (by decide) (by decide)) rfl rfl
                                  · have B15194 : sf_B 0 11 x7_15183 := sf_ltL (Int32.not_le.mp c15189) Bx7_15183 B15186
                                    refine pm_R_lo pm_M284 (pc' := 108) rfl rfl rfl ?_
                                    refine rf_R_get pm_M284 T_15183 (pc' := 111) (v := .ref 70) (pm_q284_1 (Nat.le_of_ble_eq_true rfl)) rfl rfl rfl ?_
                                    refine pm_R_lo pm_M284 (pc' := 113) (pm_q284_1 (Nat.le_of_ble_eq_true rfl)) rfl rfl ?_
                                    refine pm_R_lo pm_M284 (pc' := 114) (pm_q284_1 (Nat.le_of_ble_eq_true rfl)) rfl rfl ?_
                                    refine pm_R_lo pm_M284 (pc' := 115) (pm_q284_1 (Nat.le_of_ble_eq_true rfl)) rfl rfl ?_
                                    refine rf_R_get pm_M284 T_15183 (pc' := 118) (v := .ref 70) (pm_q284_1 (Nat.le_of_ble_eq_true rfl)) rfl rfl rfl ?_
                                    refine pm_R_lo pm_M284 (pc' := 120) (pm_q284_1 (Nat.le_of_ble_eq_true rfl)) rfl rfl ?_
                                    obtain ⟨f15195, e15196, b15197⟩ := T_15183.2.2.2.1 70 (by decide) (by decide)
                                    refine rf_R_ild pm_M284 T_15183 (pc' := 121) (pm_q284_1 (Nat.le_of_ble_eq_true rfl)) e15196 (by decide) (sf_in B15194 (by decide) (by decide)) rfl (fun z15198 ez15199 => ?_)
                                    have B15200 : sf_B 0 9 z15198 := ez15199 ▸ b15197 _
                                    refine pm_R_lo pm_M284 (pc' := 122) (pm_q284_1 (Nat.le_of_ble_eq_true rfl)) rfl rfl ?_
                                    refine pm_R_op pm_M284 (pc' := 123) (st' := [.int 1, .ref 41, .int z15198, .ref 41, .int x7_15183, .ref 70]) (pm_q284_1 (Nat.le_of_ble_eq_true rfl)) rfl rfl ?_
                                    refine pm_R_lo pm_M284 (pc' := 124) (pm_q284_1 (Nat.le_of_ble_eq_true rfl)) rfl rfl ?_
                                    refine pm_R_lo pm_M284 (pc' := 125) (pm_q284_1 (Nat.le_of_ble_eq_true rfl)) rfl rfl ?_
                                    refine rf_R_get pm_M284 T_15183 (pc' := 128) (v := .ref 70) (pm_q284_1 (Nat.le_of_ble_eq_true rfl)) rfl rfl rfl ?_
                                    refine pm_R_lo pm_M284 (pc' := 130) (pm_q284_1 (Nat.le_of_ble_eq_true rfl)) rfl rfl ?_
                                    refine rf_R_ild pm_M284 T_15183 (pc' := 131) (pm_q284_1 (Nat.le_of_ble_eq_true rfl)) e15196 (by decide) (sf_in B15194 (by decide) (by decide)) rfl (fun z15201 ez15202 => ?_)
                                    have B15203 : sf_B 0 9 z15201 := ez15202 ▸ b15197 _
                                    refine pm_R_cv pm_M284 (pc' := 134) (a := 41) (ra := [.int z15201]) (rest := [.int 1, .ref 41, .int z15198, .ref 41, .int x7_15183, .ref 70]) (ls' := [.ref 41, .int z15201]) (pm_q284_1 (Nat.le_of_ble_eq_true rfl)) rfl (Or.inl rfl) pm_M236 T_15183.2.1 rfl (by decide) (Nat.lt_of_lt_of_le (by decide) T_15183.1) rfl rfl (Nat.le_of_ble_eq_true rfl) rfl rfl ?_
                                    refine pm_R_lo pm_M236 (pc' := 1) rfl rfl rfl ?_
                                    refine rf_R_get pm_M236 T_15183 (pc' := 4) (v := .ref 47) rfl rfl rfl rfl ?_
                                    refine pm_R_op pm_M236 (pc' := 6) (st' := [.int 100, .ref 47]) rfl rfl rfl ?_
                                    refine pm_R_lo pm_M236 (pc' := 7) rfl rfl rfl ?_
                                    have B15204 : sf_B 0 1 (m_15183 23) := T_15183.2.2.1 23
                                    refine rf_R_get pm_M236 T_15183 (pc' := 10) (v := .int (m_15183 23)) rfl rfl rfl rfl ?_
                                    refine sf_R_imul pm_M236 (pc' := 11) rfl rfl sf_k100 B15204 (by decide) (by decide) (by decide) (fun z15205 e15206 B15207 => ?_)
                                    refine pm_R_op pm_M236 (pc' := 13) (st' := [.int 90, .int z15205, .ref 47]) rfl rfl rfl ?_
                                    refine sf_R_iadd pm_M236 (pc' := 14) rfl rfl B15207 sf_k90 (by decide) (by decide) (fun z15208 e15209 B15210 => ?_)
                                    refine pm_R_lo pm_M236 (pc' := 15) rfl rfl rfl ?_
                                    refine sf_R_iadd pm_M236 (pc' := 16) rfl rfl B15210 B15203 (by decide) (by decide) (fun z15211 e15212 B15213 => ?_)
                                    obtain ⟨f15214, e15215, b15216⟩ := T_15183.2.2.2.1 47 (by decide) (by decide)
                                    refine rf_R_ild pm_M236 T_15183 (pc' := 17) rfl e15215 (by decide) (sf_in B15213 (by decide) (by decide)) rfl (fun z15217 ez15218 => ?_)
                                    have e15219 : (z15211).toInt = 100 * ((m_15183 23)).toInt + 1 * (z15201).toInt + 90 := by
                                      have q0 := e15206
                                      have q1 := e15209
                                      have q2 := e15212
                                      simp only [(show (90 : Int32).toInt = 90 from rfl), (show (100 : Int32).toInt = 100 from rfl)] at q0 q1 q2
                                      omega
                                    have B15220 : sf_B 0 1023 z15217 := ez15218 ▸ rf_p47n b15216 e15219 B15204 B15203 (by decide) (by decide) (by decide)
                                    refine pm_R_ret pm_M236 (r := some (.int z15217)) rfl (pm_ret_i _) ?_
                                    show pm_R _ 284 134 [.ref 41, .int a0, .int a1, .int a2, .int a3, .int a4, .int x6_14622, .int x7_15183] [.int z15217, .int 1, .ref 41, .int z15198, .ref 41, .int x7_15183, .ref 70] _ _
                                    refine sf_R_i2l pm_M284 (pc' := 135) (pm_q284_1 (Nat.le_of_ble_eq_true rfl)) rfl B15220 (fun z15221 e15222 B15223 => ?_)
                                    refine pm_R_cs pm_M284 (pc' := 138) (ra := [.long z15221]) (rest := [.int 1, .ref 41, .int z15198, .ref 41, .int x7_15183, .ref 70]) (ls' := [.long z15221, pm_no, pm_no, pm_no]) (pm_q284_1 (Nat.le_of_ble_eq_true rfl)) rfl (Or.inl rfl) pm_M222 rfl rfl (Nat.le_of_ble_eq_true rfl) rfl rfl ?_
                                    refine rf_c222 (d := d + 1)  (fun r15224 B15225 => ?_)
                                    show pm_R _ 284 138 [.ref 41, .int a0, .int a1, .int a2, .int a3, .int a4, .int x6_14622, .int x7_15183] [.int r15224, .int 1, .ref 41, .int z15198, .ref 41, .int x7_15183, .ref 70] _ _
                                    refine sf_R_iadd pm_M284 (pc' := 139) (pm_q284_1 (Nat.le_of_ble_eq_true rfl)) rfl sf_k1 B15225 (by decide) (by decide) (fun z15232 e15233 B15234 => ?_)
                                    refine pm_R_cv pm_M284 (pc' := 142) (a := 41) (ra := [.int z15232]) (rest := [.int z15198, .ref 41, .int x7_15183, .ref 70]) (ls' := [.ref 41, .int z15232]) (pm_q284_1 (Nat.le_of_ble_eq_true rfl)) rfl (Or.inl rfl) pm_M285 T_15183.2.1 rfl (by decide) (Nat.lt_of_lt_of_le (by decide) T_15183.1) rfl rfl (Nat.le_of_ble_eq_true rfl) rfl rfl ?_
                                    refine pm_R_lo pm_M285 (pc' := 1) rfl rfl rfl ?_
                                    refine pm_R_lo pm_M285 (pc' := 2) rfl rfl rfl ?_
                                    refine rf_R_get pm_M285 T_15183 (pc' := 5) (v := .int (m_15183 50)) rfl rfl rfl rfl ?_
                                    refine pm_R_ldcw pm_M285 (pc' := 8) rfl rfl rfl ?_
                                    refine sf_R_iany pm_M285 (pc' := 9) (st := [.ref 41]) rfl rfl rfl (fun z15238 => ?_)
                                    refine pm_R_op pm_M285 (pc' := 12) (st' := [.int 12345, .int z15238, .ref 41]) rfl rfl rfl ?_
                                    refine sf_R_iany pm_M285 (pc' := 13) (st := [.ref 41]) rfl rfl rfl (fun z15242 => ?_)
                                    refine rf_R_put pm_M285 T_15183 (pc' := 16) rfl rfl rfl (by decide) rfl rfl (sf_any _) rfl rfl (fun h15243 m15246 em15247 T15244 F15245 => ?_)
                                    have F15248 := F_15183.trans F15245 (by decide)
                                    have B15249 : sf_B 1 12 (m15246 24) := by rw [em15247]; exact B15186
                                    have B15250 : sf_B (-2147483648) 2147483647 (m15246 50) := by rw [em15247]; exact (sf_any z15242)
                                    have ek15251 : (m15246 50).toInt = (z15242).toInt := by rw [em15247]; rfl
                                    have W15252 : rf_W [0, 23, 24, 26, 50] m m15246 := by rw [em15247]; exact W15187.put (by decide)
                                    have W15253 : rf_W [50] m_11845 m15246 := by rw [em15247]; exact W15188.put (by decide)
                                    have W15254 : rf_W [50] m_14622 m15246 := by rw [em15247]; exact W_15183.put (by decide)
                                    refine pm_R_lo pm_M285 (pc' := 17) rfl rfl rfl ?_
                                    refine rf_R_get pm_M285 T15244 (pc' := 20) (v := .int (m15246 50)) rfl rfl rfl rfl ?_
                                    refine pm_R_op pm_M285 (pc' := 22) (st' := [.int 16, .int (m15246 50)]) rfl rfl rfl ?_
                                    refine sf_R_iany pm_M285 (pc' := 23) (st := []) rfl rfl rfl (fun z15258 => ?_)
                                    refine pm_R_lo pm_M285 (pc' := 24) rfl rfl rfl ?_
                                    refine sf_R_iremA pm_M285 (pc' := 25) rfl rfl (sf_neq1 B15234 sf_k0 (by decide)) (fun z15259 => ?_)
                                    refine pm_R_ret pm_M285 (r := some (.int z15259)) rfl (pm_ret_i _) ?_
                                    show pm_R _ 284 142 [.ref 41, .int a0, .int a1, .int a2, .int a3, .int a4, .int x6_14622, .int x7_15183] [.int z15259, .int z15198, .ref 41, .int x7_15183, .ref 70] _ _
                                    refine pm_R_cv pm_M284 (pc' := 145) (a := 41) (ra := [.int z15259, .int z15198]) (rest := [.int x7_15183, .ref 70]) (ls' := [.ref 41, .int z15198, .int z15259, pm_no, pm_no]) (pm_q284_1 (Nat.le_of_ble_eq_true rfl)) rfl (Or.inl rfl) pm_M286 T15244.2.1 rfl (by decide) (Nat.lt_of_lt_of_le (by decide) T15244.1) rfl rfl (Nat.le_of_ble_eq_true rfl) rfl rfl ?_
                                    refine rf_c286 (d := d + 1) T15244 B15200 (fun r15262 B15263 => ?_)
                                    show pm_R _ 284 145 [.ref 41, .int a0, .int a1, .int a2, .int a3, .int a4, .int x6_14622, .int x7_15183] [.int r15262, .int x7_15183, .ref 70] _ _
                                    have e15270 := (F15245.cell (by decide) e15196)
                                    refine rf_R_ist pm_M284 T15244 (pc' := 146) (pm_q284_1 (Nat.le_of_ble_eq_true rfl)) e15270 (by decide) (by decide) (sf_in B15194 (by decide) (by decide)) ⟨_, rfl, sf_upd b15197 B15263 _⟩ rfl (fun h15271 T15272 F15273 e15274 => ?_)
                                    have F15275 := F15248.trans F15273 (by decide)
                                    refine sf_R_iinc pm_M284 (pc' := 149) (ls' := fun z => [.ref 41, .int a0, .int a1, .int a2, .int a3, .int a4, .int x6_14622, .int z]) (pm_q284_1 (Nat.le_of_ble_eq_true rfl)) B15194 rfl (by decide) (by decide) (by decide) (fun _ => rfl) rfl (fun z15276 e15277 B15278 => ?_)
                                    show pm_R _ 284 149 [.ref 41, .int a0, .int a1, .int a2, .int a3, .int a4, .int x6_14622, .int z15276] [] _ _
                                    refine pm_R_br pm_M284 (pc' := 98) (pm_q284_1 (Nat.le_of_ble_eq_true rfl)) rfl ?_
                                    exact ih_15183 _ (sf_up hN_15183 e15277 B15194 (by decide) (by decide)) h15271 m15246 w_15183 z15276 T15272 F15275 W15254 (sf_weak B15278 (by decide) (by decide)) rfl
                              exact L_15183 _ h_14622 m_14622 w_14622 0 T_14622 F_14622 (rf_W.refl _ _) (sf_weak sf_k0 (by decide) (by decide)) rfl
                        exact L_14622 _ h_11845 m_11845 w_11845 0 (pm_no) T_11845 F_11845 (rf_W.refl _ _) (sf_weak sf_k0 (by decide) (by decide)) rfl rfl
                      · have B15279 : sf_B 0 11 x6_11845 := sf_ltL (Int32.not_le.mp c11850) Bx6_11845 B11848
                        refine pm_R_lo pm_M284 (pc' := 60) rfl rfl rfl ?_
                        refine rf_R_get pm_M284 T_11845 (pc' := 63) (v := .ref 70) rfl rfl rfl rfl ?_
                        refine pm_R_lo pm_M284 (pc' := 65) rfl rfl rfl ?_
                        refine pm_R_lo pm_M284 (pc' := 66) rfl rfl rfl ?_
                        refine rf_R_get pm_M284 T_11845 (pc' := 69) (v := .ref 48) rfl rfl rfl rfl ?_
                        refine pm_R_op pm_M284 (pc' := 71) (st' := [.int 13, .ref 48, .int x6_11845, .ref 70]) rfl rfl rfl ?_
                        refine pm_R_lo pm_M284 (pc' := 72) rfl rfl rfl ?_
                        refine sf_R_imul pm_M284 (pc' := 73) rfl rfl sf_k13 B42 (by decide) (by decide) (by decide) (fun z15280 e15281 B15282 => ?_)
                        refine pm_R_op pm_M284 (pc' := 74) (st' := [.int 1, .int z15280, .ref 48, .int x6_11845, .ref 70]) rfl rfl rfl ?_
                        refine sf_R_iadd pm_M284 (pc' := 75) rfl rfl B15282 sf_k1 (by decide) (by decide) (fun z15283 e15284 B15285 => ?_)
                        refine pm_R_lo pm_M284 (pc' := 77) rfl rfl rfl ?_
                        refine sf_R_iadd pm_M284 (pc' := 78) rfl rfl B15285 B15279 (by decide) (by decide) (fun z15286 e15287 B15288 => ?_)
                        obtain ⟨f15289, e15290, b15291⟩ := T_11845.2.2.2.1 48 (by decide) (by decide)
                        refine rf_R_ild pm_M284 T_11845 (pc' := 79) rfl e15290 (by decide) (sf_in B15288 (by decide) (by decide)) rfl (fun z15292 ez15293 => ?_)
                        have e15294 : (z15286).toInt = 13 * (a1).toInt + 1 * (x6_11845).toInt + 1 := by
                          have q0 := e15281
                          have q1 := e15284
                          have q2 := e15287
                          simp only [(show (1 : Int32).toInt = 1 from rfl), (show (13 : Int32).toInt = 13 from rfl)] at q0 q1 q2
                          omega
                        have B15295 : sf_B 0 9 z15292 := ez15293 ▸ rf_p48s b15291 e15294 B42 B15279 (by decide) (by decide) (by decide)
                        obtain ⟨f15296, e15297, b15298⟩ := T_11845.2.2.2.1 70 (by decide) (by decide)
                        refine rf_R_ist pm_M284 T_11845 (pc' := 80) rfl e15297 (by decide) (by decide) (sf_in B15279 (by decide) (by decide)) ⟨_, rfl, sf_upd b15298 B15295 _⟩ rfl (fun h15299 T15300 F15301 e15302 => ?_)
                        have F15303 := F_11845.trans F15301 (by decide)
                        refine sf_R_iinc pm_M284 (pc' := 83) (ls' := fun z => [.ref 41, .int a0, .int a1, .int a2, .int a3, .int a4, .int z, pm_no]) rfl B15279 rfl (by decide) (by decide) (by decide) (fun _ => rfl) rfl (fun z15304 e15305 B15306 => ?_)
                        show pm_R _ 284 83 [.ref 41, .int a0, .int a1, .int a2, .int a3, .int a4, .int z15304, pm_no] [] _ _
                        refine pm_R_br pm_M284 (pc' := 50) rfl rfl ?_
                        exact ih_11845 _ (sf_up hN_11845 e15305 B15279 (by decide) (by decide)) h15299 m_11845 w_11845 z15304 T15300 F15303 W_11845 (sf_weak B15306 (by decide) (by decide)) rfl
                  exact L_11845 _ h64 m67 w47 0 T65 F69 (rf_W.refl _ _) (sf_weak sf_k0 (by decide) (by decide)) rfl

set_option maxRecDepth 100000 in
set_option maxHeartbeats 4000000 in
/-- SilentTableModel.all -/
theorem rf_c287 {d : Nat} {m : Nat → Int32} {w : Int64} {h : pm_H} {Q : Option Value → pm_H → Prop} {a0 : Int32} {a1 : Int32} {a2 : Int32} (T : rf_T m w h)  (K : ∀ (r : Int64) (m' : Nat → Int32) (w' : Int64) (h' : pm_H), rf_T m' w' h' → rf_G [41, 53, 55] h h' → rf_W [0, 23, 24, 26] m m' → Q (some (.long r)) h') : pm_R (d + 5) 287 0 [.ref 41, .int a0, .int a1, .int a2, pm_no, pm_no, pm_no, pm_no, pm_no, pm_no, pm_no, pm_no, pm_no] [] h Q := by
  refine pm_R_lo pm_M287 (pc' := 1) rfl rfl rfl ?_
  refine pm_R_op pm_M287 (pc' := 2) (st' := [.int 0, .ref 41]) rfl rfl rfl ?_
  refine rf_R_put pm_M287 T (pc' := 5) rfl rfl rfl (by decide) rfl rfl sf_k0 rfl rfl (fun h1 m4 em5 T2 F3 => ?_)
  have F6 := (rf_G.refl [41, 53, 55] h).trans F3 (by decide)
  have B7 : sf_B 0 0 (m4 0) := by rw [em5]; exact sf_k0
  have W9 : rf_W [0, 23, 24, 26] m m4 := by rw [em5]; exact (rf_W.refl [0, 23, 24, 26] m).put (by decide)
  refine pm_R_lo pm_M287 (pc' := 6) rfl rfl rfl ?_
  refine pm_R_op pm_M287 (pc' := 7) (st' := [.int 0, .ref 41]) rfl rfl rfl ?_
  refine pm_R_lo pm_M287 (pc' := 8) rfl rfl rfl ?_
  refine pm_R_cv pm_M287 (pc' := 11) (a := 41) (ra := [.int a0, .int 0]) (rest := []) (ls' := [.ref 41, .int 0, .int a0]) rfl rfl (Or.inl rfl) pm_M177 T2.2.1 rfl (by decide) (Nat.lt_of_lt_of_le (by decide) T2.1) rfl rfl (Nat.le_of_ble_eq_true rfl) rfl rfl ?_
  refine pm_R_lo pm_M177 (pc' := 1) rfl rfl rfl ?_
  refine pm_R_op pm_M177 (pc' := 2) (st' := [.int 0, .int a0]) rfl rfl rfl ?_
  refine pm_R_lo pm_M177 (pc' := 3) rfl rfl rfl ?_
  refine rf_R_get pm_M177 T2 (pc' := 6) (v := .ref 46) rfl rfl rfl rfl ?_
  refine pm_R_lo pm_M177 (pc' := 7) rfl rfl rfl ?_
  obtain ⟨f10, e11, b12⟩ := T2.2.2.2.1 46 (by decide) (by decide)
  refine rf_R_ild pm_M177 T2 (pc' := 8) rfl e11 (by decide) rfl rfl (fun z13 ez14 => ?_)
  have B15 : sf_B 0 2 z13 := ez14 ▸ (b12 0)
  refine pm_R_op pm_M177 (pc' := 9) (st' := [.int 1, .int z13, .int 0, .int a0]) rfl rfl rfl ?_
  refine sf_R_isub pm_M177 (pc' := 10) rfl rfl B15 sf_k1 (by decide) (by decide) (fun z16 e17 B18 => ?_)
  refine pm_R_cs pm_M177 (pc' := 13) (ra := [.int z16, .int 0, .int a0]) (rest := []) (ls' := [.int a0, .int 0, .int z16]) rfl rfl (Or.inl rfl) pm_M174 rfl rfl (Nat.le_of_ble_eq_true rfl) rfl rfl ?_
  refine pm_R_lo pm_M174 (pc' := 1) rfl rfl rfl ?_
  refine pm_R_lo pm_M174 (pc' := 2) rfl rfl rfl ?_
  refine pm_R_icmp pm_M174 (t := 14) (pc' := 5) rfl rfl rfl (fun c19 => ?_) (fun c19 => ?_)
  · have B20 : sf_B (-2147483648) (-1) a0 := sf_ltL c19 (sf_any a0) sf_k0
    refine pm_R_op pm_M174 (pc' := 15) (st' := [.int 0]) rfl rfl rfl ?_
    refine pm_R_ret pm_M174 (r := some (.int 0)) rfl rfl ?_
    show pm_R _ 177 13 [.ref 41, .int 0, .int a0] [.int 0] _ _
    refine pm_R_ret pm_M177 (r := some (.int 0)) rfl rfl ?_
    show pm_R _ 287 11 [.ref 41, .int a0, .int a1, .int a2, pm_no, pm_no, pm_no, pm_no, pm_no, pm_no, pm_no, pm_no, pm_no] [.int 0] _ _
    refine pm_R_br pm_M287 (pc' := 32) (st' := []) rfl rfl ?_
    refine pm_R_ldc2 pm_M287 (pc' := 35) rfl rfl rfl ?_
    exact pm_R_ret pm_M287 (r := some (.long (-1))) rfl rfl (K (-1) m4 w h1 T2 F6 W9)
  · have B21 : sf_B 0 2147483647 a0 := sf_leR (Int32.not_lt.mp c19) sf_k0 (sf_any a0)
    refine pm_R_lo pm_M174 (pc' := 6) rfl rfl rfl ?_
    refine pm_R_lo pm_M174 (pc' := 7) rfl rfl rfl ?_
    refine pm_R_icmp pm_M174 (t := 14) (pc' := 10) rfl rfl rfl (fun c22 => ?_) (fun c22 => ?_)
    · skip
      refine pm_R_op pm_M174 (pc' := 15) (st' := [.int 0]) rfl rfl rfl ?_
      refine pm_R_ret pm_M174 (r := some (.int 0)) rfl rfl ?_
      show pm_R _ 177 13 [.ref 41, .int 0, .int a0] [.int 0] _ _
      refine pm_R_ret pm_M177 (r := some (.int 0)) rfl rfl ?_
      show pm_R _ 287 11 [.ref 41, .int a0, .int a1, .int a2, pm_no, pm_no, pm_no, pm_no, pm_no, pm_no, pm_no, pm_no, pm_no] [.int 0] _ _
      refine pm_R_br pm_M287 (pc' := 32) (st' := []) rfl rfl ?_
      refine pm_R_ldc2 pm_M287 (pc' := 35) rfl rfl rfl ?_
      exact pm_R_ret pm_M287 (r := some (.long (-1))) rfl rfl (K (-1) m4 w h1 T2 F6 W9)
    · have B23 : sf_B 0 1 a0 := sf_leL (Int32.not_lt.mp c22) B21 B18
      have B24 : sf_B 0 1 z16 := sf_leR (Int32.not_lt.mp c22) B21 B18
      refine pm_R_op pm_M174 (pc' := 11) (st' := [.int 1]) rfl rfl rfl ?_
      refine pm_R_br pm_M174 (pc' := 15) rfl rfl ?_
      refine pm_R_ret pm_M174 (r := some (.int 1)) rfl rfl ?_
      show pm_R _ 177 13 [.ref 41, .int 0, .int a0] [.int 1] _ _
      refine pm_R_ret pm_M177 (r := some (.int 1)) rfl rfl ?_
      show pm_R _ 287 11 [.ref 41, .int a0, .int a1, .int a2, pm_no, pm_no, pm_no, pm_no, pm_no, pm_no, pm_no, pm_no, pm_no] [.int 1] _ _
      refine pm_R_br pm_M287 (pc' := 14) (st' := []) rfl rfl ?_
      refine pm_R_lo pm_M287 (pc' := 15) rfl rfl rfl ?_
      refine pm_R_op pm_M287 (pc' := 16) (st' := [.int 1, .int a1]) rfl rfl rfl ?_
      refine pm_R_op pm_M287 (pc' := 17) (st' := [.int 4, .int 1, .int a1]) rfl rfl rfl ?_
      refine pm_R_cs pm_M287 (pc' := 20) (ra := [.int 4, .int 1, .int a1]) (rest := []) (ls' := [.int a1, .int 1, .int 4]) rfl rfl (Or.inl rfl) pm_M174 rfl rfl (Nat.le_of_ble_eq_true rfl) rfl rfl ?_
      refine pm_R_lo pm_M174 (pc' := 1) rfl rfl rfl ?_
      refine pm_R_lo pm_M174 (pc' := 2) rfl rfl rfl ?_
      refine pm_R_icmp pm_M174 (t := 14) (pc' := 5) rfl rfl rfl (fun c25 => ?_) (fun c25 => ?_)
      · have B26 : sf_B (-2147483648) 0 a1 := sf_ltL c25 (sf_any a1) sf_k1
        refine pm_R_op pm_M174 (pc' := 15) (st' := [.int 0]) rfl rfl rfl ?_
        refine pm_R_ret pm_M174 (r := some (.int 0)) rfl rfl ?_
        show pm_R _ 287 20 [.ref 41, .int a0, .int a1, .int a2, pm_no, pm_no, pm_no, pm_no, pm_no, pm_no, pm_no, pm_no, pm_no] [.int 0] _ _
        refine pm_R_br pm_M287 (pc' := 32) (st' := []) rfl rfl ?_
        refine pm_R_ldc2 pm_M287 (pc' := 35) rfl rfl rfl ?_
        exact pm_R_ret pm_M287 (r := some (.long (-1))) rfl rfl (K (-1) m4 w h1 T2 F6 W9)
      · have B27 : sf_B 1 2147483647 a1 := sf_leR (Int32.not_lt.mp c25) sf_k1 (sf_any a1)
        refine pm_R_lo pm_M174 (pc' := 6) rfl rfl rfl ?_
        refine pm_R_lo pm_M174 (pc' := 7) rfl rfl rfl ?_
        refine pm_R_icmp pm_M174 (t := 14) (pc' := 10) rfl rfl rfl (fun c28 => ?_) (fun c28 => ?_)
        · have B29 : sf_B 5 2147483647 a1 := sf_ltR c28 sf_k4 B27
          refine pm_R_op pm_M174 (pc' := 15) (st' := [.int 0]) rfl rfl rfl ?_
          refine pm_R_ret pm_M174 (r := some (.int 0)) rfl rfl ?_
          show pm_R _ 287 20 [.ref 41, .int a0, .int a1, .int a2, pm_no, pm_no, pm_no, pm_no, pm_no, pm_no, pm_no, pm_no, pm_no] [.int 0] _ _
          refine pm_R_br pm_M287 (pc' := 32) (st' := []) rfl rfl ?_
          refine pm_R_ldc2 pm_M287 (pc' := 35) rfl rfl rfl ?_
          exact pm_R_ret pm_M287 (r := some (.long (-1))) rfl rfl (K (-1) m4 w h1 T2 F6 W9)
        · have B30 : sf_B 1 4 a1 := sf_leL (Int32.not_lt.mp c28) B27 sf_k4
          refine pm_R_op pm_M174 (pc' := 11) (st' := [.int 1]) rfl rfl rfl ?_
          refine pm_R_br pm_M174 (pc' := 15) rfl rfl ?_
          refine pm_R_ret pm_M174 (r := some (.int 1)) rfl rfl ?_
          show pm_R _ 287 20 [.ref 41, .int a0, .int a1, .int a2, pm_no, pm_no, pm_no, pm_no, pm_no, pm_no, pm_no, pm_no, pm_no] [.int 1] _ _
          refine pm_R_br pm_M287 (pc' := 23) (st' := []) rfl rfl ?_
          refine pm_R_lo pm_M287 (pc' := 24) rfl rfl rfl ?_
          refine pm_R_op pm_M287 (pc' := 25) (st' := [.int 0, .int a2]) rfl rfl rfl ?_
          refine pm_R_op pm_M287 (pc' := 26) (st' := [.int 2, .int 0, .int a2]) rfl rfl rfl ?_
          refine pm_R_cs pm_M287 (pc' := 29) (ra := [.int 2, .int 0, .int a2]) (rest := []) (ls' := [.int a2, .int 0, .int 2]) rfl rfl (Or.inl rfl) pm_M174 rfl rfl (Nat.le_of_ble_eq_true rfl) rfl rfl ?_
          refine pm_R_lo pm_M174 (pc' := 1) rfl rfl rfl ?_
          refine pm_R_lo pm_M174 (pc' := 2) rfl rfl rfl ?_
          refine pm_R_icmp pm_M174 (t := 14) (pc' := 5) rfl rfl rfl (fun c31 => ?_) (fun c31 => ?_)
          · have B32 : sf_B (-2147483648) (-1) a2 := sf_ltL c31 (sf_any a2) sf_k0
            refine pm_R_op pm_M174 (pc' := 15) (st' := [.int 0]) rfl rfl rfl ?_
            refine pm_R_ret pm_M174 (r := some (.int 0)) rfl rfl ?_
            show pm_R _ 287 29 [.ref 41, .int a0, .int a1, .int a2, pm_no, pm_no, pm_no, pm_no, pm_no, pm_no, pm_no, pm_no, pm_no] [.int 0] _ _
            refine pm_R_br pm_M287 (pc' := 32) (st' := []) rfl rfl ?_
            refine pm_R_ldc2 pm_M287 (pc' := 35) rfl rfl rfl ?_
            exact pm_R_ret pm_M287 (r := some (.long (-1))) rfl rfl (K (-1) m4 w h1 T2 F6 W9)
          · have B33 : sf_B 0 2147483647 a2 := sf_leR (Int32.not_lt.mp c31) sf_k0 (sf_any a2)
            refine pm_R_lo pm_M174 (pc' := 6) rfl rfl rfl ?_
            refine pm_R_lo pm_M174 (pc' := 7) rfl rfl rfl ?_
            refine pm_R_icmp pm_M174 (t := 14) (pc' := 10) rfl rfl rfl (fun c34 => ?_) (fun c34 => ?_)
            · have B35 : sf_B 3 2147483647 a2 := sf_ltR c34 sf_k2 B33
              refine pm_R_op pm_M174 (pc' := 15) (st' := [.int 0]) rfl rfl rfl ?_
              refine pm_R_ret pm_M174 (r := some (.int 0)) rfl rfl ?_
              show pm_R _ 287 29 [.ref 41, .int a0, .int a1, .int a2, pm_no, pm_no, pm_no, pm_no, pm_no, pm_no, pm_no, pm_no, pm_no] [.int 0] _ _
              refine pm_R_br pm_M287 (pc' := 32) (st' := []) rfl rfl ?_
              refine pm_R_ldc2 pm_M287 (pc' := 35) rfl rfl rfl ?_
              exact pm_R_ret pm_M287 (r := some (.long (-1))) rfl rfl (K (-1) m4 w h1 T2 F6 W9)
            · have B36 : sf_B 0 2 a2 := sf_leL (Int32.not_lt.mp c34) B33 sf_k2
              refine pm_R_op pm_M174 (pc' := 11) (st' := [.int 1]) rfl rfl rfl ?_
              refine pm_R_br pm_M174 (pc' := 15) rfl rfl ?_
              refine pm_R_ret pm_M174 (r := some (.int 1)) rfl rfl ?_
              show pm_R _ 287 29 [.ref 41, .int a0, .int a1, .int a2, pm_no, pm_no, pm_no, pm_no, pm_no, pm_no, pm_no, pm_no, pm_no] [.int 1] _ _
              refine pm_R_br pm_M287 (pc' := 36) (st' := []) rfl rfl ?_
              refine pm_R_lo pm_M287 (pc' := 37) rfl rfl rfl ?_
              refine pm_R_lo pm_M287 (pc' := 38) rfl rfl rfl ?_
              refine rf_R_put pm_M287 T2 (pc' := 41) rfl rfl rfl (by decide) rfl rfl B23 rfl rfl (fun h37 m40 em41 T38 F39 => ?_)
              have F42 := F6.trans F39 (by decide)
              have B43 : sf_B 0 1 (m40 23) := by rw [em41]; exact B23
              have ek44 : (m40 23).toInt = (a0).toInt := by rw [em41]; rfl
              have W45 : rf_W [0, 23, 24, 26] m m40 := by rw [em41]; exact W9.put (by decide)
              refine pm_R_op pm_M287 (pc' := 42) (st' := [.long 0]) rfl rfl rfl ?_
              refine pm_R_lo pm_M287 (pc' := 44) (ls' := [.ref 41, .int a0, .int a1, .int a2, .long 0, pm_no, pm_no, pm_no, pm_no, pm_no, pm_no, pm_no, pm_no]) (st' := []) rfl rfl rfl ?_
              refine pm_R_op pm_M287 (pc' := 45) (st' := [.long 0]) rfl rfl rfl ?_
              refine pm_R_lo pm_M287 (pc' := 47) (ls' := [.ref 41, .int a0, .int a1, .int a2, .long 0, pm_no, .long 0, pm_no, pm_no, pm_no, pm_no, pm_no, pm_no]) (st' := []) rfl rfl rfl ?_
              refine pm_R_op pm_M287 (pc' := 48) (st' := [.long 0]) rfl rfl rfl ?_
              refine pm_R_lo pm_M287 (pc' := 50) (ls' := [.ref 41, .int a0, .int a1, .int a2, .long 0, pm_no, .long 0, pm_no, .long 0, pm_no, pm_no, pm_no, pm_no]) (st' := []) rfl rfl rfl ?_
              refine pm_R_op pm_M287 (pc' := 51) (st' := [.int 0]) rfl rfl rfl ?_
              refine pm_R_lo pm_M287 (pc' := 53) (ls' := [.ref 41, .int a0, .int a1, .int a2, .long 0, pm_no, .long 0, pm_no, .long 0, pm_no, .int 0, pm_no, pm_no]) (st' := []) rfl rfl rfl ?_
              have L_770 : ∀ (N : Nat) (h_770 : pm_H) (m_770 : Nat → Int32) (w_770 : Int64) (x10_770 : Int32) (y4_770 : Int64) (y6_770 : Int64) (y8_770 : Int64) (g11_770 : Value) (g12_770 : Value), rf_T m_770 w_770 h_770 → rf_G [41, 53, 55] h h_770 → rf_W [24, 26] m40 m_770 → sf_B 0 2147483647 x10_770 → lf_B 0 1000000000000 y8_770 → g12_770.category = 1 → (2147483647 - x10_770.toInt).toNat = N → pm_R (d + 5) 287 53 [.ref 41, .int a0, .int a1, .int a2, .long y4_770, pm_no, .long y6_770, pm_no, .long y8_770, pm_no, .int x10_770, g11_770, g12_770] [] h_770 Q := by
                intro N
                induction N using Nat.strongRecOn with
                | ind N ih_770 =>
                  intro h_770 m_770 w_770 x10_770 y4_770 y6_770 y8_770 g11_770 g12_770 T_770 F_770 W_770 Bx10_770 By8_770 Cg12_770 hN_770
                  have W773 : rf_W [0, 23, 24, 26] m m_770 := W45.trans W_770 (by decide)
                  refine pm_R_lo pm_M287 (pc' := 55) rfl rfl rfl ?_
                  refine pm_R_lo pm_M287 (pc' := 56) rfl rfl rfl ?_
                  refine pm_R_cs pm_M287 (pc' := 59) (ra := [.int a1]) (rest := [.int x10_770]) (ls' := [.int a1, pm_no, pm_no]) rfl rfl (Or.inl rfl) pm_M242 rfl rfl (Nat.le_of_ble_eq_true rfl) rfl rfl ?_
                  refine rf_c242 (d := d + 4) (sf_weak B30 (by decide) (by decide)) (fun r774 => ?_)
                  show pm_R _ 287 59 [.ref 41, .int a0, .int a1, .int a2, .long y4_770, pm_no, .long y6_770, pm_no, .long y8_770, pm_no, .int x10_770, g11_770, g12_770] [.int r774, .int x10_770] _ _
                  refine pm_R_icmp pm_M287 (t := 145) (pc' := 62) rfl rfl rfl (fun c782 => ?_) (fun c782 => ?_)
                  · skip
                    refine pm_R_lo pm_M287 (pc' := 146) (pm_q287_1 (Nat.le_of_ble_eq_true rfl)) rfl rfl ?_
                    refine pm_R_ifc pm_M287 (t := 154) (pc' := 149) (pm_q287_1 (Nat.le_of_ble_eq_true rfl)) rfl rfl (fun c783 => ?_) (fun c783 => ?_)
                    · have B784 : sf_B 1 2 a2 := sf_neL0 c783 sf_k0 B36
                      refine pm_R_lo pm_M287 (pc' := 155) (pm_q287_1 (Nat.le_of_ble_eq_true rfl)) rfl rfl ?_
                      refine pm_R_op pm_M287 (pc' := 156) (st' := [.int 1, .int a2]) (pm_q287_1 (Nat.le_of_ble_eq_true rfl)) rfl rfl ?_
                      refine pm_R_icmp pm_M287 (t := 164) (pc' := 159) (pm_q287_1 (Nat.le_of_ble_eq_true rfl)) rfl rfl (fun c785 => ?_) (fun c785 => ?_)
                      · have B786 : sf_B 2 2 a2 := sf_neL0 c785 sf_k1 B784
                        refine pm_R_lo pm_M287 (pc' := 166) (pm_q287_1 (Nat.le_of_ble_eq_true rfl)) rfl rfl ?_
                        exact pm_R_ret pm_M287 (r := some (.long y8_770)) (pm_q287_1 (Nat.le_of_ble_eq_true rfl)) rfl (K y8_770 m_770 w_770 h_770 T_770 F_770 W773)
                      · have B787 : sf_B 1 1 a2 := sf_eqL (Classical.not_not.mp c785) sf_k1
                        refine pm_R_lo pm_M287 (pc' := 161) (pm_q287_1 (Nat.le_of_ble_eq_true rfl)) rfl rfl ?_
                        refine pm_R_br pm_M287 (pc' := 166) (pm_q287_1 (Nat.le_of_ble_eq_true rfl)) rfl ?_
                        exact pm_R_ret pm_M287 (r := some (.long y6_770)) (pm_q287_1 (Nat.le_of_ble_eq_true rfl)) rfl (K y6_770 m_770 w_770 h_770 T_770 F_770 W773)
                    · have B788 : sf_B 0 0 a2 := sf_eqL (Classical.not_not.mp c783) sf_k0
                      refine pm_R_lo pm_M287 (pc' := 151) (pm_q287_1 (Nat.le_of_ble_eq_true rfl)) rfl rfl ?_
                      refine pm_R_br pm_M287 (pc' := 166) (pm_q287_1 (Nat.le_of_ble_eq_true rfl)) rfl ?_
                      exact pm_R_ret pm_M287 (r := some (.long y4_770)) (pm_q287_1 (Nat.le_of_ble_eq_true rfl)) rfl (K y4_770 m_770 w_770 h_770 T_770 F_770 W773)
                  · have B789 : sf_B 0 2147483646 x10_770 := sf_ltL (Int32.not_le.mp c782) Bx10_770 (sf_any r774)
                    have B790 : sf_B 1 2147483647 r774 := sf_ltR (Int32.not_le.mp c782) Bx10_770 (sf_any r774)
                    refine pm_R_lo pm_M287 (pc' := 63) rfl rfl rfl ?_
                    refine pm_R_lo pm_M287 (pc' := 64) rfl rfl rfl ?_
                    refine pm_R_lo pm_M287 (pc' := 66) rfl rfl rfl ?_
                    refine pm_R_cv pm_M287 (pc' := 69) (a := 41) (ra := [.int x10_770, .int a1]) (rest := []) (ls' := [.ref 41, .int a1, .int x10_770, pm_no, pm_no]) rfl rfl (Or.inl rfl) pm_M244 T_770.2.1 rfl (by decide) (Nat.lt_of_lt_of_le (by decide) T_770.1) rfl rfl (Nat.le_of_ble_eq_true rfl) rfl rfl ?_
                    refine rf_c244 (d := d + 4) T_770 B30 (sf_weak B789 (by decide) (by decide)) (fun m793 w794 h795 T796 F797 W798 B799 => ?_)
                    have F800 := F_770.trans F797 (by decide)
                    have W801 : rf_W [0, 23, 24, 26] m m793 := W773.trans W798 (by decide)
                    have W802 : rf_W [24, 26] m40 m793 := W_770.trans W798 (by decide)
                    show pm_R _ 287 69 [.ref 41, .int a0, .int a1, .int a2, .long y4_770, pm_no, .long y6_770, pm_no, .long y8_770, pm_no, .int x10_770, g11_770, g12_770] [] _ _
                    refine pm_R_lo pm_M287 (pc' := 70) rfl rfl rfl ?_
                    refine pm_R_cv pm_M287 (pc' := 73) (a := 41) (ra := []) (rest := []) (ls' := [.ref 41, pm_no, pm_no, pm_no, pm_no, pm_no]) rfl rfl (Or.inl rfl) pm_M202 T796.2.1 rfl (by decide) (Nat.lt_of_lt_of_le (by decide) T796.1) rfl rfl (Nat.le_of_ble_eq_true rfl) rfl rfl ?_
                    refine rf_c202 (d := d + 0) T796  (fun m805 w806 h807 T808 F809 W810 => ?_)
                    have F811 := F800.trans F809 (by decide)
                    have B812 : sf_B 1 4 (m805 24) := by rw [W810 24 (by decide)]; exact B799
                    have W813 : rf_W [0, 23, 24, 26] m m805 := W801.trans W810 (by decide)
                    have W814 : rf_W [24, 26] m40 m805 := W802.trans W810 (by decide)
                    show pm_R _ 287 73 [.ref 41, .int a0, .int a1, .int a2, .long y4_770, pm_no, .long y6_770, pm_no, .long y8_770, pm_no, .int x10_770, g11_770, g12_770] [] _ _
                    refine pm_R_lo pm_M287 (pc' := 74) rfl rfl rfl ?_
                    refine rf_R_get pm_M287 T808 (pc' := 77) (v := .ref 55) rfl rfl rfl rfl ?_
                    refine pm_R_op pm_M287 (pc' := 78) (st' := [.int 0, .ref 55]) rfl rfl rfl ?_
                    refine pm_R_op pm_M287 (pc' := 79) (st' := [.int 0, .int 0, .ref 55]) rfl rfl rfl ?_
                    refine pm_R_lo pm_M287 (pc' := 80) rfl rfl rfl ?_
                    refine pm_R_op pm_M287 (pc' := 81) (st' := [.int 1, .int a1, .int 0, .int 0, .ref 55]) rfl rfl rfl ?_
                    refine sf_R_isub pm_M287 (pc' := 82) rfl rfl B30 sf_k1 (by decide) (by decide) (fun z815 e816 B817 => ?_)
                    refine pm_R_cs pm_M287 (pc' := 85) (ra := [.int z815, .int 0, .int 0]) (rest := [.ref 55]) (ls' := [.int 0, .int 0, .int z815]) rfl rfl (Or.inl rfl) pm_M207 rfl rfl (Nat.le_of_ble_eq_true rfl) rfl rfl ?_
                    refine pm_R_op pm_M207 (pc' := 3) (st' := [.int 144]) rfl rfl rfl ?_
                    refine pm_R_lo pm_M207 (pc' := 4) rfl rfl rfl ?_
                    refine pm_R_op pm_M207 (pc' := 5) (st' := [.int 0]) rfl rfl rfl ?_
                    refine pm_R_op pm_M207 (pc' := 7) (st' := [.int 12, .int 0]) rfl rfl rfl ?_
                    refine pm_R_lo pm_M207 (pc' := 8) rfl rfl rfl ?_
                    refine pm_R_op pm_M207 (pc' := 9) (st' := [.int 0, .int 0]) rfl rfl rfl ?_
                    refine pm_R_op pm_M207 (pc' := 10) (st' := [.int 0]) rfl rfl rfl ?_
                    refine pm_R_lo pm_M207 (pc' := 11) rfl rfl rfl ?_
                    refine sf_R_iadd pm_M207 (pc' := 12) rfl rfl sf_k0 B817 (by decide) (by decide) (fun z818 e819 B820 => ?_)
                    refine pm_R_ret pm_M207 (r := some (.int z818)) rfl (pm_ret_i _) ?_
                    show pm_R _ 287 85 [.ref 41, .int a0, .int a1, .int a2, .long y4_770, pm_no, .long y6_770, pm_no, .long y8_770, pm_no, .int x10_770, g11_770, g12_770] [.int z818, .ref 55] _ _
                    obtain ⟨f821, e822, b823⟩ := T808.2.2.2.1 55 (by decide) (by decide)
                    refine rf_R_lld pm_M287 T808 (pc' := 86) rfl e822 (by decide) (by decide) (sf_in B820 (by decide) (by decide)) rfl (fun z824 ez825 => ?_)
                    have B826 : lf_B 0 1000000000000 z824 := ez825 ▸ b823 _
                    refine pm_R_lo pm_M287 (pc' := 88) (ls' := [.ref 41, .int a0, .int a1, .int a2, .long y4_770, pm_no, .long y6_770, pm_no, .long y8_770, pm_no, .int x10_770, .long z824, pm_no]) (st' := []) rfl rfl rfl ?_
                    refine pm_R_lo pm_M287 (pc' := 90) rfl rfl rfl ?_
                    refine pm_R_lo pm_M287 (pc' := 92) rfl rfl rfl ?_
                    refine pm_R_op pm_M287 (pc' := 93) (st' := [.long 0, .long z824, .long y4_770]) rfl rfl rfl ?_
                    refine sf_R_lcmp pm_M287 (pc' := 94) rfl rfl (fun z827 e828 => ?_)
                    have B829 : sf_B 0 2147483647 z827 := sf_leR (Int32.not_lt.mp (lf_cmpGe e828 B826 (⟨by decide, by decide⟩ : lf_B 0 0 0) (by decide))) sf_k0 (sf_any z827)
                    refine pm_R_ifc pm_M287 (t := 101) (pc' := 97) rfl rfl rfl (fun c830 => ?_) (fun c830 => ?_)
                    · have B831 : sf_B 0 0 z827 := sf_leL c830 B829 sf_k0
                      have k832 := lf_ge e828 B831 (by decide)
                      refine pm_R_op pm_M287 (pc' := 102) (st' := [.long 0, .long y4_770]) rfl rfl rfl ?_
                      refine sf_R_lany pm_M287 (pc' := 103) (st := []) rfl rfl rfl (fun z833 => ?_)
                      refine pm_R_lo pm_M287 (pc' := 105) (ls' := [.ref 41, .int a0, .int a1, .int a2, .long z833, pm_no, .long y6_770, pm_no, .long y8_770, pm_no, .int x10_770, .long z824, pm_no]) (st' := []) (pm_q287_1 (Nat.le_of_ble_eq_true rfl)) rfl rfl ?_
                      refine pm_R_lo pm_M287 (pc' := 107) (pm_q287_1 (Nat.le_of_ble_eq_true rfl)) rfl rfl ?_
                      refine pm_R_lo pm_M287 (pc' := 109) (pm_q287_1 (Nat.le_of_ble_eq_true rfl)) rfl rfl ?_
                      refine pm_R_op pm_M287 (pc' := 110) (st' := [.long 1, .long z824, .long y6_770]) (pm_q287_1 (Nat.le_of_ble_eq_true rfl)) rfl rfl ?_
                      refine sf_R_lcmp pm_M287 (pc' := 111) (pm_q287_1 (Nat.le_of_ble_eq_true rfl)) rfl (fun z834 e835 => ?_)
                      refine pm_R_ifc pm_M287 (t := 118) (pc' := 114) (pm_q287_1 (Nat.le_of_ble_eq_true rfl)) rfl rfl (fun c836 => ?_) (fun c836 => ?_)
                      · have k837 := sf_lneC e835 c836
                        refine pm_R_op pm_M287 (pc' := 119) (st' := [.long 0, .long y6_770]) (pm_q287_1 (Nat.le_of_ble_eq_true rfl)) rfl rfl ?_
                        refine sf_R_lany pm_M287 (pc' := 120) (st := []) (pm_q287_1 (Nat.le_of_ble_eq_true rfl)) rfl rfl (fun z838 => ?_)
                        refine pm_R_lo pm_M287 (pc' := 122) (ls' := [.ref 41, .int a0, .int a1, .int a2, .long z833, pm_no, .long z838, pm_no, .long y8_770, pm_no, .int x10_770, .long z824, pm_no]) (st' := []) (pm_q287_1 (Nat.le_of_ble_eq_true rfl)) rfl rfl ?_
                        refine pm_R_lo pm_M287 (pc' := 124) (pm_q287_1 (Nat.le_of_ble_eq_true rfl)) rfl rfl ?_
                        refine pm_R_lo pm_M287 (pc' := 126) (pm_q287_1 (Nat.le_of_ble_eq_true rfl)) rfl rfl ?_
                        refine sf_R_lcmp pm_M287 (pc' := 127) (pm_q287_1 (Nat.le_of_ble_eq_true rfl)) rfl (fun z839 e840 => ?_)
                        refine pm_R_ifc pm_M287 (t := 135) (pc' := 130) (pm_q287_1 (Nat.le_of_ble_eq_true rfl)) rfl rfl (fun c841 => ?_) (fun c841 => ?_)
                        · have B842 : sf_B (-2147483648) 0 z839 := sf_leL c841 (sf_any z839) sf_k0
                          refine pm_R_lo pm_M287 (pc' := 137) (pm_q287_1 (Nat.le_of_ble_eq_true rfl)) rfl rfl ?_
                          refine pm_R_lo pm_M287 (pc' := 139) (ls' := [.ref 41, .int a0, .int a1, .int a2, .long z833, pm_no, .long z838, pm_no, .long y8_770, pm_no, .int x10_770, .long z824, pm_no]) (st' := []) (pm_q287_1 (Nat.le_of_ble_eq_true rfl)) rfl rfl ?_
                          refine sf_R_iinc pm_M287 (pc' := 142) (ls' := fun z => [.ref 41, .int a0, .int a1, .int a2, .long z833, pm_no, .long z838, pm_no, .long y8_770, pm_no, .int z, .long z824, pm_no]) (pm_q287_1 (Nat.le_of_ble_eq_true rfl)) B789 rfl (by decide) (by decide) (by decide) (fun _ => rfl) rfl (fun z843 e844 B845 => ?_)
                          show pm_R _ 287 142 [.ref 41, .int a0, .int a1, .int a2, .long z833, pm_no, .long z838, pm_no, .long y8_770, pm_no, .int z843, .long z824, pm_no] [] _ _
                          refine pm_R_br pm_M287 (pc' := 53) (pm_q287_1 (Nat.le_of_ble_eq_true rfl)) rfl ?_
                          exact ih_770 _ (sf_up hN_770 e844 B789 (by decide) (by decide)) h807 m805 w806 z843 z833 z838 y8_770 (.long z824) (pm_no) T808 F811 W814 (sf_weak B845 (by decide) (by decide)) By8_770 rfl rfl
                        · have B846 : sf_B 1 2147483647 z839 := sf_ltR (Int32.not_le.mp c841) sf_k0 (sf_any z839)
                          have k847 := lf_ge e840 B846 (by decide)
                          have k848 := sf_lneA e840 B846 (by decide)
                          refine pm_R_lo pm_M287 (pc' := 132) (pm_q287_1 (Nat.le_of_ble_eq_true rfl)) rfl rfl ?_
                          refine pm_R_br pm_M287 (pc' := 137) (pm_q287_1 (Nat.le_of_ble_eq_true rfl)) rfl ?_
                          refine pm_R_lo pm_M287 (pc' := 139) (ls' := [.ref 41, .int a0, .int a1, .int a2, .long z833, pm_no, .long z838, pm_no, .long z824, pm_no, .int x10_770, .long z824, pm_no]) (st' := []) (pm_q287_1 (Nat.le_of_ble_eq_true rfl)) rfl rfl ?_
                          refine sf_R_iinc pm_M287 (pc' := 142) (ls' := fun z => [.ref 41, .int a0, .int a1, .int a2, .long z833, pm_no, .long z838, pm_no, .long z824, pm_no, .int z, .long z824, pm_no]) (pm_q287_1 (Nat.le_of_ble_eq_true rfl)) B789 rfl (by decide) (by decide) (by decide) (fun _ => rfl) rfl (fun z849 e850 B851 => ?_)
                          show pm_R _ 287 142 [.ref 41, .int a0, .int a1, .int a2, .long z833, pm_no, .long z838, pm_no, .long z824, pm_no, .int z849, .long z824, pm_no] [] _ _
                          refine pm_R_br pm_M287 (pc' := 53) (pm_q287_1 (Nat.le_of_ble_eq_true rfl)) rfl ?_
                          exact ih_770 _ (sf_up hN_770 e850 B789 (by decide) (by decide)) h807 m805 w806 z849 z833 z838 z824 (.long z824) (pm_no) T808 F811 W814 (sf_weak B851 (by decide) (by decide)) B826 rfl rfl
                      · have B852 : sf_B 0 0 z834 := sf_eqL (Classical.not_not.mp c836) sf_k0
                        refine pm_R_op pm_M287 (pc' := 115) (st' := [.long 1, .long y6_770]) (pm_q287_1 (Nat.le_of_ble_eq_true rfl)) rfl rfl ?_
                        refine pm_R_br pm_M287 (pc' := 119) (pm_q287_1 (Nat.le_of_ble_eq_true rfl)) rfl ?_
                        refine sf_R_lany pm_M287 (pc' := 120) (st := []) (pm_q287_1 (Nat.le_of_ble_eq_true rfl)) rfl rfl (fun z853 => ?_)
                        refine pm_R_lo pm_M287 (pc' := 122) (ls' := [.ref 41, .int a0, .int a1, .int a2, .long z833, pm_no, .long z853, pm_no, .long y8_770, pm_no, .int x10_770, .long z824, pm_no]) (st' := []) (pm_q287_1 (Nat.le_of_ble_eq_true rfl)) rfl rfl ?_
                        refine pm_R_lo pm_M287 (pc' := 124) (pm_q287_1 (Nat.le_of_ble_eq_true rfl)) rfl rfl ?_
                        refine pm_R_lo pm_M287 (pc' := 126) (pm_q287_1 (Nat.le_of_ble_eq_true rfl)) rfl rfl ?_
                        refine sf_R_lcmp pm_M287 (pc' := 127) (pm_q287_1 (Nat.le_of_ble_eq_true rfl)) rfl (fun z854 e855 => ?_)
                        refine pm_R_ifc pm_M287 (t := 135) (pc' := 130) (pm_q287_1 (Nat.le_of_ble_eq_true rfl)) rfl rfl (fun c856 => ?_) (fun c856 => ?_)
                        · have B857 : sf_B (-2147483648) 0 z854 := sf_leL c856 (sf_any z854) sf_k0
                          refine pm_R_lo pm_M287 (pc' := 137) (pm_q287_1 (Nat.le_of_ble_eq_true rfl)) rfl rfl ?_
                          refine pm_R_lo pm_M287 (pc' := 139) (ls' := [.ref 41, .int a0, .int a1, .int a2, .long z833, pm_no, .long z853, pm_no, .long y8_770, pm_no, .int x10_770, .long z824, pm_no]) (st' := []) (pm_q287_1 (Nat.le_of_ble_eq_true rfl)) rfl rfl ?_
                          refine sf_R_iinc pm_M287 (pc' := 142) (ls' := fun z => [.ref 41, .int a0, .int a1, .int a2, .long z833, pm_no, .long z853, pm_no, .long y8_770, pm_no, .int z, .long z824, pm_no]) (pm_q287_1 (Nat.le_of_ble_eq_true rfl)) B789 rfl (by decide) (by decide) (by decide) (fun _ => rfl) rfl (fun z858 e859 B860 => ?_)
                          show pm_R _ 287 142 [.ref 41, .int a0, .int a1, .int a2, .long z833, pm_no, .long z853, pm_no, .long y8_770, pm_no, .int z858, .long z824, pm_no] [] _ _
                          refine pm_R_br pm_M287 (pc' := 53) (pm_q287_1 (Nat.le_of_ble_eq_true rfl)) rfl ?_
                          exact ih_770 _ (sf_up hN_770 e859 B789 (by decide) (by decide)) h807 m805 w806 z858 z833 z853 y8_770 (.long z824) (pm_no) T808 F811 W814 (sf_weak B860 (by decide) (by decide)) By8_770 rfl rfl
                        · have B861 : sf_B 1 2147483647 z854 := sf_ltR (Int32.not_le.mp c856) sf_k0 (sf_any z854)
                          have k862 := lf_ge e855 B861 (by decide)
                          have k863 := sf_lneA e855 B861 (by decide)
                          refine pm_R_lo pm_M287 (pc' := 132) (pm_q287_1 (Nat.le_of_ble_eq_true rfl)) rfl rfl ?_
                          refine pm_R_br pm_M287 (pc' := 137) (pm_q287_1 (Nat.le_of_ble_eq_true rfl)) rfl ?_
                          refine pm_R_lo pm_M287 (pc' := 139) (ls' := [.ref 41, .int a0, .int a1, .int a2, .long z833, pm_no, .long z853, pm_no, .long z824, pm_no, .int x10_770, .long z824, pm_no]) (st' := []) (pm_q287_1 (Nat.le_of_ble_eq_true rfl)) rfl rfl ?_
                          refine sf_R_iinc pm_M287 (pc' := 142) (ls' := fun z => [.ref 41, .int a0, .int a1, .int a2, .long z833, pm_no, .long z853, pm_no, .long z824, pm_no, .int z, .long z824, pm_no]) (pm_q287_1 (Nat.le_of_ble_eq_true rfl)) B789 rfl (by decide) (by decide) (by decide) (fun _ => rfl) rfl (fun z864 e865 B866 => ?_)
                          show pm_R _ 287 142 [.ref 41, .int a0, .int a1, .int a2, .long z833, pm_no, .long z853, pm_no, .long z824, pm_no, .int z864, .long z824, pm_no] [] _ _
                          refine pm_R_br pm_M287 (pc' := 53) (pm_q287_1 (Nat.le_of_ble_eq_true rfl)) rfl ?_
                          exact ih_770 _ (sf_up hN_770 e865 B789 (by decide) (by decide)) h807 m805 w806 z864 z833 z853 z824 (.long z824) (pm_no) T808 F811 W814 (sf_weak B866 (by decide) (by decide)) B826 rfl rfl
                    · have B867 : sf_B 1 2147483647 z827 := sf_ltR (Int32.not_le.mp c830) sf_k0 B829
                      have k868 := lf_ge e828 B867 (by decide)
                      have k869 := sf_lneA e828 B867 (by decide)
                      refine pm_R_op pm_M287 (pc' := 98) (st' := [.long 1, .long y4_770]) rfl rfl rfl ?_
                      refine pm_R_br pm_M287 (pc' := 102) rfl rfl ?_
                      refine sf_R_lany pm_M287 (pc' := 103) (st := []) rfl rfl rfl (fun z870 => ?_)
                      refine pm_R_lo pm_M287 (pc' := 105) (ls' := [.ref 41, .int a0, .int a1, .int a2, .long z870, pm_no, .long y6_770, pm_no, .long y8_770, pm_no, .int x10_770, .long z824, pm_no]) (st' := []) (pm_q287_1 (Nat.le_of_ble_eq_true rfl)) rfl rfl ?_
                      refine pm_R_lo pm_M287 (pc' := 107) (pm_q287_1 (Nat.le_of_ble_eq_true rfl)) rfl rfl ?_
                      refine pm_R_lo pm_M287 (pc' := 109) (pm_q287_1 (Nat.le_of_ble_eq_true rfl)) rfl rfl ?_
                      refine pm_R_op pm_M287 (pc' := 110) (st' := [.long 1, .long z824, .long y6_770]) (pm_q287_1 (Nat.le_of_ble_eq_true rfl)) rfl rfl ?_
                      refine sf_R_lcmp pm_M287 (pc' := 111) (pm_q287_1 (Nat.le_of_ble_eq_true rfl)) rfl (fun z871 e872 => ?_)
                      refine pm_R_ifc pm_M287 (t := 118) (pc' := 114) (pm_q287_1 (Nat.le_of_ble_eq_true rfl)) rfl rfl (fun c873 => ?_) (fun c873 => ?_)
                      · have k874 := sf_lneC e872 c873
                        refine pm_R_op pm_M287 (pc' := 119) (st' := [.long 0, .long y6_770]) (pm_q287_1 (Nat.le_of_ble_eq_true rfl)) rfl rfl ?_
                        refine sf_R_lany pm_M287 (pc' := 120) (st := []) (pm_q287_1 (Nat.le_of_ble_eq_true rfl)) rfl rfl (fun z875 => ?_)
                        refine pm_R_lo pm_M287 (pc' := 122) (ls' := [.ref 41, .int a0, .int a1, .int a2, .long z870, pm_no, .long z875, pm_no, .long y8_770, pm_no, .int x10_770, .long z824, pm_no]) (st' := []) (pm_q287_1 (Nat.le_of_ble_eq_true rfl)) rfl rfl ?_
                        refine pm_R_lo pm_M287 (pc' := 124) (pm_q287_1 (Nat.le_of_ble_eq_true rfl)) rfl rfl ?_
                        refine pm_R_lo pm_M287 (pc' := 126) (pm_q287_1 (Nat.le_of_ble_eq_true rfl)) rfl rfl ?_
                        refine sf_R_lcmp pm_M287 (pc' := 127) (pm_q287_1 (Nat.le_of_ble_eq_true rfl)) rfl (fun z876 e877 => ?_)
                        refine pm_R_ifc pm_M287 (t := 135) (pc' := 130) (pm_q287_1 (Nat.le_of_ble_eq_true rfl)) rfl rfl (fun c878 => ?_) (fun c878 => ?_)
                        · have B879 : sf_B (-2147483648) 0 z876 := sf_leL c878 (sf_any z876) sf_k0
                          refine pm_R_lo pm_M287 (pc' := 137) (pm_q287_1 (Nat.le_of_ble_eq_true rfl)) rfl rfl ?_
                          refine pm_R_lo pm_M287 (pc' := 139) (ls' := [.ref 41, .int a0, .int a1, .int a2, .long z870, pm_no, .long z875, pm_no, .long y8_770, pm_no, .int x10_770, .long z824, pm_no]) (st' := []) (pm_q287_1 (Nat.le_of_ble_eq_true rfl)) rfl rfl ?_
                          refine sf_R_iinc pm_M287 (pc' := 142) (ls' := fun z => [.ref 41, .int a0, .int a1, .int a2, .long z870, pm_no, .long z875, pm_no, .long y8_770, pm_no, .int z, .long z824, pm_no]) (pm_q287_1 (Nat.le_of_ble_eq_true rfl)) B789 rfl (by decide) (by decide) (by decide) (fun _ => rfl) rfl (fun z880 e881 B882 => ?_)
                          show pm_R _ 287 142 [.ref 41, .int a0, .int a1, .int a2, .long z870, pm_no, .long z875, pm_no, .long y8_770, pm_no, .int z880, .long z824, pm_no] [] _ _
                          refine pm_R_br pm_M287 (pc' := 53) (pm_q287_1 (Nat.le_of_ble_eq_true rfl)) rfl ?_
                          exact ih_770 _ (sf_up hN_770 e881 B789 (by decide) (by decide)) h807 m805 w806 z880 z870 z875 y8_770 (.long z824) (pm_no) T808 F811 W814 (sf_weak B882 (by decide) (by decide)) By8_770 rfl rfl
                        · have B883 : sf_B 1 2147483647 z876 := sf_ltR (Int32.not_le.mp c878) sf_k0 (sf_any z876)
                          have k884 := lf_ge e877 B883 (by decide)
                          have k885 := sf_lneA e877 B883 (by decide)
                          refine pm_R_lo pm_M287 (pc' := 132) (pm_q287_1 (Nat.le_of_ble_eq_true rfl)) rfl rfl ?_
                          refine pm_R_br pm_M287 (pc' := 137) (pm_q287_1 (Nat.le_of_ble_eq_true rfl)) rfl ?_
                          refine pm_R_lo pm_M287 (pc' := 139) (ls' := [.ref 41, .int a0, .int a1, .int a2, .long z870, pm_no, .long z875, pm_no, .long z824, pm_no, .int x10_770, .long z824, pm_no]) (st' := []) (pm_q287_1 (Nat.le_of_ble_eq_true rfl)) rfl rfl ?_
                          refine sf_R_iinc pm_M287 (pc' := 142) (ls' := fun z => [.ref 41, .int a0, .int a1, .int a2, .long z870, pm_no, .long z875, pm_no, .long z824, pm_no, .int z, .long z824, pm_no]) (pm_q287_1 (Nat.le_of_ble_eq_true rfl)) B789 rfl (by decide) (by decide) (by decide) (fun _ => rfl) rfl (fun z886 e887 B888 => ?_)
                          show pm_R _ 287 142 [.ref 41, .int a0, .int a1, .int a2, .long z870, pm_no, .long z875, pm_no, .long z824, pm_no, .int z886, .long z824, pm_no] [] _ _
                          refine pm_R_br pm_M287 (pc' := 53) (pm_q287_1 (Nat.le_of_ble_eq_true rfl)) rfl ?_
                          exact ih_770 _ (sf_up hN_770 e887 B789 (by decide) (by decide)) h807 m805 w806 z886 z870 z875 z824 (.long z824) (pm_no) T808 F811 W814 (sf_weak B888 (by decide) (by decide)) B826 rfl rfl
                      · have B889 : sf_B 0 0 z871 := sf_eqL (Classical.not_not.mp c873) sf_k0
                        refine pm_R_op pm_M287 (pc' := 115) (st' := [.long 1, .long y6_770]) (pm_q287_1 (Nat.le_of_ble_eq_true rfl)) rfl rfl ?_
                        refine pm_R_br pm_M287 (pc' := 119) (pm_q287_1 (Nat.le_of_ble_eq_true rfl)) rfl ?_
                        refine sf_R_lany pm_M287 (pc' := 120) (st := []) (pm_q287_1 (Nat.le_of_ble_eq_true rfl)) rfl rfl (fun z890 => ?_)
                        refine pm_R_lo pm_M287 (pc' := 122) (ls' := [.ref 41, .int a0, .int a1, .int a2, .long z870, pm_no, .long z890, pm_no, .long y8_770, pm_no, .int x10_770, .long z824, pm_no]) (st' := []) (pm_q287_1 (Nat.le_of_ble_eq_true rfl)) rfl rfl ?_
                        refine pm_R_lo pm_M287 (pc' := 124) (pm_q287_1 (Nat.le_of_ble_eq_true rfl)) rfl rfl ?_
                        refine pm_R_lo pm_M287 (pc' := 126) (pm_q287_1 (Nat.le_of_ble_eq_true rfl)) rfl rfl ?_
                        refine sf_R_lcmp pm_M287 (pc' := 127) (pm_q287_1 (Nat.le_of_ble_eq_true rfl)) rfl (fun z891 e892 => ?_)
                        refine pm_R_ifc pm_M287 (t := 135) (pc' := 130) (pm_q287_1 (Nat.le_of_ble_eq_true rfl)) rfl rfl (fun c893 => ?_) (fun c893 => ?_)
                        · have B894 : sf_B (-2147483648) 0 z891 := sf_leL c893 (sf_any z891) sf_k0
                          refine pm_R_lo pm_M287 (pc' := 137) (pm_q287_1 (Nat.le_of_ble_eq_true rfl)) rfl rfl ?_
                          refine pm_R_lo pm_M287 (pc' := 139) (ls' := [.ref 41, .int a0, .int a1, .int a2, .long z870, pm_no, .long z890, pm_no, .long y8_770, pm_no, .int x10_770, .long z824, pm_no]) (st' := []) (pm_q287_1 (Nat.le_of_ble_eq_true rfl)) rfl rfl ?_
                          refine sf_R_iinc pm_M287 (pc' := 142) (ls' := fun z => [.ref 41, .int a0, .int a1, .int a2, .long z870, pm_no, .long z890, pm_no, .long y8_770, pm_no, .int z, .long z824, pm_no]) (pm_q287_1 (Nat.le_of_ble_eq_true rfl)) B789 rfl (by decide) (by decide) (by decide) (fun _ => rfl) rfl (fun z895 e896 B897 => ?_)
                          show pm_R _ 287 142 [.ref 41, .int a0, .int a1, .int a2, .long z870, pm_no, .long z890, pm_no, .long y8_770, pm_no, .int z895, .long z824, pm_no] [] _ _
                          refine pm_R_br pm_M287 (pc' := 53) (pm_q287_1 (Nat.le_of_ble_eq_true rfl)) rfl ?_
                          exact ih_770 _ (sf_up hN_770 e896 B789 (by decide) (by decide)) h807 m805 w806 z895 z870 z890 y8_770 (.long z824) (pm_no) T808 F811 W814 (sf_weak B897 (by decide) (by decide)) By8_770 rfl rfl
                        · have B898 : sf_B 1 2147483647 z891 := sf_ltR (Int32.not_le.mp c893) sf_k0 (sf_any z891)
                          have k899 := lf_ge e892 B898 (by decide)
                          have k900 := sf_lneA e892 B898 (by decide)
                          refine pm_R_lo pm_M287 (pc' := 132) (pm_q287_1 (Nat.le_of_ble_eq_true rfl)) rfl rfl ?_
                          refine pm_R_br pm_M287 (pc' := 137) (pm_q287_1 (Nat.le_of_ble_eq_true rfl)) rfl ?_
                          refine pm_R_lo pm_M287 (pc' := 139) (ls' := [.ref 41, .int a0, .int a1, .int a2, .long z870, pm_no, .long z890, pm_no, .long z824, pm_no, .int x10_770, .long z824, pm_no]) (st' := []) (pm_q287_1 (Nat.le_of_ble_eq_true rfl)) rfl rfl ?_
                          refine sf_R_iinc pm_M287 (pc' := 142) (ls' := fun z => [.ref 41, .int a0, .int a1, .int a2, .long z870, pm_no, .long z890, pm_no, .long z824, pm_no, .int z, .long z824, pm_no]) (pm_q287_1 (Nat.le_of_ble_eq_true rfl)) B789 rfl (by decide) (by decide) (by decide) (fun _ => rfl) rfl (fun z901 e902 B903 => ?_)
                          show pm_R _ 287 142 [.ref 41, .int a0, .int a1, .int a2, .long z870, pm_no, .long z890, pm_no, .long z824, pm_no, .int z901, .long z824, pm_no] [] _ _
                          refine pm_R_br pm_M287 (pc' := 53) (pm_q287_1 (Nat.le_of_ble_eq_true rfl)) rfl ?_
                          exact ih_770 _ (sf_up hN_770 e902 B789 (by decide) (by decide)) h807 m805 w806 z901 z870 z890 z824 (.long z824) (pm_no) T808 F811 W814 (sf_weak B903 (by decide) (by decide)) B826 rfl rfl
              exact L_770 _ h37 m40 w 0 0 0 0 (pm_no) (pm_no) T38 F42 (rf_W.refl _ _) (sf_weak sf_k0 (by decide) (by decide)) (lf_weak (⟨by decide, by decide⟩ : lf_B 0 0 0) (by decide) (by decide)) rfl rfl
