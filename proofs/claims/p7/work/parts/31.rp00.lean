set_option maxRecDepth 100000 in
set_option maxHeartbeats 4000000 in
/-- SilentTableModel.later -/
theorem rf_c182 {d : Nat} {m : Nat → Int32} {w : Int64} {h : pm_H} {Q : Option Value → pm_H → Prop} {a0 : Int32} {a1 : Int32} (T : rf_T m w h) (Ba0 : sf_B 2 4 a0) (Ba1 : sf_B 0 600 a1) (K : ∀ (m_q : Nat → Int32) (w_q : Int64) (h_q : pm_H), rf_T m_q w_q h_q → rf_G [41] h h_q → rf_W [17, 18] m m_q → sf_B 1 4 (m_q 17) → Q none h_q) : pm_R (d + 0) 182 0 [.ref 41, .int a0, .int a1] [] h Q := by
  refine pm_R_lo pm_M182 (pc_q := 1) rfl rfl rfl ?_
  have B1 : sf_B 0 4 (m 17) := T.2.2.1 17
  refine rf_R_get pm_M182 T (pc_q := 4) (v := .int (m 17)) rfl rfl rfl rfl ?_
  refine pm_R_ifc pm_M182 (t := 31) (pc_q := 7) rfl rfl rfl (fun c2 => ?_) (fun c2 => ?_)
  · have B3 : sf_B 0 0 (m 17) := sf_eqL c2 sf_k0
    refine pm_R_lo pm_M182 (pc_q := 32) rfl rfl rfl ?_
    refine pm_R_lo pm_M182 (pc_q := 33) rfl rfl rfl ?_
    refine rf_R_put pm_M182 T (pc_q := 36) rfl rfl rfl (by decide) rfl rfl (sf_weak Ba0 (by decide) (by decide)) rfl rfl (fun h4 m7 em8 T5 F6 => ?_)
    have F9 := (rf_G.refl [41] h).trans F6 (by decide)
    have B10 : sf_B 2 4 (m7 17) := by rw [em8]; exact Ba0
    have ek11 : (m7 17).toInt = (a0).toInt := by rw [em8]; rfl
    have W12 : rf_W [17, 18] m m7 := by rw [em8]; exact (rf_W.refl [17, 18] m).put (by decide)
    refine pm_R_lo pm_M182 (pc_q := 37) rfl rfl rfl ?_
    refine pm_R_lo pm_M182 (pc_q := 38) rfl rfl rfl ?_
    refine rf_R_put pm_M182 T5 (pc_q := 41) rfl rfl rfl (by decide) rfl rfl Ba1 rfl rfl (fun h13 m16 em17 T14 F15 => ?_)
    have F18 := F9.trans F15 (by decide)
    have B19 : sf_B 2 4 (m16 17) := by rw [em17]; exact B10
    have ek20 : (m16 17).toInt = (a0).toInt := by rw [em17]; exact ek11
    have B21 : sf_B 0 600 (m16 18) := by rw [em17]; exact Ba1
    have ek22 : (m16 18).toInt = (a1).toInt := by rw [em17]; rfl
    have W23 : rf_W [17, 18] m m16 := by rw [em17]; exact W12.put (by decide)
    exact pm_R_ret pm_M182 (r := none) rfl rfl (K m16 w h13 T14 F18 W23 (sf_weak B19 (by decide) (by decide)))
  · have B24 : sf_B 1 4 (m 17) := sf_neL0 c2 sf_k0 B1
    refine pm_R_lo pm_M182 (pc_q := 8) rfl rfl rfl ?_
    refine pm_R_lo pm_M182 (pc_q := 9) rfl rfl rfl ?_
    have B25 : sf_B 0 600 (m 18) := T.2.2.1 18
    refine rf_R_get pm_M182 T (pc_q := 12) (v := .int (m 18)) rfl rfl rfl rfl ?_
    refine pm_R_icmp pm_M182 (t := 31) (pc_q := 15) rfl rfl rfl (fun c26 => ?_) (fun c26 => ?_)
    · have B27 : sf_B 0 599 a1 := sf_ltL c26 Ba1 B25
      have B28 : sf_B 1 600 (m 18) := sf_ltR c26 Ba1 B25
      refine pm_R_lo pm_M182 (pc_q := 32) rfl rfl rfl ?_
      refine pm_R_lo pm_M182 (pc_q := 33) rfl rfl rfl ?_
      refine rf_R_put pm_M182 T (pc_q := 36) rfl rfl rfl (by decide) rfl rfl (sf_weak Ba0 (by decide) (by decide)) rfl rfl (fun h29 m32 em33 T30 F31 => ?_)
      have F34 := (rf_G.refl [41] h).trans F31 (by decide)
      have B35 : sf_B 1 600 (m32 18) := by rw [em33]; exact B28
      have B36 : sf_B 2 4 (m32 17) := by rw [em33]; exact Ba0
      have ek37 : (m32 17).toInt = (a0).toInt := by rw [em33]; rfl
      have W38 : rf_W [17, 18] m m32 := by rw [em33]; exact (rf_W.refl [17, 18] m).put (by decide)
      refine pm_R_lo pm_M182 (pc_q := 37) rfl rfl rfl ?_
      refine pm_R_lo pm_M182 (pc_q := 38) rfl rfl rfl ?_
      refine rf_R_put pm_M182 T30 (pc_q := 41) rfl rfl rfl (by decide) rfl rfl (sf_weak B27 (by decide) (by decide)) rfl rfl (fun h39 m42 em43 T40 F41 => ?_)
      have F44 := F34.trans F41 (by decide)
      have B45 : sf_B 2 4 (m42 17) := by rw [em43]; exact B36
      have ek46 : (m42 17).toInt = (a0).toInt := by rw [em43]; exact ek37
      have B47 : sf_B 0 599 (m42 18) := by rw [em43]; exact B27
      have ek48 : (m42 18).toInt = (a1).toInt := by rw [em43]; rfl
      have W49 : rf_W [17, 18] m m42 := by rw [em43]; exact W38.put (by decide)
      exact pm_R_ret pm_M182 (r := none) rfl rfl (K m42 w h39 T40 F44 W49 (sf_weak B45 (by decide) (by decide)))
    · skip
      refine pm_R_lo pm_M182 (pc_q := 16) rfl rfl rfl ?_
      refine pm_R_lo pm_M182 (pc_q := 17) rfl rfl rfl ?_
      refine rf_R_get pm_M182 T (pc_q := 20) (v := .int (m 18)) rfl rfl rfl rfl ?_
      refine pm_R_icmp pm_M182 (t := 41) (pc_q := 23) rfl rfl rfl (fun c50 => ?_) (fun c50 => ?_)
      · skip
        exact pm_R_ret pm_M182 (r := none) rfl rfl (K m w h T (rf_G.refl [41] h) (rf_W.refl [17, 18] m) B24)
      · refine pm_R_lo pm_M182 (pc_q := 24) rfl rfl rfl ?_
        refine pm_R_lo pm_M182 (pc_q := 25) rfl rfl rfl ?_
        refine rf_R_get pm_M182 T (pc_q := 28) (v := .int (m 17)) rfl rfl rfl rfl ?_
        refine pm_R_icmp pm_M182 (t := 41) (pc_q := 31) rfl rfl rfl (fun c51 => ?_) (fun c51 => ?_)
        · skip
          exact pm_R_ret pm_M182 (r := none) rfl rfl (K m w h T (rf_G.refl [41] h) (rf_W.refl [17, 18] m) B24)
        · have B52 : sf_B 2 3 a0 := sf_ltL (Int32.not_le.mp c51) Ba0 B24
          have B53 : sf_B 3 4 (m 17) := sf_ltR (Int32.not_le.mp c51) Ba0 B24
          refine pm_R_lo pm_M182 (pc_q := 32) rfl rfl rfl ?_
          refine pm_R_lo pm_M182 (pc_q := 33) rfl rfl rfl ?_
          refine rf_R_put pm_M182 T (pc_q := 36) rfl rfl rfl (by decide) rfl rfl (sf_weak B52 (by decide) (by decide)) rfl rfl (fun h54 m57 em58 T55 F56 => ?_)
          have F59 := (rf_G.refl [41] h).trans F56 (by decide)
          have B60 : sf_B 2 3 (m57 17) := by rw [em58]; exact B52
          have ek61 : (m57 17).toInt = (a0).toInt := by rw [em58]; rfl
          have W62 : rf_W [17, 18] m m57 := by rw [em58]; exact (rf_W.refl [17, 18] m).put (by decide)
          refine pm_R_lo pm_M182 (pc_q := 37) rfl rfl rfl ?_
          refine pm_R_lo pm_M182 (pc_q := 38) rfl rfl rfl ?_
          refine rf_R_put pm_M182 T55 (pc_q := 41) rfl rfl rfl (by decide) rfl rfl Ba1 rfl rfl (fun h63 m66 em67 T64 F65 => ?_)
          have F68 := F59.trans F65 (by decide)
          have B69 : sf_B 2 3 (m66 17) := by rw [em67]; exact B60
          have ek70 : (m66 17).toInt = (a0).toInt := by rw [em67]; exact ek61
          have B71 : sf_B 0 600 (m66 18) := by rw [em67]; exact Ba1
          have ek72 : (m66 18).toInt = (a1).toInt := by rw [em67]; rfl
          have W73 : rf_W [17, 18] m m66 := by rw [em67]; exact W62.put (by decide)
          exact pm_R_ret pm_M182 (r := none) rfl rfl (K m66 w h63 T64 F68 W73 (sf_weak B69 (by decide) (by decide)))

theorem sf_aux37 (v0 v1 : Int) (q0 : v0 = v1) : v0 = v1 := by omega
theorem sf_aux38 (v0 v1 v2 : Int) (q0 : v0 = v1 + 1) (q1 : v2 = v0) : v2 = v0 := by omega
theorem sf_aux39 (v0 v1 v2 : Int) (q0 : v0 = v1) (q1 : v2 ≤ v1) : v2 ≤ v0 := by omega
theorem sf_aux40 (v0 v1 v2 v3 : Int) (q0 : v0 = v1 + 1) (q1 : v2 = v0) (q2 : v3 ≤ v1) : v3 ≤ v2 := by omega
theorem sf_aux41 (v0 v1 v2 v3 : Int) (q0 : v0 = v1 + 1) (q1 : v2 = v0) (q2 : v3 ≤ v1) : v3 + 1 ≤ v2 := by omega
theorem sf_aux42 (v0 v1 v2 : Int) (q0 : v0 = v1) (q1 : v2 + 1 ≤ v1) : v2 + 1 ≤ v0 := by omega
theorem sf_aux43 (v0 v1 v2 : Int) (q0 : v0 = v1) (q1 : v2 + 1 ≤ v1) : v2 ≤ v0 := by omega
theorem sf_aux44 (v0 v1 v2 v3 v4 : Int) (q0 : v0 = v1 + 1) (q1 : v2 = v3 + 1) (q2 : v4 = v2) (q3 : 2 ≤ v1) (q4 : v1 ≤ 599) (q5 : 0 ≤ v3) (q6 : v3 ≤ 599) (q7 : v1 ≤ v3) : v0 ≤ v4 := by omega
theorem sf_aux45 (v0 v1 v2 v3 : Int) (q0 : v0 = v1 + 1) (q1 : v2 = v0) (q2 : v3 + 1 ≤ v1) : v3 + 1 ≤ v2 := by omega
theorem sf_aux46 (v0 v1 v2 v3 : Int) (q0 : v0 = v1 + 1) (q1 : v2 = v0 + 1) (q2 : v3 = v2) (q3 : 0 ≤ v1) (q4 : v1 ≤ 599) : 2 ≤ v3 := by omega
theorem sf_aux47 (v0 v1 v2 v3 v4 : Int) (q0 : v0 = v1 + 1) (q1 : v2 = v0 + 1) (q2 : v3 = v2) (q3 : v4 ≤ v1) : v4 + 1 ≤ v3 := by omega
theorem sf_aux48 (v0 v1 v2 v3 v4 : Int) (q0 : v0 = v1 + 1) (q1 : v2 = v3 + 1) (q2 : v4 = v2) (q3 : 1 ≤ v1) (q4 : v1 ≤ 599) (q5 : 0 ≤ v3) (q6 : v3 ≤ 599) (q7 : v1 ≤ v3) : v0 ≤ v4 := by omega
theorem sf_aux49 (v0 v1 v2 : Int) (q0 : v0 = v1 + 1) (q1 : v2 = v0) (q2 : 0 ≤ v1) (q3 : v1 ≤ 599) : 1 ≤ v2 := by omega
theorem sf_aux50 (v0 : Int)  : v0 ≤ v0 := by omega
set_option maxRecDepth 100000 in
set_option maxHeartbeats 4000000 in
/-- SilentTableModel.token -/
theorem rf_c179 {d : Nat} {m : Nat → Int32} {w : Int64} {h : pm_H} {Q : Option Value → pm_H → Prop}  (T : rf_T m w h)  (K : ∀ (m_q : Nat → Int32) (w_q : Int64) (h_q : pm_H), rf_T m_q w_q h_q → rf_G [41] h h_q → rf_W [10, 12, 13, 14] m m_q → (m 10).toInt ≤ (m_q 10).toInt → ((m 10).toInt + 1 ≤ (m_q 10).toInt ∨ (m_q 13).toInt = 0) → Q none h_q) : pm_R (d + 1) 179 0 [.ref 41, pm_no, pm_no] [] h Q := by
  have B1 : sf_B 0 600 (m 10) := T.2.2.1 10
  have B2 : sf_B 0 600 (m 11) := T.2.2.1 11
  have L_2034 : ∀ (N : Nat) (h_2034 : pm_H) (m_2034 : Nat → Int32) (w_2034 : Int64), rf_T m_2034 w_2034 h_2034 → rf_G [41] h h_2034 → rf_W [10] m m_2034 → (m 10).toInt ≤ (m_2034 10).toInt → (600 - (m_2034 10).toInt).toNat = N → pm_R (d + 1) 179 0 [.ref 41, pm_no, pm_no] [] h_2034 Q := by
    intro N
    induction N using Nat.strongRecOn with
    | ind N ih_2034 =>
      intro h_2034 m_2034 w_2034 T_2034 F_2034 W_2034 X_2034 hN_2034
      have B2037 : sf_B 0 600 (m_2034 11) := by rw [W_2034 11 (by decide)]; exact B2
      have ek2038 : (m_2034 11).toInt = ((m 11)).toInt := by rw [W_2034 11 (by decide)]
      have W2039 : rf_W [10, 12, 13, 14] m m_2034 := (rf_W.refl [10, 12, 13, 14] m).trans W_2034 (by decide)
      refine pm_R_lo pm_M179 (pc_q := 1) rfl rfl rfl ?_
      refine pm_R_cv pm_M179 (pc_q := 4) (a := 41) (ra := []) (rest := []) (ls_q := [.ref 41]) rfl rfl (Or.inl rfl) pm_M180 T_2034.2.1 rfl (by decide) (Nat.lt_of_lt_of_le (by decide) T_2034.1) rfl rfl (Nat.le_of_ble_eq_true rfl) rfl rfl ?_
      refine pm_R_lo pm_M180 (pc_q := 1) rfl rfl rfl ?_
      have B2040 : sf_B 0 600 (m_2034 10) := T_2034.2.2.1 10
      refine rf_R_get pm_M180 T_2034 (pc_q := 4) (v := .int (m_2034 10)) rfl rfl rfl rfl ?_
      refine pm_R_lo pm_M180 (pc_q := 5) rfl rfl rfl ?_
      refine rf_R_get pm_M180 T_2034 (pc_q := 8) (v := .int (m 11)) rfl rfl (congrArg (fun z => some (Value.int z)) (Int32.toInt_inj.mp (sf_aux37 _ _ ek2038))) rfl ?_
      refine pm_R_icmp pm_M180 (t := 27) (pc_q := 11) rfl rfl rfl (fun c2041 => ?_) (fun c2041 => ?_)
      · skip
        refine pm_R_op pm_M180 (pc_q := 28) (st_q := [.int (-1)]) rfl rfl rfl ?_
        refine pm_R_ret pm_M180 (r := some (.int (-1))) rfl rfl ?_
        show pm_R _ 179 4 [.ref 41, pm_no, pm_no] [.int (-1)] _ _
        refine pm_R_op pm_M179 (pc_q := 6) (st_q := [.int 10, .int (-1)]) rfl rfl rfl ?_
        refine pm_R_br pm_M179 (pc_q := 9) (st_q := []) rfl rfl ?_
        refine pm_R_lo pm_M179 (pc_q := 10) rfl rfl rfl ?_
        refine pm_R_cv pm_M179 (pc_q := 13) (a := 41) (ra := []) (rest := []) (ls_q := [.ref 41]) rfl rfl (Or.inl rfl) pm_M180 T_2034.2.1 rfl (by decide) (Nat.lt_of_lt_of_le (by decide) T_2034.1) rfl rfl (Nat.le_of_ble_eq_true rfl) rfl rfl ?_
        refine pm_R_lo pm_M180 (pc_q := 1) rfl rfl rfl ?_
        refine rf_R_get pm_M180 T_2034 (pc_q := 4) (v := .int (m_2034 10)) rfl rfl rfl rfl ?_
        refine pm_R_lo pm_M180 (pc_q := 5) rfl rfl rfl ?_
        refine rf_R_get pm_M180 T_2034 (pc_q := 8) (v := .int (m 11)) rfl rfl (congrArg (fun z => some (Value.int z)) (Int32.toInt_inj.mp (sf_aux37 _ _ ek2038))) rfl ?_
        refine pm_R_icmp pm_M180 (t := 27) (pc_q := 11) rfl rfl rfl (fun c2042 => ?_) (fun c2042 => absurd (Int32.not_le.mp c2042) (Int32.not_lt.mpr c2041))
        skip
        refine pm_R_op pm_M180 (pc_q := 28) (st_q := [.int (-1)]) rfl rfl rfl ?_
        refine pm_R_ret pm_M180 (r := some (.int (-1))) rfl rfl ?_
        show pm_R _ 179 13 [.ref 41, pm_no, pm_no] [.int (-1)] _ _
        refine pm_R_op pm_M179 (pc_q := 15) (st_q := [.int 32, .int (-1)]) rfl rfl rfl ?_
        refine pm_R_br pm_M179 (pc_q := 31) (st_q := []) rfl rfl ?_
        refine pm_R_lo pm_M179 (pc_q := 32) rfl rfl rfl ?_
        refine pm_R_lo pm_M179 (pc_q := 33) rfl rfl rfl ?_
        refine rf_R_get pm_M179 T_2034 (pc_q := 36) (v := .int (m_2034 10)) rfl rfl rfl rfl ?_
        refine rf_R_put pm_M179 T_2034 (pc_q := 39) rfl rfl rfl (by decide) rfl rfl B2040 rfl rfl (fun h2043 m2046 em2047 T2044 F2045 => ?_)
        have F2048 := F_2034.trans F2045 (by decide)
        have B2049 : sf_B 0 600 (m2046 11) := by rw [em2047]; exact B2037
        have ek2050 : (m2046 11).toInt = ((m 11)).toInt := by rw [em2047]; exact ek2038
        have B2051 : sf_B 0 600 (m2046 10) := by rw [em2047]; exact B2040
        have ek2052 : (m2046 10).toInt = ((m_2034 10)).toInt := by rw [em2047]; rfl
        have B2053 : sf_B 0 600 (m2046 12) := by rw [em2047]; exact B2040
        have ek2054 : (m2046 12).toInt = ((m_2034 10)).toInt := by rw [em2047]; rfl
        have W2055 : rf_W [10, 12, 13, 14] m m2046 := by rw [em2047]; exact W2039.put (by decide)
        refine pm_R_lo pm_M179 (pc_q := 40) rfl rfl rfl ?_
        refine pm_R_cv pm_M179 (pc_q := 43) (a := 41) (ra := []) (rest := []) (ls_q := [.ref 41]) rfl rfl (Or.inl rfl) pm_M180 T2044.2.1 rfl (by decide) (Nat.lt_of_lt_of_le (by decide) T2044.1) rfl rfl (Nat.le_of_ble_eq_true rfl) rfl rfl ?_
        refine pm_R_lo pm_M180 (pc_q := 1) rfl rfl rfl ?_
        refine rf_R_get pm_M180 T2044 (pc_q := 4) (v := .int (m_2034 10)) rfl rfl (congrArg (fun z => some (Value.int z)) (Int32.toInt_inj.mp (sf_aux37 _ _ ek2052))) rfl ?_
        refine pm_R_lo pm_M180 (pc_q := 5) rfl rfl rfl ?_
        refine rf_R_get pm_M180 T2044 (pc_q := 8) (v := .int (m 11)) rfl rfl (congrArg (fun z => some (Value.int z)) (Int32.toInt_inj.mp (sf_aux37 _ _ ek2050))) rfl ?_
        refine pm_R_icmp pm_M180 (t := 27) (pc_q := 11) rfl rfl rfl (fun c2056 => ?_) (fun c2056 => absurd (Int32.not_le.mp c2056) (Int32.not_lt.mpr c2041))
        skip
        refine pm_R_op pm_M180 (pc_q := 28) (st_q := [.int (-1)]) rfl rfl rfl ?_
        refine pm_R_ret pm_M180 (r := some (.int (-1))) rfl rfl ?_
        show pm_R _ 179 43 [.ref 41, pm_no, pm_no] [.int (-1)] _ _
        refine pm_R_lo pm_M179 (pc_q := 44) (ls_q := [.ref 41, .int (-1), pm_no]) (st_q := []) rfl rfl rfl ?_
        refine pm_R_lo pm_M179 (pc_q := 45) rfl rfl rfl ?_
        refine pm_R_op pm_M179 (pc_q := 46) (st_q := [.long 0, .ref 41]) rfl rfl rfl ?_
        refine rf_R_putL pm_M179 T2044 (pc_q := 49) rfl rfl rfl (by decide) rfl rfl rfl rfl (fun h2057 T2058 F2059 => ?_)
        have F2060 := F2048.trans F2059 (by decide)
        refine pm_R_op pm_M179 (pc_q := 50) (st_q := [.int 0]) rfl rfl rfl ?_
        refine pm_R_lo pm_M179 (pc_q := 51) (ls_q := [.ref 41, .int (-1), .int 0]) (st_q := []) rfl rfl rfl ?_
        refine pm_R_lo pm_M179 (pc_q := 52) rfl rfl rfl ?_
        refine pm_R_br pm_M179 (pc_q := 55) (st_q := []) rfl rfl ?_
        refine pm_R_lo pm_M179 (pc_q := 56) rfl rfl rfl ?_
        refine pm_R_op pm_M179 (pc_q := 57) (st_q := [.int 0, .ref 41]) rfl rfl rfl ?_
        refine rf_R_put pm_M179 T2058 (pc_q := 60) rfl rfl rfl (by decide) rfl rfl (sf_weak sf_k0 (by decide) (by decide)) rfl rfl (fun h2061 m2064 em2065 T2062 F2063 => ?_)
        have F2066 := F2060.trans F2063 (by decide)
        have B2067 : sf_B 0 600 (m2064 11) := by rw [em2065]; exact B2049
        have ek2068 : (m2064 11).toInt = ((m 11)).toInt := by rw [em2065]; exact ek2050
        have B2069 : sf_B 0 600 (m2064 10) := by rw [em2065]; exact B2051
        have ek2070 : (m2064 10).toInt = ((m_2034 10)).toInt := by rw [em2065]; exact ek2052
        have B2071 : sf_B 0 0 (m2064 13) := by rw [em2065]; exact sf_k0
        have W2073 : rf_W [10, 12, 13, 14] m m2064 := by rw [em2065]; exact W2055.put (by decide)
        refine pm_R_br pm_M179 (pc_q := 266) rfl rfl ?_
        exact pm_R_ret pm_M179 (r := none) (pm_q179_2 (Nat.le_of_ble_eq_true rfl)) rfl (K m2064 0 h2061 T2062 F2066 W2073 (sf_aux39 _ _ _ ek2070 X_2034) (Or.inr (sf_aux35 _ B2071.1 B2071.2)))
      · have B2074 : sf_B 0 599 (m_2034 10) := sf_ltL (Int32.not_le.mp c2041) B2040 B2
        have B2075 : sf_B 1 600 (m 11) := sf_ltR (Int32.not_le.mp c2041) B2040 B2
        refine pm_R_lo pm_M180 (pc_q := 12) rfl rfl rfl ?_
        refine rf_R_get pm_M180 T_2034 (pc_q := 15) (v := .ref 42) rfl rfl rfl rfl ?_
        refine pm_R_lo pm_M180 (pc_q := 16) rfl rfl rfl ?_
        refine rf_R_get pm_M180 T_2034 (pc_q := 19) (v := .int (m_2034 10)) rfl rfl rfl rfl ?_
        obtain ⟨f2076, e2077⟩ := T_2034.2.2.2.1 42 (by decide) (by decide)
        refine rf_R_bld pm_M180 T_2034 (pc_q := 20) rfl e2077 (Or.inl rfl) (by decide) (by decide) (sf_in B2074 (by decide) (by decide)) rfl (fun z2079 ez2080 => ?_)
        refine pm_R_op pm_M180 (pc_q := 23) (st_q := [.int 255, .int z2079]) rfl rfl rfl ?_
        refine sf_R_iandE pm_M180 (pc_q := 24) rfl rfl sf_k255 (by decide) (fun z2081 e2082 B2083 => ?_)
        refine pm_R_br pm_M180 (pc_q := 28) rfl rfl ?_
        refine pm_R_ret pm_M180 (r := some (.int z2081)) rfl (pm_ret_i _) ?_
        show pm_R _ 179 4 [.ref 41, pm_no, pm_no] [.int z2081] _ _
        refine pm_R_op pm_M179 (pc_q := 6) (st_q := [.int 10, .int z2081]) rfl rfl rfl ?_
        refine pm_R_icmp pm_M179 (t := 18) (pc_q := 9) rfl rfl rfl (fun c2084 => ?_) (fun c2084 => ?_)
        · have B2085 : sf_B 10 10 z2081 := sf_eqL c2084 sf_k10
          refine pm_R_lo pm_M179 (pc_q := 19) rfl rfl rfl ?_
          refine pm_R_op pm_M179 (pc_q := 20) (st_q := [.ref 41, .ref 41]) rfl rfl rfl ?_
          refine rf_R_get pm_M179 T_2034 (pc_q := 23) (v := .int (m_2034 10)) rfl rfl rfl rfl ?_
          refine pm_R_op pm_M179 (pc_q := 24) (st_q := [.int 1, .int (m_2034 10), .ref 41]) rfl rfl rfl ?_
          refine sf_R_iadd pm_M179 (pc_q := 25) rfl rfl B2074 sf_k1 (by decide) (by decide) (fun z2086 e2087 B2088 => ?_)
          refine rf_R_put pm_M179 T_2034 (pc_q := 28) rfl rfl rfl (by decide) rfl rfl (sf_weak B2088 (by decide) (by decide)) rfl rfl (fun h2089 m2092 em2093 T2090 F2091 => ?_)
          have F2094 := F_2034.trans F2091 (by decide)
          have B2095 : sf_B 0 600 (m2092 11) := by rw [em2093]; exact B2037
          have ek2096 : (m2092 11).toInt = ((m 11)).toInt := by rw [em2093]; exact ek2038
          have B2097 : sf_B 1 600 (m2092 10) := by rw [em2093]; exact B2088
          have ek2098 : (m2092 10).toInt = (z2086).toInt := by rw [em2093]; rfl
          have W2099 : rf_W [10, 12, 13, 14] m m2092 := by rw [em2093]; exact W2039.put (by decide)
          have W2100 : rf_W [10] m m2092 := by rw [em2093]; exact W_2034.put (by decide)
          refine pm_R_br pm_M179 (pc_q := 0) rfl rfl ?_
          exact ih_2034 _ (sf_up hN_2034 (sf_aux32 _ _ _ e2087 ek2098) B2074 (by decide) (by decide)) h2089 m2092 w_2034  T2090 F2094 W2100  (sf_aux40 _ _ _ _ e2087 ek2098 X_2034) rfl
        · skip
          refine pm_R_lo pm_M179 (pc_q := 10) rfl rfl rfl ?_
          refine pm_R_cv pm_M179 (pc_q := 13) (a := 41) (ra := []) (rest := []) (ls_q := [.ref 41]) rfl rfl (Or.inl rfl) pm_M180 T_2034.2.1 rfl (by decide) (Nat.lt_of_lt_of_le (by decide) T_2034.1) rfl rfl (Nat.le_of_ble_eq_true rfl) rfl rfl ?_
          refine pm_R_lo pm_M180 (pc_q := 1) rfl rfl rfl ?_
          refine rf_R_get pm_M180 T_2034 (pc_q := 4) (v := .int (m_2034 10)) rfl rfl rfl rfl ?_
          refine pm_R_lo pm_M180 (pc_q := 5) rfl rfl rfl ?_
          refine rf_R_get pm_M180 T_2034 (pc_q := 8) (v := .int (m 11)) rfl rfl (congrArg (fun z => some (Value.int z)) (Int32.toInt_inj.mp (sf_aux37 _ _ ek2038))) rfl ?_
          refine pm_R_icmp pm_M180 (t := 27) (pc_q := 11) rfl rfl rfl (fun c2101 => absurd c2101 (Int32.not_le.mpr (Int32.not_le.mp c2041))) (fun c2101 => ?_)
          skip
          refine pm_R_lo pm_M180 (pc_q := 12) rfl rfl rfl ?_
          refine rf_R_get pm_M180 T_2034 (pc_q := 15) (v := .ref 42) rfl rfl rfl rfl ?_
          refine pm_R_lo pm_M180 (pc_q := 16) rfl rfl rfl ?_
          refine rf_R_get pm_M180 T_2034 (pc_q := 19) (v := .int (m_2034 10)) rfl rfl rfl rfl ?_
          refine pm_R_bald pm_M180 (pc_q := 20) (v := z2079) rfl e2077 (Or.inl rfl) (by decide) (Nat.lt_of_lt_of_le (by decide) T_2034.1) (sf_in B2074 (by decide) (by decide)) ez2080 rfl ?_
          refine pm_R_op pm_M180 (pc_q := 23) (st_q := [.int 255, .int z2079]) rfl rfl rfl ?_
          refine pm_R_op pm_M180 (pc_q := 24) (st_q := [.int z2081]) rfl (by show some (Value.int (z2079 &&& 255) :: _) = _; rw [← e2082]) rfl ?_
          refine pm_R_br pm_M180 (pc_q := 28) rfl rfl ?_
          refine pm_R_ret pm_M180 (r := some (.int z2081)) rfl (pm_ret_i _) ?_
          show pm_R _ 179 13 [.ref 41, pm_no, pm_no] [.int z2081] _ _
          refine pm_R_op pm_M179 (pc_q := 15) (st_q := [.int 32, .int z2081]) rfl rfl rfl ?_
          refine pm_R_icmp pm_M179 (t := 31) (pc_q := 18) rfl rfl rfl (fun c2107 => ?_) (fun c2107 => ?_)
          · skip
            refine pm_R_lo pm_M179 (pc_q := 32) rfl rfl rfl ?_
            refine pm_R_lo pm_M179 (pc_q := 33) rfl rfl rfl ?_
            refine rf_R_get pm_M179 T_2034 (pc_q := 36) (v := .int (m_2034 10)) rfl rfl rfl rfl ?_
            refine rf_R_put pm_M179 T_2034 (pc_q := 39) rfl rfl rfl (by decide) rfl rfl (sf_weak B2074 (by decide) (by decide)) rfl rfl (fun h2108 m2111 em2112 T2109 F2110 => ?_)
            have F2113 := F_2034.trans F2110 (by decide)
            have B2114 : sf_B 0 600 (m2111 11) := by rw [em2112]; exact B2037
            have ek2115 : (m2111 11).toInt = ((m 11)).toInt := by rw [em2112]; exact ek2038
            have B2116 : sf_B 0 599 (m2111 10) := by rw [em2112]; exact B2074
            have ek2117 : (m2111 10).toInt = ((m_2034 10)).toInt := by rw [em2112]; rfl
            have B2118 : sf_B 0 599 (m2111 12) := by rw [em2112]; exact B2074
            have ek2119 : (m2111 12).toInt = ((m_2034 10)).toInt := by rw [em2112]; rfl
            have W2120 : rf_W [10, 12, 13, 14] m m2111 := by rw [em2112]; exact W2039.put (by decide)
            refine pm_R_lo pm_M179 (pc_q := 40) rfl rfl rfl ?_
            refine pm_R_cv pm_M179 (pc_q := 43) (a := 41) (ra := []) (rest := []) (ls_q := [.ref 41]) rfl rfl (Or.inl rfl) pm_M180 T2109.2.1 rfl (by decide) (Nat.lt_of_lt_of_le (by decide) T2109.1) rfl rfl (Nat.le_of_ble_eq_true rfl) rfl rfl ?_
            refine pm_R_lo pm_M180 (pc_q := 1) rfl rfl rfl ?_
            refine rf_R_get pm_M180 T2109 (pc_q := 4) (v := .int (m_2034 10)) rfl rfl (congrArg (fun z => some (Value.int z)) (Int32.toInt_inj.mp (sf_aux37 _ _ ek2117))) rfl ?_
            refine pm_R_lo pm_M180 (pc_q := 5) rfl rfl rfl ?_
            refine rf_R_get pm_M180 T2109 (pc_q := 8) (v := .int (m 11)) rfl rfl (congrArg (fun z => some (Value.int z)) (Int32.toInt_inj.mp (sf_aux37 _ _ ek2115))) rfl ?_
            refine pm_R_icmp pm_M180 (t := 27) (pc_q := 11) rfl rfl rfl (fun c2121 => absurd c2121 (Int32.not_le.mpr (Int32.not_le.mp c2041))) (fun c2121 => ?_)
            skip
            refine pm_R_lo pm_M180 (pc_q := 12) rfl rfl rfl ?_
            refine rf_R_get pm_M180 T2109 (pc_q := 15) (v := .ref 42) rfl rfl rfl rfl ?_
            refine pm_R_lo pm_M180 (pc_q := 16) rfl rfl rfl ?_
            refine rf_R_get pm_M180 T2109 (pc_q := 19) (v := .int (m_2034 10)) rfl rfl (congrArg (fun z => some (Value.int z)) (Int32.toInt_inj.mp (sf_aux37 _ _ ek2117))) rfl ?_
            have e2122 := (F2110.cell (by decide) e2077)
            refine pm_R_bald pm_M180 (pc_q := 20) (v := z2079) rfl e2122 (Or.inl rfl) (by decide) (Nat.lt_of_lt_of_le (by decide) T2109.1) (sf_in B2074 (by decide) (by decide)) ez2080 rfl ?_
            refine pm_R_op pm_M180 (pc_q := 23) (st_q := [.int 255, .int z2079]) rfl rfl rfl ?_
            refine pm_R_op pm_M180 (pc_q := 24) (st_q := [.int z2081]) rfl (by show some (Value.int (z2079 &&& 255) :: _) = _; rw [← e2082]) rfl ?_
            refine pm_R_br pm_M180 (pc_q := 28) rfl rfl ?_
            refine pm_R_ret pm_M180 (r := some (.int z2081)) rfl (pm_ret_i _) ?_
            show pm_R _ 179 43 [.ref 41, pm_no, pm_no] [.int z2081] _ _
            refine pm_R_lo pm_M179 (pc_q := 44) (ls_q := [.ref 41, .int z2081, pm_no]) (st_q := []) rfl rfl rfl ?_
            refine pm_R_lo pm_M179 (pc_q := 45) rfl rfl rfl ?_
            refine pm_R_op pm_M179 (pc_q := 46) (st_q := [.long 0, .ref 41]) rfl rfl rfl ?_
            refine rf_R_putL pm_M179 T2109 (pc_q := 49) rfl rfl rfl (by decide) rfl rfl rfl rfl (fun h2128 T2129 F2130 => ?_)
            have F2131 := F2113.trans F2130 (by decide)
            refine pm_R_op pm_M179 (pc_q := 50) (st_q := [.int 0]) rfl rfl rfl ?_
            refine pm_R_lo pm_M179 (pc_q := 51) (ls_q := [.ref 41, .int z2081, .int 0]) (st_q := []) rfl rfl rfl ?_
            refine pm_R_lo pm_M179 (pc_q := 52) rfl rfl rfl ?_
            refine pm_R_ifc pm_M179 (t := 63) (pc_q := 55) rfl rfl rfl (fun c2132 => ?_) (fun c2132 => absurd (Int32.not_le.mp c2132) (sf_nlt B2083 sf_k0 (by decide)))
            skip
            refine pm_R_lo pm_M179 (pc_q := 64) rfl rfl rfl ?_
            refine pm_R_op pm_M179 (pc_q := 66) (st_q := [.int 97, .int z2081]) rfl rfl rfl ?_
            refine pm_R_op pm_M179 (pc_q := 68) (st_q := [.int 122, .int 97, .int z2081]) rfl rfl rfl ?_
            refine pm_R_cs pm_M179 (pc_q := 71) (ra := [.int 122, .int 97, .int z2081]) (rest := []) (ls_q := [.int z2081, .int 97, .int 122]) rfl rfl (Or.inl rfl) pm_M174 rfl rfl (Nat.le_of_ble_eq_true rfl) rfl rfl ?_
            refine pm_R_lo pm_M174 (pc_q := 1) rfl rfl rfl ?_
            refine pm_R_lo pm_M174 (pc_q := 2) rfl rfl rfl ?_
            refine pm_R_icmp pm_M174 (t := 14) (pc_q := 5) rfl rfl rfl (fun c2133 => ?_) (fun c2133 => ?_)
            · have B2134 : sf_B 0 96 z2081 := sf_ltL c2133 B2083 sf_k97
              refine pm_R_op pm_M174 (pc_q := 15) (st_q := [.int 0]) rfl rfl rfl ?_
              refine pm_R_ret pm_M174 (r := some (.int 0)) rfl rfl ?_
              show pm_R _ 179 71 [.ref 41, .int z2081, .int 0] [.int 0] _ _
              refine pm_R_br pm_M179 (pc_q := 147) (st_q := []) rfl rfl ?_
              refine pm_R_lo pm_M179 (pc_q := 148) (pm_q179_1 (Nat.le_of_ble_eq_true rfl)) rfl rfl ?_
              refine pm_R_op pm_M179 (pc_q := 150) (st_q := [.int 48, .int z2081]) (pm_q179_1 (Nat.le_of_ble_eq_true rfl)) rfl rfl ?_
              refine pm_R_op pm_M179 (pc_q := 152) (st_q := [.int 57, .int 48, .int z2081]) (pm_q179_1 (Nat.le_of_ble_eq_true rfl)) rfl rfl ?_
              refine pm_R_cs pm_M179 (pc_q := 155) (ra := [.int 57, .int 48, .int z2081]) (rest := []) (ls_q := [.int z2081, .int 48, .int 57]) (pm_q179_1 (Nat.le_of_ble_eq_true rfl)) rfl (Or.inl rfl) pm_M174 rfl rfl (Nat.le_of_ble_eq_true rfl) rfl rfl ?_
              refine pm_R_lo pm_M174 (pc_q := 1) rfl rfl rfl ?_
              refine pm_R_lo pm_M174 (pc_q := 2) rfl rfl rfl ?_
              refine pm_R_icmp pm_M174 (t := 14) (pc_q := 5) rfl rfl rfl (fun c2135 => ?_) (fun c2135 => ?_)
              · have B2136 : sf_B 0 47 z2081 := sf_ltL c2135 B2134 sf_k48
                refine pm_R_op pm_M174 (pc_q := 15) (st_q := [.int 0]) rfl rfl rfl ?_
                refine pm_R_ret pm_M174 (r := some (.int 0)) rfl rfl ?_
                show pm_R _ 179 155 [.ref 41, .int z2081, .int 0] [.int 0] _ _
                refine pm_R_br pm_M179 (pc_q := 241) (st_q := []) (pm_q179_1 (Nat.le_of_ble_eq_true rfl)) rfl ?_
                refine pm_R_lo pm_M179 (pc_q := 242) (pm_q179_2 (Nat.le_of_ble_eq_true rfl)) rfl rfl ?_
                refine pm_R_op pm_M179 (pc_q := 243) (st_q := [.ref 41, .ref 41]) (pm_q179_2 (Nat.le_of_ble_eq_true rfl)) rfl rfl ?_
                refine rf_R_get pm_M179 T2129 (pc_q := 246) (v := .int (m_2034 10)) (pm_q179_2 (Nat.le_of_ble_eq_true rfl)) rfl (congrArg (fun z => some (Value.int z)) (Int32.toInt_inj.mp (sf_aux37 _ _ ek2117))) rfl ?_
                refine pm_R_op pm_M179 (pc_q := 247) (st_q := [.int 1, .int (m_2034 10), .ref 41]) (pm_q179_2 (Nat.le_of_ble_eq_true rfl)) rfl rfl ?_
                refine sf_R_iadd pm_M179 (pc_q := 248) (pm_q179_2 (Nat.le_of_ble_eq_true rfl)) rfl B2074 sf_k1 (by decide) (by decide) (fun z2137 e2138 B2139 => ?_)
                refine rf_R_put pm_M179 T2129 (pc_q := 251) (pm_q179_2 (Nat.le_of_ble_eq_true rfl)) rfl rfl (by decide) rfl rfl (sf_weak B2139 (by decide) (by decide)) rfl rfl (fun h2140 m2143 em2144 T2141 F2142 => ?_)
                have F2145 := F2131.trans F2142 (by decide)
                have B2146 : sf_B 0 600 (m2143 11) := by rw [em2144]; exact B2114
                have ek2147 : (m2143 11).toInt = ((m 11)).toInt := by rw [em2144]; exact ek2115
                have B2148 : sf_B 0 599 (m2143 12) := by rw [em2144]; exact B2118
                have ek2149 : (m2143 12).toInt = ((m_2034 10)).toInt := by rw [em2144]; exact ek2119
                have B2150 : sf_B 1 600 (m2143 10) := by rw [em2144]; exact B2139
                have ek2151 : (m2143 10).toInt = (z2137).toInt := by rw [em2144]; rfl
                have W2152 : rf_W [10, 12, 13, 14] m m2143 := by rw [em2144]; exact W2120.put (by decide)
                refine pm_R_lo pm_M179 (pc_q := 252) (pm_q179_2 (Nat.le_of_ble_eq_true rfl)) rfl rfl ?_
                refine pm_R_lo pm_M179 (pc_q := 253) (pm_q179_2 (Nat.le_of_ble_eq_true rfl)) rfl rfl ?_
                refine pm_R_op pm_M179 (pc_q := 255) (st_q := [.int 59, .int z2081, .ref 41]) (pm_q179_2 (Nat.le_of_ble_eq_true rfl)) rfl rfl ?_
                refine pm_R_icmp pm_M179 (t := 262) (pc_q := 258) (pm_q179_2 (Nat.le_of_ble_eq_true rfl)) rfl rfl (fun c2153 => ?_) (fun c2153 => absurd (Classical.not_not.mp c2153) (sf_neq2 B2136 sf_k59 (by decide)))
                skip
                refine pm_R_op pm_M179 (pc_q := 263) (st_q := [.int 1, .ref 41]) (pm_q179_2 (Nat.le_of_ble_eq_true rfl)) rfl rfl ?_
                refine rf_R_put pm_M179 T2141 (pc_q := 266) (pm_q179_2 (Nat.le_of_ble_eq_true rfl)) rfl rfl (by decide) rfl rfl (sf_weak sf_k1 (by decide) (by decide)) rfl rfl (fun h2154 m2157 em2158 T2155 F2156 => ?_)
                have F2159 := F2145.trans F2156 (by decide)
                have B2160 : sf_B 0 600 (m2157 11) := by rw [em2158]; exact B2146
                have ek2161 : (m2157 11).toInt = ((m 11)).toInt := by rw [em2158]; exact ek2147
                have B2162 : sf_B 0 599 (m2157 12) := by rw [em2158]; exact B2148
                have ek2163 : (m2157 12).toInt = ((m_2034 10)).toInt := by rw [em2158]; exact ek2149
                have B2164 : sf_B 1 600 (m2157 10) := by rw [em2158]; exact B2150
                have ek2165 : (m2157 10).toInt = (z2137).toInt := by rw [em2158]; exact ek2151
                have B2166 : sf_B 1 1 (m2157 13) := by rw [em2158]; exact sf_k1
                have W2168 : rf_W [10, 12, 13, 14] m m2157 := by rw [em2158]; exact W2152.put (by decide)
                exact pm_R_ret pm_M179 (r := none) (pm_q179_2 (Nat.le_of_ble_eq_true rfl)) rfl (K m2157 0 h2154 T2155 F2159 W2168 (sf_aux40 _ _ _ _ e2138 ek2165 X_2034) (Or.inl (sf_aux41 _ _ _ _ e2138 ek2165 X_2034)))
              · have B2169 : sf_B 48 96 z2081 := sf_leR (Int32.not_lt.mp c2135) sf_k48 B2134
                refine pm_R_lo pm_M174 (pc_q := 6) rfl rfl rfl ?_
                refine pm_R_lo pm_M174 (pc_q := 7) rfl rfl rfl ?_
                refine pm_R_icmp pm_M174 (t := 14) (pc_q := 10) rfl rfl rfl (fun c2170 => ?_) (fun c2170 => ?_)
                · have B2171 : sf_B 58 96 z2081 := sf_ltR c2170 sf_k57 B2169
                  refine pm_R_op pm_M174 (pc_q := 15) (st_q := [.int 0]) rfl rfl rfl ?_
                  refine pm_R_ret pm_M174 (r := some (.int 0)) rfl rfl ?_
                  show pm_R _ 179 155 [.ref 41, .int z2081, .int 0] [.int 0] _ _
                  refine pm_R_br pm_M179 (pc_q := 241) (st_q := []) (pm_q179_1 (Nat.le_of_ble_eq_true rfl)) rfl ?_
                  refine pm_R_lo pm_M179 (pc_q := 242) (pm_q179_2 (Nat.le_of_ble_eq_true rfl)) rfl rfl ?_
                  refine pm_R_op pm_M179 (pc_q := 243) (st_q := [.ref 41, .ref 41]) (pm_q179_2 (Nat.le_of_ble_eq_true rfl)) rfl rfl ?_
                  refine rf_R_get pm_M179 T2129 (pc_q := 246) (v := .int (m_2034 10)) (pm_q179_2 (Nat.le_of_ble_eq_true rfl)) rfl (congrArg (fun z => some (Value.int z)) (Int32.toInt_inj.mp (sf_aux37 _ _ ek2117))) rfl ?_
                  refine pm_R_op pm_M179 (pc_q := 247) (st_q := [.int 1, .int (m_2034 10), .ref 41]) (pm_q179_2 (Nat.le_of_ble_eq_true rfl)) rfl rfl ?_
                  refine sf_R_iadd pm_M179 (pc_q := 248) (pm_q179_2 (Nat.le_of_ble_eq_true rfl)) rfl B2074 sf_k1 (by decide) (by decide) (fun z2172 e2173 B2174 => ?_)
                  refine rf_R_put pm_M179 T2129 (pc_q := 251) (pm_q179_2 (Nat.le_of_ble_eq_true rfl)) rfl rfl (by decide) rfl rfl (sf_weak B2174 (by decide) (by decide)) rfl rfl (fun h2175 m2178 em2179 T2176 F2177 => ?_)
                  have F2180 := F2131.trans F2177 (by decide)
                  have B2181 : sf_B 0 600 (m2178 11) := by rw [em2179]; exact B2114
                  have ek2182 : (m2178 11).toInt = ((m 11)).toInt := by rw [em2179]; exact ek2115
                  have B2183 : sf_B 0 599 (m2178 12) := by rw [em2179]; exact B2118
                  have ek2184 : (m2178 12).toInt = ((m_2034 10)).toInt := by rw [em2179]; exact ek2119
                  have B2185 : sf_B 1 600 (m2178 10) := by rw [em2179]; exact B2174
                  have ek2186 : (m2178 10).toInt = (z2172).toInt := by rw [em2179]; rfl
                  have W2187 : rf_W [10, 12, 13, 14] m m2178 := by rw [em2179]; exact W2120.put (by decide)
                  refine pm_R_lo pm_M179 (pc_q := 252) (pm_q179_2 (Nat.le_of_ble_eq_true rfl)) rfl rfl ?_
                  refine pm_R_lo pm_M179 (pc_q := 253) (pm_q179_2 (Nat.le_of_ble_eq_true rfl)) rfl rfl ?_
                  refine pm_R_op pm_M179 (pc_q := 255) (st_q := [.int 59, .int z2081, .ref 41]) (pm_q179_2 (Nat.le_of_ble_eq_true rfl)) rfl rfl ?_
                  refine pm_R_icmp pm_M179 (t := 262) (pc_q := 258) (pm_q179_2 (Nat.le_of_ble_eq_true rfl)) rfl rfl (fun c2188 => ?_) (fun c2188 => ?_)
                  · skip
                    refine pm_R_op pm_M179 (pc_q := 263) (st_q := [.int 1, .ref 41]) (pm_q179_2 (Nat.le_of_ble_eq_true rfl)) rfl rfl ?_
                    refine rf_R_put pm_M179 T2176 (pc_q := 266) (pm_q179_2 (Nat.le_of_ble_eq_true rfl)) rfl rfl (by decide) rfl rfl (sf_weak sf_k1 (by decide) (by decide)) rfl rfl (fun h2189 m2192 em2193 T2190 F2191 => ?_)
                    have F2194 := F2180.trans F2191 (by decide)
                    have B2195 : sf_B 0 600 (m2192 11) := by rw [em2193]; exact B2181
                    have ek2196 : (m2192 11).toInt = ((m 11)).toInt := by rw [em2193]; exact ek2182
                    have B2197 : sf_B 0 599 (m2192 12) := by rw [em2193]; exact B2183
                    have ek2198 : (m2192 12).toInt = ((m_2034 10)).toInt := by rw [em2193]; exact ek2184
                    have B2199 : sf_B 1 600 (m2192 10) := by rw [em2193]; exact B2185
                    have ek2200 : (m2192 10).toInt = (z2172).toInt := by rw [em2193]; exact ek2186
                    have B2201 : sf_B 1 1 (m2192 13) := by rw [em2193]; exact sf_k1
                    have W2203 : rf_W [10, 12, 13, 14] m m2192 := by rw [em2193]; exact W2187.put (by decide)
                    exact pm_R_ret pm_M179 (r := none) (pm_q179_2 (Nat.le_of_ble_eq_true rfl)) rfl (K m2192 0 h2189 T2190 F2194 W2203 (sf_aux40 _ _ _ _ e2173 ek2200 X_2034) (Or.inl (sf_aux41 _ _ _ _ e2173 ek2200 X_2034)))
                  · have B2204 : sf_B 59 59 z2081 := sf_eqL (Classical.not_not.mp c2188) sf_k59
                    refine pm_R_op pm_M179 (pc_q := 259) (st_q := [.int 4, .ref 41]) (pm_q179_2 (Nat.le_of_ble_eq_true rfl)) rfl rfl ?_
                    refine pm_R_br pm_M179 (pc_q := 263) (pm_q179_2 (Nat.le_of_ble_eq_true rfl)) rfl ?_
                    refine rf_R_put pm_M179 T2176 (pc_q := 266) (pm_q179_2 (Nat.le_of_ble_eq_true rfl)) rfl rfl (by decide) rfl rfl (sf_weak sf_k4 (by decide) (by decide)) rfl rfl (fun h2205 m2208 em2209 T2206 F2207 => ?_)
                    have F2210 := F2180.trans F2207 (by decide)
                    have B2211 : sf_B 0 600 (m2208 11) := by rw [em2209]; exact B2181
                    have ek2212 : (m2208 11).toInt = ((m 11)).toInt := by rw [em2209]; exact ek2182
                    have B2213 : sf_B 0 599 (m2208 12) := by rw [em2209]; exact B2183
                    have ek2214 : (m2208 12).toInt = ((m_2034 10)).toInt := by rw [em2209]; exact ek2184
                    have B2215 : sf_B 1 600 (m2208 10) := by rw [em2209]; exact B2185
                    have ek2216 : (m2208 10).toInt = (z2172).toInt := by rw [em2209]; exact ek2186
                    have B2217 : sf_B 4 4 (m2208 13) := by rw [em2209]; exact sf_k4
                    have W2219 : rf_W [10, 12, 13, 14] m m2208 := by rw [em2209]; exact W2187.put (by decide)
                    exact pm_R_ret pm_M179 (r := none) (pm_q179_2 (Nat.le_of_ble_eq_true rfl)) rfl (K m2208 0 h2205 T2206 F2210 W2219 (sf_aux40 _ _ _ _ e2173 ek2216 X_2034) (Or.inl (sf_aux41 _ _ _ _ e2173 ek2216 X_2034)))
                · have B2220 : sf_B 48 57 z2081 := sf_leL (Int32.not_lt.mp c2170) B2169 sf_k57
                  refine pm_R_op pm_M174 (pc_q := 11) (st_q := [.int 1]) rfl rfl rfl ?_
                  refine pm_R_br pm_M174 (pc_q := 15) rfl rfl ?_
                  refine pm_R_ret pm_M174 (r := some (.int 1)) rfl rfl ?_
                  show pm_R _ 179 155 [.ref 41, .int z2081, .int 0] [.int 1] _ _
                  refine pm_R_br pm_M179 (pc_q := 158) (st_q := []) (pm_q179_1 (Nat.le_of_ble_eq_true rfl)) rfl ?_
                  refine pm_R_lo pm_M179 (pc_q := 159) (pm_q179_1 (Nat.le_of_ble_eq_true rfl)) rfl rfl ?_
                  refine pm_R_op pm_M179 (pc_q := 160) (st_q := [.int 0, .ref 41]) (pm_q179_1 (Nat.le_of_ble_eq_true rfl)) rfl rfl ?_
                  refine rf_R_put pm_M179 T2129 (pc_q := 163) (pm_q179_1 (Nat.le_of_ble_eq_true rfl)) rfl rfl (by decide) rfl rfl (sf_weak sf_k0 (by decide) (by decide)) rfl rfl (fun h2221 m2224 em2225 T2222 F2223 => ?_)
                  have F2226 := F2131.trans F2223 (by decide)
                  have B2227 : sf_B 0 600 (m2224 11) := by rw [em2225]; exact B2114
                  have ek2228 : (m2224 11).toInt = ((m 11)).toInt := by rw [em2225]; exact ek2115
                  have B2229 : sf_B 0 599 (m2224 10) := by rw [em2225]; exact B2116
                  have ek2230 : (m2224 10).toInt = ((m_2034 10)).toInt := by rw [em2225]; exact ek2117
                  have B2231 : sf_B 0 599 (m2224 12) := by rw [em2225]; exact B2118
                  have ek2232 : (m2224 12).toInt = ((m_2034 10)).toInt := by rw [em2225]; exact ek2119
                  have B2233 : sf_B 0 0 (m2224 14) := by rw [em2225]; exact sf_k0
                  have W2235 : rf_W [10, 12, 13, 14] m m2224 := by rw [em2225]; exact W2120.put (by decide)
                  refine pm_R_lo pm_M179 (pc_q := 164) (pm_q179_1 (Nat.le_of_ble_eq_true rfl)) rfl rfl ?_
                  refine pm_R_cv pm_M179 (pc_q := 167) (a := 41) (ra := []) (rest := []) (ls_q := [.ref 41]) (pm_q179_1 (Nat.le_of_ble_eq_true rfl)) rfl (Or.inl rfl) pm_M180 T2222.2.1 rfl (by decide) (Nat.lt_of_lt_of_le (by decide) T2222.1) rfl rfl (Nat.le_of_ble_eq_true rfl) rfl rfl ?_
                  refine pm_R_lo pm_M180 (pc_q := 1) rfl rfl rfl ?_
                  refine rf_R_get pm_M180 T2222 (pc_q := 4) (v := .int (m_2034 10)) rfl rfl (congrArg (fun z => some (Value.int z)) (Int32.toInt_inj.mp (sf_aux37 _ _ ek2230))) rfl ?_
                  refine pm_R_lo pm_M180 (pc_q := 5) rfl rfl rfl ?_
                  refine rf_R_get pm_M180 T2222 (pc_q := 8) (v := .int (m 11)) rfl rfl (congrArg (fun z => some (Value.int z)) (Int32.toInt_inj.mp (sf_aux37 _ _ ek2228))) rfl ?_
                  refine pm_R_icmp pm_M180 (t := 27) (pc_q := 11) rfl rfl rfl (fun c2236 => absurd c2236 (Int32.not_le.mpr (Int32.not_le.mp c2041))) (fun c2236 => ?_)
                  skip
                  refine pm_R_lo pm_M180 (pc_q := 12) rfl rfl rfl ?_
                  refine rf_R_get pm_M180 T2222 (pc_q := 15) (v := .ref 42) rfl rfl rfl rfl ?_
                  refine pm_R_lo pm_M180 (pc_q := 16) rfl rfl rfl ?_
                  refine rf_R_get pm_M180 T2222 (pc_q := 19) (v := .int (m_2034 10)) rfl rfl (congrArg (fun z => some (Value.int z)) (Int32.toInt_inj.mp (sf_aux37 _ _ ek2230))) rfl ?_
                  have e2237 := (F2223.cell (by decide) (F2130.cell (by decide) e2122))
                  refine pm_R_bald pm_M180 (pc_q := 20) (v := z2079) rfl e2237 (Or.inl rfl) (by decide) (Nat.lt_of_lt_of_le (by decide) T2222.1) (sf_in B2074 (by decide) (by decide)) ez2080 rfl ?_
                  refine pm_R_op pm_M180 (pc_q := 23) (st_q := [.int 255, .int z2079]) rfl rfl rfl ?_
                  refine pm_R_op pm_M180 (pc_q := 24) (st_q := [.int z2081]) rfl (by show some (Value.int (z2079 &&& 255) :: _) = _; rw [← e2082]) rfl ?_
                  refine pm_R_br pm_M180 (pc_q := 28) rfl rfl ?_
                  refine pm_R_ret pm_M180 (r := some (.int z2081)) rfl (pm_ret_i _) ?_
                  show pm_R _ 179 167 [.ref 41, .int z2081, .int 0] [.int z2081] _ _
                  refine pm_R_op pm_M179 (pc_q := 169) (st_q := [.int 48, .int z2081]) (pm_q179_1 (Nat.le_of_ble_eq_true rfl)) rfl rfl ?_
                  refine pm_R_op pm_M179 (pc_q := 171) (st_q := [.int 57, .int 48, .int z2081]) (pm_q179_1 (Nat.le_of_ble_eq_true rfl)) rfl rfl ?_
                  refine pm_R_cs pm_M179 (pc_q := 174) (ra := [.int 57, .int 48, .int z2081]) (rest := []) (ls_q := [.int z2081, .int 48, .int 57]) (pm_q179_1 (Nat.le_of_ble_eq_true rfl)) rfl (Or.inl rfl) pm_M174 rfl rfl (Nat.le_of_ble_eq_true rfl) rfl rfl ?_
                  refine pm_R_lo pm_M174 (pc_q := 1) rfl rfl rfl ?_
                  refine pm_R_lo pm_M174 (pc_q := 2) rfl rfl rfl ?_
                  refine pm_R_icmp pm_M174 (t := 14) (pc_q := 5) rfl rfl rfl (fun c2243 => absurd c2243 (sf_nlt B2220 sf_k48 (by decide))) (fun c2243 => ?_)
                  skip
                  refine pm_R_lo pm_M174 (pc_q := 6) rfl rfl rfl ?_
                  refine pm_R_lo pm_M174 (pc_q := 7) rfl rfl rfl ?_
                  refine pm_R_icmp pm_M174 (t := 14) (pc_q := 10) rfl rfl rfl (fun c2244 => absurd c2244 (sf_nlt sf_k57 B2220 (by decide))) (fun c2244 => ?_)
                  skip
                  refine pm_R_op pm_M174 (pc_q := 11) (st_q := [.int 1]) rfl rfl rfl ?_
                  refine pm_R_br pm_M174 (pc_q := 15) rfl rfl ?_
                  refine pm_R_ret pm_M174 (r := some (.int 1)) rfl rfl ?_
                  show pm_R _ 179 174 [.ref 41, .int z2081, .int 0] [.int 1] _ _
                  refine pm_R_br pm_M179 (pc_q := 177) (st_q := []) (pm_q179_1 (Nat.le_of_ble_eq_true rfl)) rfl ?_
                  refine pm_R_lo pm_M179 (pc_q := 178) (pm_q179_1 (Nat.le_of_ble_eq_true rfl)) rfl rfl ?_
                  refine pm_R_lo pm_M179 (pc_q := 179) (pm_q179_1 (Nat.le_of_ble_eq_true rfl)) rfl rfl ?_
                  refine pm_R_op pm_M179 (pc_q := 180) (st_q := [.int 2, .int 0, .ref 41]) (pm_q179_1 (Nat.le_of_ble_eq_true rfl)) rfl rfl ?_
                  refine pm_R_br pm_M179 (pc_q := 183) (st_q := [.ref 41]) (pm_q179_1 (Nat.le_of_ble_eq_true rfl)) rfl ?_
                  refine pm_R_op pm_M179 (pc_q := 185) (st_q := [.int 10, .ref 41]) (pm_q179_1 (Nat.le_of_ble_eq_true rfl)) rfl rfl ?_
                  refine pm_R_lo pm_M179 (pc_q := 186) (pm_q179_1 (Nat.le_of_ble_eq_true rfl)) rfl rfl ?_
                  refine rf_R_get pm_M179 T2222 (pc_q := 189) (v := .int (m2224 14)) (pm_q179_1 (Nat.le_of_ble_eq_true rfl)) rfl rfl rfl ?_
                  refine sf_R_imul pm_M179 (pc_q := 190) (pm_q179_1 (Nat.le_of_ble_eq_true rfl)) rfl sf_k10 B2233 (by decide) (by decide) (by decide) (fun z2245 e2246 B2247 => ?_)
                  refine pm_R_lo pm_M179 (pc_q := 191) (pm_q179_1 (Nat.le_of_ble_eq_true rfl)) rfl rfl ?_
                  refine pm_R_cv pm_M179 (pc_q := 194) (a := 41) (ra := []) (rest := [.int z2245, .ref 41]) (ls_q := [.ref 41]) (pm_q179_1 (Nat.le_of_ble_eq_true rfl)) rfl (Or.inl rfl) pm_M180 T2222.2.1 rfl (by decide) (Nat.lt_of_lt_of_le (by decide) T2222.1) rfl rfl (Nat.le_of_ble_eq_true rfl) rfl rfl ?_
                  refine pm_R_lo pm_M180 (pc_q := 1) rfl rfl rfl ?_
                  refine rf_R_get pm_M180 T2222 (pc_q := 4) (v := .int (m_2034 10)) rfl rfl (congrArg (fun z => some (Value.int z)) (Int32.toInt_inj.mp (sf_aux37 _ _ ek2230))) rfl ?_
                  refine pm_R_lo pm_M180 (pc_q := 5) rfl rfl rfl ?_
                  refine rf_R_get pm_M180 T2222 (pc_q := 8) (v := .int (m 11)) rfl rfl (congrArg (fun z => some (Value.int z)) (Int32.toInt_inj.mp (sf_aux37 _ _ ek2228))) rfl ?_
                  refine pm_R_icmp pm_M180 (t := 27) (pc_q := 11) rfl rfl rfl (fun c2248 => absurd c2248 (Int32.not_le.mpr (Int32.not_le.mp c2041))) (fun c2248 => ?_)
                  skip
                  refine pm_R_lo pm_M180 (pc_q := 12) rfl rfl rfl ?_
                  refine rf_R_get pm_M180 T2222 (pc_q := 15) (v := .ref 42) rfl rfl rfl rfl ?_
                  refine pm_R_lo pm_M180 (pc_q := 16) rfl rfl rfl ?_
                  refine rf_R_get pm_M180 T2222 (pc_q := 19) (v := .int (m_2034 10)) rfl rfl (congrArg (fun z => some (Value.int z)) (Int32.toInt_inj.mp (sf_aux37 _ _ ek2230))) rfl ?_
                  refine pm_R_bald pm_M180 (pc_q := 20) (v := z2079) rfl e2237 (Or.inl rfl) (by decide) (Nat.lt_of_lt_of_le (by decide) T2222.1) (sf_in B2074 (by decide) (by decide)) ez2080 rfl ?_
                  refine pm_R_op pm_M180 (pc_q := 23) (st_q := [.int 255, .int z2079]) rfl rfl rfl ?_
                  refine pm_R_op pm_M180 (pc_q := 24) (st_q := [.int z2081]) rfl (by show some (Value.int (z2079 &&& 255) :: _) = _; rw [← e2082]) rfl ?_
                  refine pm_R_br pm_M180 (pc_q := 28) rfl rfl ?_
                  refine pm_R_ret pm_M180 (r := some (.int z2081)) rfl (pm_ret_i _) ?_
                  show pm_R _ 179 194 [.ref 41, .int z2081, .int 0] [.int z2081, .int z2245, .ref 41] _ _
                  refine sf_R_iadd pm_M179 (pc_q := 195) (pm_q179_1 (Nat.le_of_ble_eq_true rfl)) rfl B2247 B2220 (by decide) (by decide) (fun z2254 e2255 B2256 => ?_)
                  refine pm_R_op pm_M179 (pc_q := 197) (st_q := [.int 48, .int z2254, .ref 41]) (pm_q179_1 (Nat.le_of_ble_eq_true rfl)) rfl rfl ?_
                  refine sf_R_isub pm_M179 (pc_q := 198) (pm_q179_1 (Nat.le_of_ble_eq_true rfl)) rfl B2256 sf_k48 (by decide) (by decide) (fun z2257 e2258 B2259 => ?_)
                  refine pm_R_br pm_M179 (pc_q := 205) (pm_q179_1 (Nat.le_of_ble_eq_true rfl)) rfl ?_
                  refine rf_R_put pm_M179 T2222 (pc_q := 208) (pm_q179_1 (Nat.le_of_ble_eq_true rfl)) rfl rfl (by decide) rfl rfl (sf_weak B2259 (by decide) (by decide)) rfl rfl (fun h2260 m2263 em2264 T2261 F2262 => ?_)
                  have F2265 := F2226.trans F2262 (by decide)
                  have B2266 : sf_B 0 600 (m2263 11) := by rw [em2264]; exact B2227
                  have ek2267 : (m2263 11).toInt = ((m 11)).toInt := by rw [em2264]; exact ek2228
                  have B2268 : sf_B 0 599 (m2263 10) := by rw [em2264]; exact B2229
                  have ek2269 : (m2263 10).toInt = ((m_2034 10)).toInt := by rw [em2264]; exact ek2230
                  have B2270 : sf_B 0 599 (m2263 12) := by rw [em2264]; exact B2231
                  have ek2271 : (m2263 12).toInt = ((m_2034 10)).toInt := by rw [em2264]; exact ek2232
                  have B2272 : sf_B 0 9 (m2263 14) := by rw [em2264]; exact B2259
                  have ek2273 : (m2263 14).toInt = (z2257).toInt := by rw [em2264]; rfl
                  have W2274 : rf_W [10, 12, 13, 14] m m2263 := by rw [em2264]; exact W2235.put (by decide)
                  refine pm_R_lo pm_M179 (pc_q := 209) (pm_q179_1 (Nat.le_of_ble_eq_true rfl)) rfl rfl ?_
                  refine pm_R_op pm_M179 (pc_q := 210) (st_q := [.ref 41, .ref 41]) (pm_q179_1 (Nat.le_of_ble_eq_true rfl)) rfl rfl ?_
                  refine rf_R_get pm_M179 T2261 (pc_q := 213) (v := .int (m_2034 10)) (pm_q179_1 (Nat.le_of_ble_eq_true rfl)) rfl (congrArg (fun z => some (Value.int z)) (Int32.toInt_inj.mp (sf_aux37 _ _ ek2269))) rfl ?_
                  refine pm_R_op pm_M179 (pc_q := 214) (st_q := [.int 1, .int (m_2034 10), .ref 41]) (pm_q179_1 (Nat.le_of_ble_eq_true rfl)) rfl rfl ?_
                  refine sf_R_iadd pm_M179 (pc_q := 215) (pm_q179_1 (Nat.le_of_ble_eq_true rfl)) rfl B2074 sf_k1 (by decide) (by decide) (fun z2275 e2276 B2277 => ?_)
                  refine rf_R_put pm_M179 T2261 (pc_q := 218) (pm_q179_1 (Nat.le_of_ble_eq_true rfl)) rfl rfl (by decide) rfl rfl (sf_weak B2277 (by decide) (by decide)) rfl rfl (fun h2278 m2281 em2282 T2279 F2280 => ?_)
                  have F2283 := F2265.trans F2280 (by decide)
                  have B2284 : sf_B 0 600 (m2281 11) := by rw [em2282]; exact B2266
                  have ek2285 : (m2281 11).toInt = ((m 11)).toInt := by rw [em2282]; exact ek2267
                  have B2286 : sf_B 0 599 (m2281 12) := by rw [em2282]; exact B2270
                  have ek2287 : (m2281 12).toInt = ((m_2034 10)).toInt := by rw [em2282]; exact ek2271
                  have B2288 : sf_B 0 9 (m2281 14) := by rw [em2282]; exact B2272
                  have ek2289 : (m2281 14).toInt = (z2257).toInt := by rw [em2282]; exact ek2273
                  have B2290 : sf_B 1 600 (m2281 10) := by rw [em2282]; exact B2277
                  have ek2291 : (m2281 10).toInt = (z2275).toInt := by rw [em2282]; rfl
                  have W2292 : rf_W [10, 12, 13, 14] m m2281 := by rw [em2282]; exact W2274.put (by decide)
                  refine pm_R_lo pm_M179 (pc_q := 221) (ls_q := [.ref 41, .int z2081, .int 1]) (st_q := []) (pm_q179_1 (Nat.le_of_ble_eq_true rfl)) rfl rfl ?_
                  refine pm_R_br pm_M179 (pc_q := 163) (pm_q179_1 (Nat.le_of_ble_eq_true rfl)) rfl ?_
                  refine pm_R_lo pm_M179 (pc_q := 164) (pm_q179_1 (Nat.le_of_ble_eq_true rfl)) rfl rfl ?_
                  refine pm_R_cv pm_M179 (pc_q := 167) (a := 41) (ra := []) (rest := []) (ls_q := [.ref 41]) (pm_q179_1 (Nat.le_of_ble_eq_true rfl)) rfl (Or.inl rfl) pm_M180 T2279.2.1 rfl (by decide) (Nat.lt_of_lt_of_le (by decide) T2279.1) rfl rfl (Nat.le_of_ble_eq_true rfl) rfl rfl ?_
                  refine pm_R_lo pm_M180 (pc_q := 1) rfl rfl rfl ?_
                  refine rf_R_get pm_M180 T2279 (pc_q := 4) (v := .int z2275) rfl rfl (congrArg (fun z => some (Value.int z)) (Int32.toInt_inj.mp (sf_aux38 _ _ _ e2276 ek2291))) rfl ?_
                  refine pm_R_lo pm_M180 (pc_q := 5) rfl rfl rfl ?_
                  refine rf_R_get pm_M180 T2279 (pc_q := 8) (v := .int (m 11)) rfl rfl (congrArg (fun z => some (Value.int z)) (Int32.toInt_inj.mp (sf_aux37 _ _ ek2285))) rfl ?_
                  refine pm_R_icmp pm_M180 (t := 27) (pc_q := 11) rfl rfl rfl (fun c2293 => ?_) (fun c2293 => ?_)
                  · skip
                    refine pm_R_op pm_M180 (pc_q := 28) (st_q := [.int (-1)]) rfl rfl rfl ?_
                    refine pm_R_ret pm_M180 (r := some (.int (-1))) rfl rfl ?_
                    show pm_R _ 179 167 [.ref 41, .int z2081, .int 1] [.int (-1)] _ _
                    refine pm_R_op pm_M179 (pc_q := 169) (st_q := [.int 48, .int (-1)]) (pm_q179_1 (Nat.le_of_ble_eq_true rfl)) rfl rfl ?_
                    refine pm_R_op pm_M179 (pc_q := 171) (st_q := [.int 57, .int 48, .int (-1)]) (pm_q179_1 (Nat.le_of_ble_eq_true rfl)) rfl rfl ?_
                    refine pm_R_cs pm_M179 (pc_q := 174) (ra := [.int 57, .int 48, .int (-1)]) (rest := []) (ls_q := [.int (-1), .int 48, .int 57]) (pm_q179_1 (Nat.le_of_ble_eq_true rfl)) rfl (Or.inl rfl) pm_M174 rfl rfl (Nat.le_of_ble_eq_true rfl) rfl rfl ?_
                    refine pm_R_lo pm_M174 (pc_q := 1) rfl rfl rfl ?_
                    refine pm_R_lo pm_M174 (pc_q := 2) rfl rfl rfl ?_
                    refine pm_R_br pm_M174 (pc_q := 14) (st_q := []) rfl rfl ?_
                    refine pm_R_op pm_M174 (pc_q := 15) (st_q := [.int 0]) rfl rfl rfl ?_
                    refine pm_R_ret pm_M174 (r := some (.int 0)) rfl rfl ?_
                    show pm_R _ 179 174 [.ref 41, .int z2081, .int 1] [.int 0] _ _
                    refine pm_R_br pm_M179 (pc_q := 224) (st_q := []) (pm_q179_1 (Nat.le_of_ble_eq_true rfl)) rfl ?_
                    refine pm_R_lo pm_M179 (pc_q := 225) (pm_q179_1 (Nat.le_of_ble_eq_true rfl)) rfl rfl ?_
                    refine pm_R_lo pm_M179 (pc_q := 226) (pm_q179_1 (Nat.le_of_ble_eq_true rfl)) rfl rfl ?_
                    refine pm_R_op pm_M179 (pc_q := 227) (st_q := [.int 2, .int 1, .ref 41]) (pm_q179_1 (Nat.le_of_ble_eq_true rfl)) rfl rfl ?_
                    refine pm_R_br pm_M179 (pc_q := 234) (st_q := [.ref 41]) (pm_q179_1 (Nat.le_of_ble_eq_true rfl)) rfl ?_
                    refine pm_R_op pm_M179 (pc_q := 235) (st_q := [.int 3, .ref 41]) (pm_q179_2 (Nat.le_of_ble_eq_true rfl)) rfl rfl ?_
                    refine rf_R_put pm_M179 T2279 (pc_q := 238) (pm_q179_2 (Nat.le_of_ble_eq_true rfl)) rfl rfl (by decide) rfl rfl (sf_weak sf_k3 (by decide) (by decide)) rfl rfl (fun h2294 m2297 em2298 T2295 F2296 => ?_)
                    have F2299 := F2283.trans F2296 (by decide)
                    have B2300 : sf_B 0 600 (m2297 11) := by rw [em2298]; exact B2284
                    have ek2301 : (m2297 11).toInt = ((m 11)).toInt := by rw [em2298]; exact ek2285
                    have B2302 : sf_B 0 599 (m2297 12) := by rw [em2298]; exact B2286
                    have ek2303 : (m2297 12).toInt = ((m_2034 10)).toInt := by rw [em2298]; exact ek2287
                    have B2304 : sf_B 0 9 (m2297 14) := by rw [em2298]; exact B2288
                    have ek2305 : (m2297 14).toInt = (z2257).toInt := by rw [em2298]; exact ek2289
                    have B2306 : sf_B 1 600 (m2297 10) := by rw [em2298]; exact B2290
                    have ek2307 : (m2297 10).toInt = (z2275).toInt := by rw [em2298]; exact ek2291
                    have B2308 : sf_B 3 3 (m2297 13) := by rw [em2298]; exact sf_k3
                    have W2310 : rf_W [10, 12, 13, 14] m m2297 := by rw [em2298]; exact W2292.put (by decide)
                    refine pm_R_br pm_M179 (pc_q := 266) (pm_q179_2 (Nat.le_of_ble_eq_true rfl)) rfl ?_
                    exact pm_R_ret pm_M179 (r := none) (pm_q179_2 (Nat.le_of_ble_eq_true rfl)) rfl (K m2297 0 h2294 T2295 F2299 W2310 (sf_aux40 _ _ _ _ e2276 ek2307 X_2034) (Or.inl (sf_aux41 _ _ _ _ e2276 ek2307 X_2034)))
                  · have B2311 : sf_B 1 599 z2275 := sf_ltL (Int32.not_le.mp c2293) B2277 B2075
                    have B2312 : sf_B 2 600 (m 11) := sf_ltR (Int32.not_le.mp c2293) B2277 B2075
                    have B2313 : sf_B 0 598 (m_2034 10) := sf_addL e2276 B2311 sf_k1 B2074
                    refine pm_R_lo pm_M180 (pc_q := 12) rfl rfl rfl ?_
                    refine rf_R_get pm_M180 T2279 (pc_q := 15) (v := .ref 42) rfl rfl rfl rfl ?_
                    refine pm_R_lo pm_M180 (pc_q := 16) rfl rfl rfl ?_
                    refine rf_R_get pm_M180 T2279 (pc_q := 19) (v := .int z2275) rfl rfl (congrArg (fun z => some (Value.int z)) (Int32.toInt_inj.mp (sf_aux38 _ _ _ e2276 ek2291))) rfl ?_
                    have e2314 := (F2280.cell (by decide) (F2262.cell (by decide) e2237))
                    refine rf_R_bld pm_M180 T2279 (pc_q := 20) rfl e2314 (Or.inl rfl) (by decide) (by decide) (sf_in B2311 (by decide) (by decide)) rfl (fun z2315 ez2316 => ?_)
                    refine pm_R_op pm_M180 (pc_q := 23) (st_q := [.int 255, .int z2315]) rfl rfl rfl ?_
                    refine sf_R_iandE pm_M180 (pc_q := 24) rfl rfl sf_k255 (by decide) (fun z2317 e2318 B2319 => ?_)
                    refine pm_R_br pm_M180 (pc_q := 28) rfl rfl ?_
                    refine pm_R_ret pm_M180 (r := some (.int z2317)) rfl (pm_ret_i _) ?_
                    show pm_R _ 179 167 [.ref 41, .int z2081, .int 1] [.int z2317] _ _
                    refine pm_R_op pm_M179 (pc_q := 169) (st_q := [.int 48, .int z2317]) (pm_q179_1 (Nat.le_of_ble_eq_true rfl)) rfl rfl ?_
                    refine pm_R_op pm_M179 (pc_q := 171) (st_q := [.int 57, .int 48, .int z2317]) (pm_q179_1 (Nat.le_of_ble_eq_true rfl)) rfl rfl ?_
                    refine pm_R_cs pm_M179 (pc_q := 174) (ra := [.int 57, .int 48, .int z2317]) (rest := []) (ls_q := [.int z2317, .int 48, .int 57]) (pm_q179_1 (Nat.le_of_ble_eq_true rfl)) rfl (Or.inl rfl) pm_M174 rfl rfl (Nat.le_of_ble_eq_true rfl) rfl rfl ?_
                    refine pm_R_lo pm_M174 (pc_q := 1) rfl rfl rfl ?_
                    refine pm_R_lo pm_M174 (pc_q := 2) rfl rfl rfl ?_
                    refine pm_R_icmp pm_M174 (t := 14) (pc_q := 5) rfl rfl rfl (fun c2320 => ?_) (fun c2320 => ?_)
                    · have B2321 : sf_B 0 47 z2317 := sf_ltL c2320 B2319 sf_k48
                      refine pm_R_op pm_M174 (pc_q := 15) (st_q := [.int 0]) rfl rfl rfl ?_
                      refine pm_R_ret pm_M174 (r := some (.int 0)) rfl rfl ?_
                      show pm_R _ 179 174 [.ref 41, .int z2081, .int 1] [.int 0] _ _
                      refine pm_R_br pm_M179 (pc_q := 224) (st_q := []) (pm_q179_1 (Nat.le_of_ble_eq_true rfl)) rfl ?_
                      refine pm_R_lo pm_M179 (pc_q := 225) (pm_q179_1 (Nat.le_of_ble_eq_true rfl)) rfl rfl ?_
                      refine pm_R_lo pm_M179 (pc_q := 226) (pm_q179_1 (Nat.le_of_ble_eq_true rfl)) rfl rfl ?_
                      refine pm_R_op pm_M179 (pc_q := 227) (st_q := [.int 2, .int 1, .ref 41]) (pm_q179_1 (Nat.le_of_ble_eq_true rfl)) rfl rfl ?_
                      refine pm_R_br pm_M179 (pc_q := 234) (st_q := [.ref 41]) (pm_q179_1 (Nat.le_of_ble_eq_true rfl)) rfl ?_
                      refine pm_R_op pm_M179 (pc_q := 235) (st_q := [.int 3, .ref 41]) (pm_q179_2 (Nat.le_of_ble_eq_true rfl)) rfl rfl ?_
                      refine rf_R_put pm_M179 T2279 (pc_q := 238) (pm_q179_2 (Nat.le_of_ble_eq_true rfl)) rfl rfl (by decide) rfl rfl (sf_weak sf_k3 (by decide) (by decide)) rfl rfl (fun h2322 m2325 em2326 T2323 F2324 => ?_)
                      have F2327 := F2283.trans F2324 (by decide)
                      have B2328 : sf_B 0 600 (m2325 11) := by rw [em2326]; exact B2284
                      have ek2329 : (m2325 11).toInt = ((m 11)).toInt := by rw [em2326]; exact ek2285
                      have B2330 : sf_B 0 599 (m2325 12) := by rw [em2326]; exact B2286
                      have ek2331 : (m2325 12).toInt = ((m_2034 10)).toInt := by rw [em2326]; exact ek2287
                      have B2332 : sf_B 0 9 (m2325 14) := by rw [em2326]; exact B2288
                      have ek2333 : (m2325 14).toInt = (z2257).toInt := by rw [em2326]; exact ek2289
                      have B2334 : sf_B 1 600 (m2325 10) := by rw [em2326]; exact B2290
                      have ek2335 : (m2325 10).toInt = (z2275).toInt := by rw [em2326]; exact ek2291
                      have B2336 : sf_B 3 3 (m2325 13) := by rw [em2326]; exact sf_k3
                      have W2338 : rf_W [10, 12, 13, 14] m m2325 := by rw [em2326]; exact W2292.put (by decide)
                      refine pm_R_br pm_M179 (pc_q := 266) (pm_q179_2 (Nat.le_of_ble_eq_true rfl)) rfl ?_
                      exact pm_R_ret pm_M179 (r := none) (pm_q179_2 (Nat.le_of_ble_eq_true rfl)) rfl (K m2325 0 h2322 T2323 F2327 W2338 (sf_aux40 _ _ _ _ e2276 ek2335 X_2034) (Or.inl (sf_aux41 _ _ _ _ e2276 ek2335 X_2034)))
                    · have B2339 : sf_B 48 255 z2317 := sf_leR (Int32.not_lt.mp c2320) sf_k48 B2319
                      refine pm_R_lo pm_M174 (pc_q := 6) rfl rfl rfl ?_
                      refine pm_R_lo pm_M174 (pc_q := 7) rfl rfl rfl ?_
                      refine pm_R_icmp pm_M174 (t := 14) (pc_q := 10) rfl rfl rfl (fun c2340 => ?_) (fun c2340 => ?_)
                      · have B2341 : sf_B 58 255 z2317 := sf_ltR c2340 sf_k57 B2339
                        refine pm_R_op pm_M174 (pc_q := 15) (st_q := [.int 0]) rfl rfl rfl ?_
                        refine pm_R_ret pm_M174 (r := some (.int 0)) rfl rfl ?_
                        show pm_R _ 179 174 [.ref 41, .int z2081, .int 1] [.int 0] _ _
                        refine pm_R_br pm_M179 (pc_q := 224) (st_q := []) (pm_q179_1 (Nat.le_of_ble_eq_true rfl)) rfl ?_
                        refine pm_R_lo pm_M179 (pc_q := 225) (pm_q179_1 (Nat.le_of_ble_eq_true rfl)) rfl rfl ?_
                        refine pm_R_lo pm_M179 (pc_q := 226) (pm_q179_1 (Nat.le_of_ble_eq_true rfl)) rfl rfl ?_
                        refine pm_R_op pm_M179 (pc_q := 227) (st_q := [.int 2, .int 1, .ref 41]) (pm_q179_1 (Nat.le_of_ble_eq_true rfl)) rfl rfl ?_
                        refine pm_R_br pm_M179 (pc_q := 234) (st_q := [.ref 41]) (pm_q179_1 (Nat.le_of_ble_eq_true rfl)) rfl ?_
                        refine pm_R_op pm_M179 (pc_q := 235) (st_q := [.int 3, .ref 41]) (pm_q179_2 (Nat.le_of_ble_eq_true rfl)) rfl rfl ?_
                        refine rf_R_put pm_M179 T2279 (pc_q := 238) (pm_q179_2 (Nat.le_of_ble_eq_true rfl)) rfl rfl (by decide) rfl rfl (sf_weak sf_k3 (by decide) (by decide)) rfl rfl (fun h2342 m2345 em2346 T2343 F2344 => ?_)
                        have F2347 := F2283.trans F2344 (by decide)
                        have B2348 : sf_B 0 600 (m2345 11) := by rw [em2346]; exact B2284
                        have ek2349 : (m2345 11).toInt = ((m 11)).toInt := by rw [em2346]; exact ek2285
                        have B2350 : sf_B 0 599 (m2345 12) := by rw [em2346]; exact B2286
                        have ek2351 : (m2345 12).toInt = ((m_2034 10)).toInt := by rw [em2346]; exact ek2287
                        have B2352 : sf_B 0 9 (m2345 14) := by rw [em2346]; exact B2288
                        have ek2353 : (m2345 14).toInt = (z2257).toInt := by rw [em2346]; exact ek2289
                        have B2354 : sf_B 1 600 (m2345 10) := by rw [em2346]; exact B2290
                        have ek2355 : (m2345 10).toInt = (z2275).toInt := by rw [em2346]; exact ek2291
                        have B2356 : sf_B 3 3 (m2345 13) := by rw [em2346]; exact sf_k3
                        have W2358 : rf_W [10, 12, 13, 14] m m2345 := by rw [em2346]; exact W2292.put (by decide)
                        refine pm_R_br pm_M179 (pc_q := 266) (pm_q179_2 (Nat.le_of_ble_eq_true rfl)) rfl ?_
                        exact pm_R_ret pm_M179 (r := none) (pm_q179_2 (Nat.le_of_ble_eq_true rfl)) rfl (K m2345 0 h2342 T2343 F2347 W2358 (sf_aux40 _ _ _ _ e2276 ek2355 X_2034) (Or.inl (sf_aux41 _ _ _ _ e2276 ek2355 X_2034)))
                      · have B2359 : sf_B 48 57 z2317 := sf_leL (Int32.not_lt.mp c2340) B2339 sf_k57
                        refine pm_R_op pm_M174 (pc_q := 11) (st_q := [.int 1]) rfl rfl rfl ?_
                        refine pm_R_br pm_M174 (pc_q := 15) rfl rfl ?_
                        refine pm_R_ret pm_M174 (r := some (.int 1)) rfl rfl ?_
                        show pm_R _ 179 174 [.ref 41, .int z2081, .int 1] [.int 1] _ _
                        refine pm_R_br pm_M179 (pc_q := 177) (st_q := []) (pm_q179_1 (Nat.le_of_ble_eq_true rfl)) rfl ?_
                        refine pm_R_lo pm_M179 (pc_q := 178) (pm_q179_1 (Nat.le_of_ble_eq_true rfl)) rfl rfl ?_
                        refine pm_R_lo pm_M179 (pc_q := 179) (pm_q179_1 (Nat.le_of_ble_eq_true rfl)) rfl rfl ?_
                        refine pm_R_op pm_M179 (pc_q := 180) (st_q := [.int 2, .int 1, .ref 41]) (pm_q179_1 (Nat.le_of_ble_eq_true rfl)) rfl rfl ?_
                        refine pm_R_br pm_M179 (pc_q := 183) (st_q := [.ref 41]) (pm_q179_1 (Nat.le_of_ble_eq_true rfl)) rfl ?_
                        refine pm_R_op pm_M179 (pc_q := 185) (st_q := [.int 10, .ref 41]) (pm_q179_1 (Nat.le_of_ble_eq_true rfl)) rfl rfl ?_
                        refine pm_R_lo pm_M179 (pc_q := 186) (pm_q179_1 (Nat.le_of_ble_eq_true rfl)) rfl rfl ?_
                        refine rf_R_get pm_M179 T2279 (pc_q := 189) (v := .int (m2281 14)) (pm_q179_1 (Nat.le_of_ble_eq_true rfl)) rfl rfl rfl ?_
                        refine sf_R_imul pm_M179 (pc_q := 190) (pm_q179_1 (Nat.le_of_ble_eq_true rfl)) rfl sf_k10 B2288 (by decide) (by decide) (by decide) (fun z2360 e2361 B2362 => ?_)
                        refine pm_R_lo pm_M179 (pc_q := 191) (pm_q179_1 (Nat.le_of_ble_eq_true rfl)) rfl rfl ?_
                        refine pm_R_cv pm_M179 (pc_q := 194) (a := 41) (ra := []) (rest := [.int z2360, .ref 41]) (ls_q := [.ref 41]) (pm_q179_1 (Nat.le_of_ble_eq_true rfl)) rfl (Or.inl rfl) pm_M180 T2279.2.1 rfl (by decide) (Nat.lt_of_lt_of_le (by decide) T2279.1) rfl rfl (Nat.le_of_ble_eq_true rfl) rfl rfl ?_
                        refine pm_R_lo pm_M180 (pc_q := 1) rfl rfl rfl ?_
                        refine rf_R_get pm_M180 T2279 (pc_q := 4) (v := .int z2275) rfl rfl (congrArg (fun z => some (Value.int z)) (Int32.toInt_inj.mp (sf_aux38 _ _ _ e2276 ek2291))) rfl ?_
                        refine pm_R_lo pm_M180 (pc_q := 5) rfl rfl rfl ?_
                        refine rf_R_get pm_M180 T2279 (pc_q := 8) (v := .int (m 11)) rfl rfl (congrArg (fun z => some (Value.int z)) (Int32.toInt_inj.mp (sf_aux37 _ _ ek2285))) rfl ?_
                        refine pm_R_icmp pm_M180 (t := 27) (pc_q := 11) rfl rfl rfl (fun c2363 => absurd c2363 (Int32.not_le.mpr (Int32.not_le.mp c2293))) (fun c2363 => ?_)
                        skip
                        refine pm_R_lo pm_M180 (pc_q := 12) rfl rfl rfl ?_
                        refine rf_R_get pm_M180 T2279 (pc_q := 15) (v := .ref 42) rfl rfl rfl rfl ?_
                        refine pm_R_lo pm_M180 (pc_q := 16) rfl rfl rfl ?_
                        refine rf_R_get pm_M180 T2279 (pc_q := 19) (v := .int z2275) rfl rfl (congrArg (fun z => some (Value.int z)) (Int32.toInt_inj.mp (sf_aux38 _ _ _ e2276 ek2291))) rfl ?_
                        refine pm_R_bald pm_M180 (pc_q := 20) (v := z2315) rfl e2314 (Or.inl rfl) (by decide) (Nat.lt_of_lt_of_le (by decide) T2279.1) (sf_in B2311 (by decide) (by decide)) ez2316 rfl ?_
                        refine pm_R_op pm_M180 (pc_q := 23) (st_q := [.int 255, .int z2315]) rfl rfl rfl ?_
                        refine pm_R_op pm_M180 (pc_q := 24) (st_q := [.int z2317]) rfl (by show some (Value.int (z2315 &&& 255) :: _) = _; rw [← e2318]) rfl ?_
                        refine pm_R_br pm_M180 (pc_q := 28) rfl rfl ?_
                        refine pm_R_ret pm_M180 (r := some (.int z2317)) rfl (pm_ret_i _) ?_
                        show pm_R _ 179 194 [.ref 41, .int z2081, .int 1] [.int z2317, .int z2360, .ref 41] _ _
                        refine sf_R_iadd pm_M179 (pc_q := 195) (pm_q179_1 (Nat.le_of_ble_eq_true rfl)) rfl B2362 B2359 (by decide) (by decide) (fun z2369 e2370 B2371 => ?_)
                        refine pm_R_op pm_M179 (pc_q := 197) (st_q := [.int 48, .int z2369, .ref 41]) (pm_q179_1 (Nat.le_of_ble_eq_true rfl)) rfl rfl ?_
                        refine sf_R_isub pm_M179 (pc_q := 198) (pm_q179_1 (Nat.le_of_ble_eq_true rfl)) rfl B2371 sf_k48 (by decide) (by decide) (fun z2372 e2373 B2374 => ?_)
                        refine pm_R_br pm_M179 (pc_q := 205) (pm_q179_1 (Nat.le_of_ble_eq_true rfl)) rfl ?_
                        refine rf_R_put pm_M179 T2279 (pc_q := 208) (pm_q179_1 (Nat.le_of_ble_eq_true rfl)) rfl rfl (by decide) rfl rfl B2374 rfl rfl (fun h2375 m2378 em2379 T2376 F2377 => ?_)
                        have F2380 := F2283.trans F2377 (by decide)
                        have B2381 : sf_B 0 600 (m2378 11) := by rw [em2379]; exact B2284
                        have ek2382 : (m2378 11).toInt = ((m 11)).toInt := by rw [em2379]; exact ek2285
                        have B2383 : sf_B 0 599 (m2378 12) := by rw [em2379]; exact B2286
                        have ek2384 : (m2378 12).toInt = ((m_2034 10)).toInt := by rw [em2379]; exact ek2287
                        have B2385 : sf_B 1 600 (m2378 10) := by rw [em2379]; exact B2290
                        have ek2386 : (m2378 10).toInt = (z2275).toInt := by rw [em2379]; exact ek2291
                        have B2387 : sf_B 0 99 (m2378 14) := by rw [em2379]; exact B2374
                        have ek2388 : (m2378 14).toInt = (z2372).toInt := by rw [em2379]; rfl
                        have W2389 : rf_W [10, 12, 13, 14] m m2378 := by rw [em2379]; exact W2292.put (by decide)
                        refine pm_R_lo pm_M179 (pc_q := 209) (pm_q179_1 (Nat.le_of_ble_eq_true rfl)) rfl rfl ?_
                        refine pm_R_op pm_M179 (pc_q := 210) (st_q := [.ref 41, .ref 41]) (pm_q179_1 (Nat.le_of_ble_eq_true rfl)) rfl rfl ?_
                        refine rf_R_get pm_M179 T2376 (pc_q := 213) (v := .int z2275) (pm_q179_1 (Nat.le_of_ble_eq_true rfl)) rfl (congrArg (fun z => some (Value.int z)) (Int32.toInt_inj.mp (sf_aux38 _ _ _ e2276 ek2386))) rfl ?_
                        refine pm_R_op pm_M179 (pc_q := 214) (st_q := [.int 1, .int z2275, .ref 41]) (pm_q179_1 (Nat.le_of_ble_eq_true rfl)) rfl rfl ?_
                        refine sf_R_iadd pm_M179 (pc_q := 215) (pm_q179_1 (Nat.le_of_ble_eq_true rfl)) rfl B2311 sf_k1 (by decide) (by decide) (fun z2390 e2391 B2392 => ?_)
                        refine rf_R_put pm_M179 T2376 (pc_q := 218) (pm_q179_1 (Nat.le_of_ble_eq_true rfl)) rfl rfl (by decide) rfl rfl (sf_weak B2392 (by decide) (by decide)) rfl rfl (fun h2393 m2396 em2397 T2394 F2395 => ?_)
                        have F2398 := F2380.trans F2395 (by decide)
                        have B2399 : sf_B 0 600 (m2396 11) := by rw [em2397]; exact B2381
                        have ek2400 : (m2396 11).toInt = ((m 11)).toInt := by rw [em2397]; exact ek2382
                        have B2401 : sf_B 0 599 (m2396 12) := by rw [em2397]; exact B2383
                        have ek2402 : (m2396 12).toInt = ((m_2034 10)).toInt := by rw [em2397]; exact ek2384
                        have B2403 : sf_B 2 600 (m2396 10) := by rw [em2397]; exact B2392
                        have ek2404 : (m2396 10).toInt = (z2390).toInt := by rw [em2397]; rfl
                        have W2405 : rf_W [10, 12, 13, 14] m m2396 := by rw [em2397]; exact W2389.put (by decide)
                        refine pm_R_lo pm_M179 (pc_q := 221) (ls_q := [.ref 41, .int z2081, .int 2]) (st_q := []) (pm_q179_1 (Nat.le_of_ble_eq_true rfl)) rfl rfl ?_
                        refine pm_R_br pm_M179 (pc_q := 163) (pm_q179_1 (Nat.le_of_ble_eq_true rfl)) rfl ?_
                        have L_2824 : ∀ (N : Nat) (h_2824 : pm_H) (m_2824 : Nat → Int32) (w_2824 : Int64) (x2_2824 : Int32), rf_T m_2824 w_2824 h_2824 → rf_G [41] h h_2824 → rf_W [10, 14] m2396 m_2824 → sf_B 2 600 x2_2824 → x2_2824.toInt ≤ (m_2824 10).toInt → (m 10).toInt + 1 ≤ (m_2824 10).toInt → (600 - (m_2824 10).toInt).toNat = N → pm_R (d + 1) 179 163 [.ref 41, .int z2081, .int x2_2824] [] h_2824 Q := by
                          intro N
                          induction N using Nat.strongRecOn with
                          | ind N ih_2824 =>
                            intro h_2824 m_2824 w_2824 x2_2824 T_2824 F_2824 W_2824 Bx2_2824 R0_2824 X_2824 hN_2824
                            have B2828 : sf_B 0 600 (m_2824 11) := by rw [W_2824 11 (by decide)]; exact B2399
                            have ek2829 : (m_2824 11).toInt = ((m 11)).toInt := by rw [W_2824 11 (by decide)]; exact ek2400
                            have B2830 : sf_B 0 599 (m_2824 12) := by rw [W_2824 12 (by decide)]; exact B2401
                            have ek2831 : (m_2824 12).toInt = ((m_2034 10)).toInt := by rw [W_2824 12 (by decide)]; exact ek2402
                            have W2832 : rf_W [10, 12, 13, 14] m m_2824 := W2405.trans W_2824 (by decide)
                            have B2833 : sf_B 0 600 (m_2824 10) := T_2824.2.2.1 10
                            refine pm_R_lo pm_M179 (pc_q := 164) (pm_q179_1 (Nat.le_of_ble_eq_true rfl)) rfl rfl ?_
                            refine pm_R_cv pm_M179 (pc_q := 167) (a := 41) (ra := []) (rest := []) (ls_q := [.ref 41]) (pm_q179_1 (Nat.le_of_ble_eq_true rfl)) rfl (Or.inl rfl) pm_M180 T_2824.2.1 rfl (by decide) (Nat.lt_of_lt_of_le (by decide) T_2824.1) rfl rfl (Nat.le_of_ble_eq_true rfl) rfl rfl ?_
                            refine pm_R_lo pm_M180 (pc_q := 1) rfl rfl rfl ?_
                            refine rf_R_get pm_M180 T_2824 (pc_q := 4) (v := .int (m_2824 10)) rfl rfl rfl rfl ?_
                            refine pm_R_lo pm_M180 (pc_q := 5) rfl rfl rfl ?_
                            refine rf_R_get pm_M180 T_2824 (pc_q := 8) (v := .int (m 11)) rfl rfl (congrArg (fun z => some (Value.int z)) (Int32.toInt_inj.mp (sf_aux37 _ _ ek2829))) rfl ?_
                            refine pm_R_icmp pm_M180 (t := 27) (pc_q := 11) rfl rfl rfl (fun c2834 => ?_) (fun c2834 => ?_)
                            · have B2835 : sf_B 2 600 (m_2824 10) := sf_leR c2834 B2312 B2833
                              refine pm_R_op pm_M180 (pc_q := 28) (st_q := [.int (-1)]) rfl rfl rfl ?_
                              refine pm_R_ret pm_M180 (r := some (.int (-1))) rfl rfl ?_
                              show pm_R _ 179 167 [.ref 41, .int z2081, .int x2_2824] [.int (-1)] _ _
                              refine pm_R_op pm_M179 (pc_q := 169) (st_q := [.int 48, .int (-1)]) (pm_q179_1 (Nat.le_of_ble_eq_true rfl)) rfl rfl ?_
                              refine pm_R_op pm_M179 (pc_q := 171) (st_q := [.int 57, .int 48, .int (-1)]) (pm_q179_1 (Nat.le_of_ble_eq_true rfl)) rfl rfl ?_
                              refine pm_R_cs pm_M179 (pc_q := 174) (ra := [.int 57, .int 48, .int (-1)]) (rest := []) (ls_q := [.int (-1), .int 48, .int 57]) (pm_q179_1 (Nat.le_of_ble_eq_true rfl)) rfl (Or.inl rfl) pm_M174 rfl rfl (Nat.le_of_ble_eq_true rfl) rfl rfl ?_
                              refine pm_R_lo pm_M174 (pc_q := 1) rfl rfl rfl ?_
                              refine pm_R_lo pm_M174 (pc_q := 2) rfl rfl rfl ?_
                              refine pm_R_br pm_M174 (pc_q := 14) (st_q := []) rfl rfl ?_
                              refine pm_R_op pm_M174 (pc_q := 15) (st_q := [.int 0]) rfl rfl rfl ?_
                              refine pm_R_ret pm_M174 (r := some (.int 0)) rfl rfl ?_
                              show pm_R _ 179 174 [.ref 41, .int z2081, .int x2_2824] [.int 0] _ _
                              refine pm_R_br pm_M179 (pc_q := 224) (st_q := []) (pm_q179_1 (Nat.le_of_ble_eq_true rfl)) rfl ?_
                              refine pm_R_lo pm_M179 (pc_q := 225) (pm_q179_1 (Nat.le_of_ble_eq_true rfl)) rfl rfl ?_
                              refine pm_R_lo pm_M179 (pc_q := 226) (pm_q179_1 (Nat.le_of_ble_eq_true rfl)) rfl rfl ?_
                              refine pm_R_op pm_M179 (pc_q := 227) (st_q := [.int 2, .int x2_2824, .ref 41]) (pm_q179_1 (Nat.le_of_ble_eq_true rfl)) rfl rfl ?_
                              refine pm_R_icmp pm_M179 (t := 234) (pc_q := 230) (pm_q179_1 (Nat.le_of_ble_eq_true rfl)) rfl rfl (fun c2836 => ?_) (fun c2836 => ?_)
                              · have B2837 : sf_B 2 2 x2_2824 := sf_leL c2836 Bx2_2824 sf_k2
                                refine pm_R_op pm_M179 (pc_q := 235) (st_q := [.int 3, .ref 41]) (pm_q179_2 (Nat.le_of_ble_eq_true rfl)) rfl rfl ?_
                                refine rf_R_put pm_M179 T_2824 (pc_q := 238) (pm_q179_2 (Nat.le_of_ble_eq_true rfl)) rfl rfl (by decide) rfl rfl (sf_weak sf_k3 (by decide) (by decide)) rfl rfl (fun h2838 m2841 em2842 T2839 F2840 => ?_)
                                have F2843 := F_2824.trans F2840 (by decide)
                                have B2844 : sf_B 0 600 (m2841 11) := by rw [em2842]; exact B2828
                                have ek2845 : (m2841 11).toInt = ((m 11)).toInt := by rw [em2842]; exact ek2829
                                have B2846 : sf_B 0 599 (m2841 12) := by rw [em2842]; exact B2830
                                have ek2847 : (m2841 12).toInt = ((m_2034 10)).toInt := by rw [em2842]; exact ek2831
                                have B2848 : sf_B 2 600 (m2841 10) := by rw [em2842]; exact B2835
                                have ek2849 : (m2841 10).toInt = ((m_2824 10)).toInt := by rw [em2842]; rfl
                                have B2850 : sf_B 3 3 (m2841 13) := by rw [em2842]; exact sf_k3
                                have W2852 : rf_W [10, 12, 13, 14] m m2841 := by rw [em2842]; exact W2832.put (by decide)
                                refine pm_R_br pm_M179 (pc_q := 266) (pm_q179_2 (Nat.le_of_ble_eq_true rfl)) rfl ?_
                                exact pm_R_ret pm_M179 (r := none) (pm_q179_2 (Nat.le_of_ble_eq_true rfl)) rfl (K m2841 w_2824 h2838 T2839 F2843 W2852 (sf_aux43 _ _ _ ek2849 X_2824) (Or.inl (sf_aux42 _ _ _ ek2849 X_2824)))
                              · have B2853 : sf_B 3 600 x2_2824 := sf_ltR (Int32.not_le.mp c2836) sf_k2 Bx2_2824
                                refine pm_R_op pm_M179 (pc_q := 231) (st_q := [.int 1, .ref 41]) (pm_q179_1 (Nat.le_of_ble_eq_true rfl)) rfl rfl ?_
                                refine pm_R_br pm_M179 (pc_q := 235) (pm_q179_1 (Nat.le_of_ble_eq_true rfl)) rfl ?_
                                refine rf_R_put pm_M179 T_2824 (pc_q := 238) (pm_q179_2 (Nat.le_of_ble_eq_true rfl)) rfl rfl (by decide) rfl rfl (sf_weak sf_k1 (by decide) (by decide)) rfl rfl (fun h2854 m2857 em2858 T2855 F2856 => ?_)
                                have F2859 := F_2824.trans F2856 (by decide)
                                have B2860 : sf_B 0 600 (m2857 11) := by rw [em2858]; exact B2828
                                have ek2861 : (m2857 11).toInt = ((m 11)).toInt := by rw [em2858]; exact ek2829
                                have B2862 : sf_B 0 599 (m2857 12) := by rw [em2858]; exact B2830
                                have ek2863 : (m2857 12).toInt = ((m_2034 10)).toInt := by rw [em2858]; exact ek2831
                                have B2864 : sf_B 2 600 (m2857 10) := by rw [em2858]; exact B2835
                                have ek2865 : (m2857 10).toInt = ((m_2824 10)).toInt := by rw [em2858]; rfl
                                have B2866 : sf_B 1 1 (m2857 13) := by rw [em2858]; exact sf_k1
                                have W2868 : rf_W [10, 12, 13, 14] m m2857 := by rw [em2858]; exact W2832.put (by decide)
                                refine pm_R_br pm_M179 (pc_q := 266) (pm_q179_2 (Nat.le_of_ble_eq_true rfl)) rfl ?_
                                exact pm_R_ret pm_M179 (r := none) (pm_q179_2 (Nat.le_of_ble_eq_true rfl)) rfl (K m2857 w_2824 h2854 T2855 F2859 W2868 (sf_aux43 _ _ _ ek2865 X_2824) (Or.inl (sf_aux42 _ _ _ ek2865 X_2824)))
                            · have B2869 : sf_B 0 599 (m_2824 10) := sf_ltL (Int32.not_le.mp c2834) B2833 B2312
                              have B2870 : sf_B 2 599 x2_2824 := sf_leT R0_2824 Bx2_2824 B2869
                              refine pm_R_lo pm_M180 (pc_q := 12) rfl rfl rfl ?_
                              refine rf_R_get pm_M180 T_2824 (pc_q := 15) (v := .ref 42) rfl rfl rfl rfl ?_
                              refine pm_R_lo pm_M180 (pc_q := 16) rfl rfl rfl ?_
                              refine rf_R_get pm_M180 T_2824 (pc_q := 19) (v := .int (m_2824 10)) rfl rfl rfl rfl ?_
                              obtain ⟨f2871, e2872⟩ := T_2824.2.2.2.1 42 (by decide) (by decide)
                              refine rf_R_bld pm_M180 T_2824 (pc_q := 20) rfl e2872 (Or.inl rfl) (by decide) (by decide) (sf_in B2869 (by decide) (by decide)) rfl (fun z2874 ez2875 => ?_)
                              refine pm_R_op pm_M180 (pc_q := 23) (st_q := [.int 255, .int z2874]) rfl rfl rfl ?_
                              refine sf_R_iandE pm_M180 (pc_q := 24) rfl rfl sf_k255 (by decide) (fun z2876 e2877 B2878 => ?_)
                              refine pm_R_br pm_M180 (pc_q := 28) rfl rfl ?_
                              refine pm_R_ret pm_M180 (r := some (.int z2876)) rfl (pm_ret_i _) ?_
                              show pm_R _ 179 167 [.ref 41, .int z2081, .int x2_2824] [.int z2876] _ _
                              refine pm_R_op pm_M179 (pc_q := 169) (st_q := [.int 48, .int z2876]) (pm_q179_1 (Nat.le_of_ble_eq_true rfl)) rfl rfl ?_
                              refine pm_R_op pm_M179 (pc_q := 171) (st_q := [.int 57, .int 48, .int z2876]) (pm_q179_1 (Nat.le_of_ble_eq_true rfl)) rfl rfl ?_
                              refine pm_R_cs pm_M179 (pc_q := 174) (ra := [.int 57, .int 48, .int z2876]) (rest := []) (ls_q := [.int z2876, .int 48, .int 57]) (pm_q179_1 (Nat.le_of_ble_eq_true rfl)) rfl (Or.inl rfl) pm_M174 rfl rfl (Nat.le_of_ble_eq_true rfl) rfl rfl ?_
                              refine pm_R_lo pm_M174 (pc_q := 1) rfl rfl rfl ?_
                              refine pm_R_lo pm_M174 (pc_q := 2) rfl rfl rfl ?_
                              refine pm_R_icmp pm_M174 (t := 14) (pc_q := 5) rfl rfl rfl (fun c2879 => ?_) (fun c2879 => ?_)
                              · have B2880 : sf_B 0 47 z2876 := sf_ltL c2879 B2878 sf_k48
                                refine pm_R_op pm_M174 (pc_q := 15) (st_q := [.int 0]) rfl rfl rfl ?_
                                refine pm_R_ret pm_M174 (r := some (.int 0)) rfl rfl ?_
                                show pm_R _ 179 174 [.ref 41, .int z2081, .int x2_2824] [.int 0] _ _
                                refine pm_R_br pm_M179 (pc_q := 224) (st_q := []) (pm_q179_1 (Nat.le_of_ble_eq_true rfl)) rfl ?_
                                refine pm_R_lo pm_M179 (pc_q := 225) (pm_q179_1 (Nat.le_of_ble_eq_true rfl)) rfl rfl ?_
                                refine pm_R_lo pm_M179 (pc_q := 226) (pm_q179_1 (Nat.le_of_ble_eq_true rfl)) rfl rfl ?_
                                refine pm_R_op pm_M179 (pc_q := 227) (st_q := [.int 2, .int x2_2824, .ref 41]) (pm_q179_1 (Nat.le_of_ble_eq_true rfl)) rfl rfl ?_
                                refine pm_R_icmp pm_M179 (t := 234) (pc_q := 230) (pm_q179_1 (Nat.le_of_ble_eq_true rfl)) rfl rfl (fun c2881 => ?_) (fun c2881 => ?_)
                                · have B2882 : sf_B 2 2 x2_2824 := sf_leL c2881 B2870 sf_k2
                                  refine pm_R_op pm_M179 (pc_q := 235) (st_q := [.int 3, .ref 41]) (pm_q179_2 (Nat.le_of_ble_eq_true rfl)) rfl rfl ?_
                                  refine rf_R_put pm_M179 T_2824 (pc_q := 238) (pm_q179_2 (Nat.le_of_ble_eq_true rfl)) rfl rfl (by decide) rfl rfl (sf_weak sf_k3 (by decide) (by decide)) rfl rfl (fun h2883 m2886 em2887 T2884 F2885 => ?_)
                                  have F2888 := F_2824.trans F2885 (by decide)
                                  have B2889 : sf_B 0 600 (m2886 11) := by rw [em2887]; exact B2828
                                  have ek2890 : (m2886 11).toInt = ((m 11)).toInt := by rw [em2887]; exact ek2829
                                  have B2891 : sf_B 0 599 (m2886 12) := by rw [em2887]; exact B2830
                                  have ek2892 : (m2886 12).toInt = ((m_2034 10)).toInt := by rw [em2887]; exact ek2831
                                  have B2893 : sf_B 0 599 (m2886 10) := by rw [em2887]; exact B2869
                                  have ek2894 : (m2886 10).toInt = ((m_2824 10)).toInt := by rw [em2887]; rfl
                                  have B2895 : sf_B 3 3 (m2886 13) := by rw [em2887]; exact sf_k3
                                  have W2897 : rf_W [10, 12, 13, 14] m m2886 := by rw [em2887]; exact W2832.put (by decide)
                                  refine pm_R_br pm_M179 (pc_q := 266) (pm_q179_2 (Nat.le_of_ble_eq_true rfl)) rfl ?_
                                  exact pm_R_ret pm_M179 (r := none) (pm_q179_2 (Nat.le_of_ble_eq_true rfl)) rfl (K m2886 w_2824 h2883 T2884 F2888 W2897 (sf_aux43 _ _ _ ek2894 X_2824) (Or.inl (sf_aux42 _ _ _ ek2894 X_2824)))
                                · have B2898 : sf_B 3 599 x2_2824 := sf_ltR (Int32.not_le.mp c2881) sf_k2 B2870
                                  refine pm_R_op pm_M179 (pc_q := 231) (st_q := [.int 1, .ref 41]) (pm_q179_1 (Nat.le_of_ble_eq_true rfl)) rfl rfl ?_
                                  refine pm_R_br pm_M179 (pc_q := 235) (pm_q179_1 (Nat.le_of_ble_eq_true rfl)) rfl ?_
                                  refine rf_R_put pm_M179 T_2824 (pc_q := 238) (pm_q179_2 (Nat.le_of_ble_eq_true rfl)) rfl rfl (by decide) rfl rfl (sf_weak sf_k1 (by decide) (by decide)) rfl rfl (fun h2899 m2902 em2903 T2900 F2901 => ?_)
                                  have F2904 := F_2824.trans F2901 (by decide)
                                  have B2905 : sf_B 0 600 (m2902 11) := by rw [em2903]; exact B2828
                                  have ek2906 : (m2902 11).toInt = ((m 11)).toInt := by rw [em2903]; exact ek2829
                                  have B2907 : sf_B 0 599 (m2902 12) := by rw [em2903]; exact B2830
                                  have ek2908 : (m2902 12).toInt = ((m_2034 10)).toInt := by rw [em2903]; exact ek2831
                                  have B2909 : sf_B 0 599 (m2902 10) := by rw [em2903]; exact B2869
                                  have ek2910 : (m2902 10).toInt = ((m_2824 10)).toInt := by rw [em2903]; rfl
                                  have B2911 : sf_B 1 1 (m2902 13) := by rw [em2903]; exact sf_k1
                                  have W2913 : rf_W [10, 12, 13, 14] m m2902 := by rw [em2903]; exact W2832.put (by decide)
                                  refine pm_R_br pm_M179 (pc_q := 266) (pm_q179_2 (Nat.le_of_ble_eq_true rfl)) rfl ?_
                                  exact pm_R_ret pm_M179 (r := none) (pm_q179_2 (Nat.le_of_ble_eq_true rfl)) rfl (K m2902 w_2824 h2899 T2900 F2904 W2913 (sf_aux43 _ _ _ ek2910 X_2824) (Or.inl (sf_aux42 _ _ _ ek2910 X_2824)))
                              · have B2914 : sf_B 48 255 z2876 := sf_leR (Int32.not_lt.mp c2879) sf_k48 B2878
                                refine pm_R_lo pm_M174 (pc_q := 6) rfl rfl rfl ?_
                                refine pm_R_lo pm_M174 (pc_q := 7) rfl rfl rfl ?_
                                refine pm_R_icmp pm_M174 (t := 14) (pc_q := 10) rfl rfl rfl (fun c2915 => ?_) (fun c2915 => ?_)
                                · have B2916 : sf_B 58 255 z2876 := sf_ltR c2915 sf_k57 B2914
                                  refine pm_R_op pm_M174 (pc_q := 15) (st_q := [.int 0]) rfl rfl rfl ?_
                                  refine pm_R_ret pm_M174 (r := some (.int 0)) rfl rfl ?_
                                  show pm_R _ 179 174 [.ref 41, .int z2081, .int x2_2824] [.int 0] _ _
                                  refine pm_R_br pm_M179 (pc_q := 224) (st_q := []) (pm_q179_1 (Nat.le_of_ble_eq_true rfl)) rfl ?_
                                  refine pm_R_lo pm_M179 (pc_q := 225) (pm_q179_1 (Nat.le_of_ble_eq_true rfl)) rfl rfl ?_
                                  refine pm_R_lo pm_M179 (pc_q := 226) (pm_q179_1 (Nat.le_of_ble_eq_true rfl)) rfl rfl ?_
                                  refine pm_R_op pm_M179 (pc_q := 227) (st_q := [.int 2, .int x2_2824, .ref 41]) (pm_q179_1 (Nat.le_of_ble_eq_true rfl)) rfl rfl ?_
                                  refine pm_R_icmp pm_M179 (t := 234) (pc_q := 230) (pm_q179_1 (Nat.le_of_ble_eq_true rfl)) rfl rfl (fun c2917 => ?_) (fun c2917 => ?_)
                                  · have B2918 : sf_B 2 2 x2_2824 := sf_leL c2917 B2870 sf_k2
                                    refine pm_R_op pm_M179 (pc_q := 235) (st_q := [.int 3, .ref 41]) (pm_q179_2 (Nat.le_of_ble_eq_true rfl)) rfl rfl ?_
                                    refine rf_R_put pm_M179 T_2824 (pc_q := 238) (pm_q179_2 (Nat.le_of_ble_eq_true rfl)) rfl rfl (by decide) rfl rfl (sf_weak sf_k3 (by decide) (by decide)) rfl rfl (fun h2919 m2922 em2923 T2920 F2921 => ?_)
                                    have F2924 := F_2824.trans F2921 (by decide)
                                    have B2925 : sf_B 0 600 (m2922 11) := by rw [em2923]; exact B2828
                                    have ek2926 : (m2922 11).toInt = ((m 11)).toInt := by rw [em2923]; exact ek2829
                                    have B2927 : sf_B 0 599 (m2922 12) := by rw [em2923]; exact B2830
                                    have ek2928 : (m2922 12).toInt = ((m_2034 10)).toInt := by rw [em2923]; exact ek2831
                                    have B2929 : sf_B 0 599 (m2922 10) := by rw [em2923]; exact B2869
                                    have ek2930 : (m2922 10).toInt = ((m_2824 10)).toInt := by rw [em2923]; rfl
                                    have B2931 : sf_B 3 3 (m2922 13) := by rw [em2923]; exact sf_k3
                                    have W2933 : rf_W [10, 12, 13, 14] m m2922 := by rw [em2923]; exact W2832.put (by decide)
                                    refine pm_R_br pm_M179 (pc_q := 266) (pm_q179_2 (Nat.le_of_ble_eq_true rfl)) rfl ?_
                                    exact pm_R_ret pm_M179 (r := none) (pm_q179_2 (Nat.le_of_ble_eq_true rfl)) rfl (K m2922 w_2824 h2919 T2920 F2924 W2933 (sf_aux43 _ _ _ ek2930 X_2824) (Or.inl (sf_aux42 _ _ _ ek2930 X_2824)))
                                  · have B2934 : sf_B 3 599 x2_2824 := sf_ltR (Int32.not_le.mp c2917) sf_k2 B2870
                                    refine pm_R_op pm_M179 (pc_q := 231) (st_q := [.int 1, .ref 41]) (pm_q179_1 (Nat.le_of_ble_eq_true rfl)) rfl rfl ?_
                                    refine pm_R_br pm_M179 (pc_q := 235) (pm_q179_1 (Nat.le_of_ble_eq_true rfl)) rfl ?_
                                    refine rf_R_put pm_M179 T_2824 (pc_q := 238) (pm_q179_2 (Nat.le_of_ble_eq_true rfl)) rfl rfl (by decide) rfl rfl (sf_weak sf_k1 (by decide) (by decide)) rfl rfl (fun h2935 m2938 em2939 T2936 F2937 => ?_)
                                    have F2940 := F_2824.trans F2937 (by decide)
                                    have B2941 : sf_B 0 600 (m2938 11) := by rw [em2939]; exact B2828
                                    have ek2942 : (m2938 11).toInt = ((m 11)).toInt := by rw [em2939]; exact ek2829
                                    have B2943 : sf_B 0 599 (m2938 12) := by rw [em2939]; exact B2830
                                    have ek2944 : (m2938 12).toInt = ((m_2034 10)).toInt := by rw [em2939]; exact ek2831
                                    have B2945 : sf_B 0 599 (m2938 10) := by rw [em2939]; exact B2869
                                    have ek2946 : (m2938 10).toInt = ((m_2824 10)).toInt := by rw [em2939]; rfl
                                    have B2947 : sf_B 1 1 (m2938 13) := by rw [em2939]; exact sf_k1
                                    have W2949 : rf_W [10, 12, 13, 14] m m2938 := by rw [em2939]; exact W2832.put (by decide)
                                    refine pm_R_br pm_M179 (pc_q := 266) (pm_q179_2 (Nat.le_of_ble_eq_true rfl)) rfl ?_
                                    exact pm_R_ret pm_M179 (r := none) (pm_q179_2 (Nat.le_of_ble_eq_true rfl)) rfl (K m2938 w_2824 h2935 T2936 F2940 W2949 (sf_aux43 _ _ _ ek2946 X_2824) (Or.inl (sf_aux42 _ _ _ ek2946 X_2824)))
                                · have B2950 : sf_B 48 57 z2876 := sf_leL (Int32.not_lt.mp c2915) B2914 sf_k57
                                  refine pm_R_op pm_M174 (pc_q := 11) (st_q := [.int 1]) rfl rfl rfl ?_
                                  refine pm_R_br pm_M174 (pc_q := 15) rfl rfl ?_
                                  refine pm_R_ret pm_M174 (r := some (.int 1)) rfl rfl ?_
                                  show pm_R _ 179 174 [.ref 41, .int z2081, .int x2_2824] [.int 1] _ _
                                  refine pm_R_br pm_M179 (pc_q := 177) (st_q := []) (pm_q179_1 (Nat.le_of_ble_eq_true rfl)) rfl ?_
                                  refine pm_R_lo pm_M179 (pc_q := 178) (pm_q179_1 (Nat.le_of_ble_eq_true rfl)) rfl rfl ?_
                                  refine pm_R_lo pm_M179 (pc_q := 179) (pm_q179_1 (Nat.le_of_ble_eq_true rfl)) rfl rfl ?_
                                  refine pm_R_op pm_M179 (pc_q := 180) (st_q := [.int 2, .int x2_2824, .ref 41]) (pm_q179_1 (Nat.le_of_ble_eq_true rfl)) rfl rfl ?_
                                  refine pm_R_icmp pm_M179 (t := 201) (pc_q := 183) (pm_q179_1 (Nat.le_of_ble_eq_true rfl)) rfl rfl (fun c2951 => ?_) (fun c2951 => absurd (Int32.not_le.mp c2951) (sf_nlt B2870 sf_k2 (by decide)))
                                  skip
                                  refine pm_R_lo pm_M179 (pc_q := 202) (pm_q179_1 (Nat.le_of_ble_eq_true rfl)) rfl rfl ?_
                                  have B2952 : sf_B 0 99 (m_2824 14) := T_2824.2.2.1 14
                                  refine rf_R_get pm_M179 T_2824 (pc_q := 205) (v := .int (m_2824 14)) (pm_q179_1 (Nat.le_of_ble_eq_true rfl)) rfl rfl rfl ?_
                                  refine rf_R_put pm_M179 T_2824 (pc_q := 208) (pm_q179_1 (Nat.le_of_ble_eq_true rfl)) rfl rfl (by decide) rfl rfl B2952 rfl rfl (fun h2953 m2956 em2957 T2954 F2955 => ?_)
                                  have F2958 := F_2824.trans F2955 (by decide)
                                  have B2959 : sf_B 0 600 (m2956 11) := by rw [em2957]; exact B2828
                                  have ek2960 : (m2956 11).toInt = ((m 11)).toInt := by rw [em2957]; exact ek2829
                                  have B2961 : sf_B 0 599 (m2956 12) := by rw [em2957]; exact B2830
                                  have ek2962 : (m2956 12).toInt = ((m_2034 10)).toInt := by rw [em2957]; exact ek2831
                                  have B2963 : sf_B 0 599 (m2956 10) := by rw [em2957]; exact B2869
                                  have ek2964 : (m2956 10).toInt = ((m_2824 10)).toInt := by rw [em2957]; rfl
                                  have B2965 : sf_B 0 99 (m2956 14) := by rw [em2957]; exact B2952
                                  have ek2966 : (m2956 14).toInt = ((m_2824 14)).toInt := by rw [em2957]; rfl
                                  have W2967 : rf_W [10, 12, 13, 14] m m2956 := by rw [em2957]; exact W2832.put (by decide)
                                  have W2968 : rf_W [10, 14] m2396 m2956 := by rw [em2957]; exact W_2824.put (by decide)
                                  refine pm_R_lo pm_M179 (pc_q := 209) (pm_q179_1 (Nat.le_of_ble_eq_true rfl)) rfl rfl ?_
                                  refine pm_R_op pm_M179 (pc_q := 210) (st_q := [.ref 41, .ref 41]) (pm_q179_1 (Nat.le_of_ble_eq_true rfl)) rfl rfl ?_
                                  refine rf_R_get pm_M179 T2954 (pc_q := 213) (v := .int (m_2824 10)) (pm_q179_1 (Nat.le_of_ble_eq_true rfl)) rfl (congrArg (fun z => some (Value.int z)) (Int32.toInt_inj.mp (sf_aux37 _ _ ek2964))) rfl ?_
                                  refine pm_R_op pm_M179 (pc_q := 214) (st_q := [.int 1, .int (m_2824 10), .ref 41]) (pm_q179_1 (Nat.le_of_ble_eq_true rfl)) rfl rfl ?_
                                  refine sf_R_iadd pm_M179 (pc_q := 215) (pm_q179_1 (Nat.le_of_ble_eq_true rfl)) rfl B2869 sf_k1 (by decide) (by decide) (fun z2969 e2970 B2971 => ?_)
                                  refine rf_R_put pm_M179 T2954 (pc_q := 218) (pm_q179_1 (Nat.le_of_ble_eq_true rfl)) rfl rfl (by decide) rfl rfl (sf_weak B2971 (by decide) (by decide)) rfl rfl (fun h2972 m2975 em2976 T2973 F2974 => ?_)
                                  have F2977 := F2958.trans F2974 (by decide)
                                  have B2978 : sf_B 0 600 (m2975 11) := by rw [em2976]; exact B2959
                                  have ek2979 : (m2975 11).toInt = ((m 11)).toInt := by rw [em2976]; exact ek2960
                                  have B2980 : sf_B 0 599 (m2975 12) := by rw [em2976]; exact B2961
                                  have ek2981 : (m2975 12).toInt = ((m_2034 10)).toInt := by rw [em2976]; exact ek2962
                                  have B2982 : sf_B 1 600 (m2975 10) := by rw [em2976]; exact B2971
                                  have ek2983 : (m2975 10).toInt = (z2969).toInt := by rw [em2976]; rfl
                                  have W2984 : rf_W [10, 12, 13, 14] m m2975 := by rw [em2976]; exact W2967.put (by decide)
                                  have W2985 : rf_W [10, 14] m2396 m2975 := by rw [em2976]; exact W2968.put (by decide)
                                  refine sf_R_iinc pm_M179 (pc_q := 221) (ls_q := fun z => [.ref 41, .int z2081, .int z]) (pm_q179_1 (Nat.le_of_ble_eq_true rfl)) B2870 rfl (by decide) (by decide) (by decide) (fun _ => rfl) rfl (fun z2986 e2987 B2988 => ?_)
                                  show pm_R _ 179 221 [.ref 41, .int z2081, .int z2986] [] _ _
                                  refine pm_R_br pm_M179 (pc_q := 163) (pm_q179_1 (Nat.le_of_ble_eq_true rfl)) rfl ?_
                                  exact ih_2824 _ (sf_up hN_2824 (sf_aux32 _ _ _ e2970 ek2983) B2869 (by decide) (by decide)) h2972 m2975 w_2824 z2986 T2973 F2977 W2985 (sf_weak B2988 (by decide) (by decide)) (sf_aux44 _ _ _ _ _ e2987 e2970 ek2983 B2870.1 B2870.2 B2869.1 B2869.2 R0_2824) (sf_aux45 _ _ _ _ e2970 ek2983 X_2824) rfl
                        exact L_2824 _ h2393 m2396 0 2 T2394 F2398 (rf_W.refl _ _) (sf_weak sf_k2 (by decide) (by decide)) (sf_aux46 _ _ _ _ e2276 e2391 ek2404 B2074.1 B2074.2) (sf_aux47 _ _ _ _ _ e2276 e2391 ek2404 X_2034) rfl
            · have B2989 : sf_B 97 255 z2081 := sf_leR (Int32.not_lt.mp c2133) sf_k97 B2083
              refine pm_R_lo pm_M174 (pc_q := 6) rfl rfl rfl ?_
              refine pm_R_lo pm_M174 (pc_q := 7) rfl rfl rfl ?_
              refine pm_R_icmp pm_M174 (t := 14) (pc_q := 10) rfl rfl rfl (fun c2990 => ?_) (fun c2990 => ?_)
              · have B2991 : sf_B 123 255 z2081 := sf_ltR c2990 sf_k122 B2989
                refine pm_R_op pm_M174 (pc_q := 15) (st_q := [.int 0]) rfl rfl rfl ?_
                refine pm_R_ret pm_M174 (r := some (.int 0)) rfl rfl ?_
                show pm_R _ 179 71 [.ref 41, .int z2081, .int 0] [.int 0] _ _
                refine pm_R_br pm_M179 (pc_q := 147) (st_q := []) rfl rfl ?_
                refine pm_R_lo pm_M179 (pc_q := 148) (pm_q179_1 (Nat.le_of_ble_eq_true rfl)) rfl rfl ?_
                refine pm_R_op pm_M179 (pc_q := 150) (st_q := [.int 48, .int z2081]) (pm_q179_1 (Nat.le_of_ble_eq_true rfl)) rfl rfl ?_
                refine pm_R_op pm_M179 (pc_q := 152) (st_q := [.int 57, .int 48, .int z2081]) (pm_q179_1 (Nat.le_of_ble_eq_true rfl)) rfl rfl ?_
                refine pm_R_cs pm_M179 (pc_q := 155) (ra := [.int 57, .int 48, .int z2081]) (rest := []) (ls_q := [.int z2081, .int 48, .int 57]) (pm_q179_1 (Nat.le_of_ble_eq_true rfl)) rfl (Or.inl rfl) pm_M174 rfl rfl (Nat.le_of_ble_eq_true rfl) rfl rfl ?_
                refine pm_R_lo pm_M174 (pc_q := 1) rfl rfl rfl ?_
                refine pm_R_lo pm_M174 (pc_q := 2) rfl rfl rfl ?_
                refine pm_R_icmp pm_M174 (t := 14) (pc_q := 5) rfl rfl rfl (fun c2992 => absurd c2992 (sf_nlt B2991 sf_k48 (by decide))) (fun c2992 => ?_)
                skip
                refine pm_R_lo pm_M174 (pc_q := 6) rfl rfl rfl ?_
                refine pm_R_lo pm_M174 (pc_q := 7) rfl rfl rfl ?_
                refine pm_R_icmp pm_M174 (t := 14) (pc_q := 10) rfl rfl rfl (fun c2993 => ?_) (fun c2993 => absurd (Int32.not_lt.mp c2993) (sf_nle B2991 sf_k57 (by decide)))
                skip
                refine pm_R_op pm_M174 (pc_q := 15) (st_q := [.int 0]) rfl rfl rfl ?_
                refine pm_R_ret pm_M174 (r := some (.int 0)) rfl rfl ?_
                show pm_R _ 179 155 [.ref 41, .int z2081, .int 0] [.int 0] _ _
                refine pm_R_br pm_M179 (pc_q := 241) (st_q := []) (pm_q179_1 (Nat.le_of_ble_eq_true rfl)) rfl ?_
                refine pm_R_lo pm_M179 (pc_q := 242) (pm_q179_2 (Nat.le_of_ble_eq_true rfl)) rfl rfl ?_
                refine pm_R_op pm_M179 (pc_q := 243) (st_q := [.ref 41, .ref 41]) (pm_q179_2 (Nat.le_of_ble_eq_true rfl)) rfl rfl ?_
                refine rf_R_get pm_M179 T2129 (pc_q := 246) (v := .int (m_2034 10)) (pm_q179_2 (Nat.le_of_ble_eq_true rfl)) rfl (congrArg (fun z => some (Value.int z)) (Int32.toInt_inj.mp (sf_aux37 _ _ ek2117))) rfl ?_
                refine pm_R_op pm_M179 (pc_q := 247) (st_q := [.int 1, .int (m_2034 10), .ref 41]) (pm_q179_2 (Nat.le_of_ble_eq_true rfl)) rfl rfl ?_
                refine sf_R_iadd pm_M179 (pc_q := 248) (pm_q179_2 (Nat.le_of_ble_eq_true rfl)) rfl B2074 sf_k1 (by decide) (by decide) (fun z2994 e2995 B2996 => ?_)
                refine rf_R_put pm_M179 T2129 (pc_q := 251) (pm_q179_2 (Nat.le_of_ble_eq_true rfl)) rfl rfl (by decide) rfl rfl (sf_weak B2996 (by decide) (by decide)) rfl rfl (fun h2997 m3000 em3001 T2998 F2999 => ?_)
                have F3002 := F2131.trans F2999 (by decide)
                have B3003 : sf_B 0 600 (m3000 11) := by rw [em3001]; exact B2114
                have ek3004 : (m3000 11).toInt = ((m 11)).toInt := by rw [em3001]; exact ek2115
                have B3005 : sf_B 0 599 (m3000 12) := by rw [em3001]; exact B2118
                have ek3006 : (m3000 12).toInt = ((m_2034 10)).toInt := by rw [em3001]; exact ek2119
                have B3007 : sf_B 1 600 (m3000 10) := by rw [em3001]; exact B2996
                have ek3008 : (m3000 10).toInt = (z2994).toInt := by rw [em3001]; rfl
                have W3009 : rf_W [10, 12, 13, 14] m m3000 := by rw [em3001]; exact W2120.put (by decide)
                refine pm_R_lo pm_M179 (pc_q := 252) (pm_q179_2 (Nat.le_of_ble_eq_true rfl)) rfl rfl ?_
                refine pm_R_lo pm_M179 (pc_q := 253) (pm_q179_2 (Nat.le_of_ble_eq_true rfl)) rfl rfl ?_
                refine pm_R_op pm_M179 (pc_q := 255) (st_q := [.int 59, .int z2081, .ref 41]) (pm_q179_2 (Nat.le_of_ble_eq_true rfl)) rfl rfl ?_
                refine pm_R_icmp pm_M179 (t := 262) (pc_q := 258) (pm_q179_2 (Nat.le_of_ble_eq_true rfl)) rfl rfl (fun c3010 => ?_) (fun c3010 => absurd (Classical.not_not.mp c3010) (sf_neq1 B2991 sf_k59 (by decide)))
                skip
                refine pm_R_op pm_M179 (pc_q := 263) (st_q := [.int 1, .ref 41]) (pm_q179_2 (Nat.le_of_ble_eq_true rfl)) rfl rfl ?_
                refine rf_R_put pm_M179 T2998 (pc_q := 266) (pm_q179_2 (Nat.le_of_ble_eq_true rfl)) rfl rfl (by decide) rfl rfl (sf_weak sf_k1 (by decide) (by decide)) rfl rfl (fun h3011 m3014 em3015 T3012 F3013 => ?_)
                have F3016 := F3002.trans F3013 (by decide)
                have B3017 : sf_B 0 600 (m3014 11) := by rw [em3015]; exact B3003
                have ek3018 : (m3014 11).toInt = ((m 11)).toInt := by rw [em3015]; exact ek3004
                have B3019 : sf_B 0 599 (m3014 12) := by rw [em3015]; exact B3005
                have ek3020 : (m3014 12).toInt = ((m_2034 10)).toInt := by rw [em3015]; exact ek3006
                have B3021 : sf_B 1 600 (m3014 10) := by rw [em3015]; exact B3007
                have ek3022 : (m3014 10).toInt = (z2994).toInt := by rw [em3015]; exact ek3008
                have B3023 : sf_B 1 1 (m3014 13) := by rw [em3015]; exact sf_k1
                have W3025 : rf_W [10, 12, 13, 14] m m3014 := by rw [em3015]; exact W3009.put (by decide)
                exact pm_R_ret pm_M179 (r := none) (pm_q179_2 (Nat.le_of_ble_eq_true rfl)) rfl (K m3014 0 h3011 T3012 F3016 W3025 (sf_aux40 _ _ _ _ e2995 ek3022 X_2034) (Or.inl (sf_aux41 _ _ _ _ e2995 ek3022 X_2034)))
              · have B3026 : sf_B 97 122 z2081 := sf_leL (Int32.not_lt.mp c2990) B2989 sf_k122
                refine pm_R_op pm_M174 (pc_q := 11) (st_q := [.int 1]) rfl rfl rfl ?_
                refine pm_R_br pm_M174 (pc_q := 15) rfl rfl ?_
                refine pm_R_ret pm_M174 (r := some (.int 1)) rfl rfl ?_
                show pm_R _ 179 71 [.ref 41, .int z2081, .int 0] [.int 1] _ _
                refine pm_R_br pm_M179 (pc_q := 74) (st_q := []) rfl rfl ?_
                refine pm_R_lo pm_M179 (pc_q := 75) rfl rfl rfl ?_
                refine pm_R_cv pm_M179 (pc_q := 78) (a := 41) (ra := []) (rest := []) (ls_q := [.ref 41]) rfl rfl (Or.inl rfl) pm_M180 T2129.2.1 rfl (by decide) (Nat.lt_of_lt_of_le (by decide) T2129.1) rfl rfl (Nat.le_of_ble_eq_true rfl) rfl rfl ?_
                refine pm_R_lo pm_M180 (pc_q := 1) rfl rfl rfl ?_
                refine rf_R_get pm_M180 T2129 (pc_q := 4) (v := .int (m_2034 10)) rfl rfl (congrArg (fun z => some (Value.int z)) (Int32.toInt_inj.mp (sf_aux37 _ _ ek2117))) rfl ?_
                refine pm_R_lo pm_M180 (pc_q := 5) rfl rfl rfl ?_
                refine rf_R_get pm_M180 T2129 (pc_q := 8) (v := .int (m 11)) rfl rfl (congrArg (fun z => some (Value.int z)) (Int32.toInt_inj.mp (sf_aux37 _ _ ek2115))) rfl ?_
                refine pm_R_icmp pm_M180 (t := 27) (pc_q := 11) rfl rfl rfl (fun c3027 => absurd c3027 (Int32.not_le.mpr (Int32.not_le.mp c2041))) (fun c3027 => ?_)
                skip
                refine pm_R_lo pm_M180 (pc_q := 12) rfl rfl rfl ?_
                refine rf_R_get pm_M180 T2129 (pc_q := 15) (v := .ref 42) rfl rfl rfl rfl ?_
                refine pm_R_lo pm_M180 (pc_q := 16) rfl rfl rfl ?_
                refine rf_R_get pm_M180 T2129 (pc_q := 19) (v := .int (m_2034 10)) rfl rfl (congrArg (fun z => some (Value.int z)) (Int32.toInt_inj.mp (sf_aux37 _ _ ek2117))) rfl ?_
                have e3028 := (F2130.cell (by decide) e2122)
                refine pm_R_bald pm_M180 (pc_q := 20) (v := z2079) rfl e3028 (Or.inl rfl) (by decide) (Nat.lt_of_lt_of_le (by decide) T2129.1) (sf_in B2074 (by decide) (by decide)) ez2080 rfl ?_
                refine pm_R_op pm_M180 (pc_q := 23) (st_q := [.int 255, .int z2079]) rfl rfl rfl ?_
                refine pm_R_op pm_M180 (pc_q := 24) (st_q := [.int z2081]) rfl (by show some (Value.int (z2079 &&& 255) :: _) = _; rw [← e2082]) rfl ?_
                refine pm_R_br pm_M180 (pc_q := 28) rfl rfl ?_
                refine pm_R_ret pm_M180 (r := some (.int z2081)) rfl (pm_ret_i _) ?_
                show pm_R _ 179 78 [.ref 41, .int z2081, .int 0] [.int z2081] _ _
                refine pm_R_op pm_M179 (pc_q := 80) (st_q := [.int 97, .int z2081]) rfl rfl rfl ?_
                refine pm_R_op pm_M179 (pc_q := 82) (st_q := [.int 122, .int 97, .int z2081]) rfl rfl rfl ?_
                refine pm_R_cs pm_M179 (pc_q := 85) (ra := [.int 122, .int 97, .int z2081]) (rest := []) (ls_q := [.int z2081, .int 97, .int 122]) rfl rfl (Or.inl rfl) pm_M174 rfl rfl (Nat.le_of_ble_eq_true rfl) rfl rfl ?_
                refine pm_R_lo pm_M174 (pc_q := 1) rfl rfl rfl ?_
                refine pm_R_lo pm_M174 (pc_q := 2) rfl rfl rfl ?_
                refine pm_R_icmp pm_M174 (t := 14) (pc_q := 5) rfl rfl rfl (fun c3034 => absurd c3034 (sf_nlt B3026 sf_k97 (by decide))) (fun c3034 => ?_)
                skip
                refine pm_R_lo pm_M174 (pc_q := 6) rfl rfl rfl ?_
                refine pm_R_lo pm_M174 (pc_q := 7) rfl rfl rfl ?_
                refine pm_R_icmp pm_M174 (t := 14) (pc_q := 10) rfl rfl rfl (fun c3035 => absurd c3035 (sf_nlt sf_k122 B3026 (by decide))) (fun c3035 => ?_)
                skip
                refine pm_R_op pm_M174 (pc_q := 11) (st_q := [.int 1]) rfl rfl rfl ?_
                refine pm_R_br pm_M174 (pc_q := 15) rfl rfl ?_
                refine pm_R_ret pm_M174 (r := some (.int 1)) rfl rfl ?_
                show pm_R _ 179 85 [.ref 41, .int z2081, .int 0] [.int 1] _ _
                refine pm_R_br pm_M179 (pc_q := 88) (st_q := []) rfl rfl ?_
                refine pm_R_lo pm_M179 (pc_q := 89) rfl rfl rfl ?_
                refine pm_R_lo pm_M179 (pc_q := 90) rfl rfl rfl ?_
                refine rf_R_get pm_M179 T2129 (pc_q := 93) (v := .long 0) rfl rfl rfl rfl ?_
                refine pm_R_op pm_M179 (pc_q := 95) (st_q := [.int 8, .long 0, .ref 41]) rfl rfl rfl ?_
                refine sf_R_lany pm_M179 (pc_q := 96) (st := [.ref 41]) rfl rfl rfl (fun z3036 => ?_)
                refine pm_R_lo pm_M179 (pc_q := 97) rfl rfl rfl ?_
                refine pm_R_cv pm_M179 (pc_q := 100) (a := 41) (ra := []) (rest := [.long z3036, .ref 41]) (ls_q := [.ref 41]) rfl rfl (Or.inl rfl) pm_M180 T2129.2.1 rfl (by decide) (Nat.lt_of_lt_of_le (by decide) T2129.1) rfl rfl (Nat.le_of_ble_eq_true rfl) rfl rfl ?_
                refine pm_R_lo pm_M180 (pc_q := 1) rfl rfl rfl ?_
                refine rf_R_get pm_M180 T2129 (pc_q := 4) (v := .int (m_2034 10)) rfl rfl (congrArg (fun z => some (Value.int z)) (Int32.toInt_inj.mp (sf_aux37 _ _ ek2117))) rfl ?_
                refine pm_R_lo pm_M180 (pc_q := 5) rfl rfl rfl ?_
                refine rf_R_get pm_M180 T2129 (pc_q := 8) (v := .int (m 11)) rfl rfl (congrArg (fun z => some (Value.int z)) (Int32.toInt_inj.mp (sf_aux37 _ _ ek2115))) rfl ?_
                refine pm_R_icmp pm_M180 (t := 27) (pc_q := 11) rfl rfl rfl (fun c3037 => absurd c3037 (Int32.not_le.mpr (Int32.not_le.mp c2041))) (fun c3037 => ?_)
                skip
                refine pm_R_lo pm_M180 (pc_q := 12) rfl rfl rfl ?_
                refine rf_R_get pm_M180 T2129 (pc_q := 15) (v := .ref 42) rfl rfl rfl rfl ?_
                refine pm_R_lo pm_M180 (pc_q := 16) rfl rfl rfl ?_
                refine rf_R_get pm_M180 T2129 (pc_q := 19) (v := .int (m_2034 10)) rfl rfl (congrArg (fun z => some (Value.int z)) (Int32.toInt_inj.mp (sf_aux37 _ _ ek2117))) rfl ?_
                refine pm_R_bald pm_M180 (pc_q := 20) (v := z2079) rfl e3028 (Or.inl rfl) (by decide) (Nat.lt_of_lt_of_le (by decide) T2129.1) (sf_in B2074 (by decide) (by decide)) ez2080 rfl ?_
                refine pm_R_op pm_M180 (pc_q := 23) (st_q := [.int 255, .int z2079]) rfl rfl rfl ?_
                refine pm_R_op pm_M180 (pc_q := 24) (st_q := [.int z2081]) rfl (by show some (Value.int (z2079 &&& 255) :: _) = _; rw [← e2082]) rfl ?_
                refine pm_R_br pm_M180 (pc_q := 28) rfl rfl ?_
                refine pm_R_ret pm_M180 (r := some (.int z2081)) rfl (pm_ret_i _) ?_
                show pm_R _ 179 100 [.ref 41, .int z2081, .int 0] [.int z2081, .long z3036, .ref 41] _ _
                refine sf_R_i2l pm_M179 (pc_q := 101) rfl rfl B3026 (fun z3043 e3044 B3045 => ?_)
                refine sf_R_lany pm_M179 (pc_q := 102) (st := [.ref 41]) rfl rfl rfl (fun z3046 => ?_)
                refine rf_R_putL pm_M179 T2129 (pc_q := 105) rfl rfl rfl (by decide) rfl rfl rfl rfl (fun h3047 T3048 F3049 => ?_)
                have F3050 := F2131.trans F3049 (by decide)
                refine pm_R_lo pm_M179 (pc_q := 106) rfl rfl rfl ?_
                refine pm_R_op pm_M179 (pc_q := 107) (st_q := [.ref 41, .ref 41]) rfl rfl rfl ?_
                refine rf_R_get pm_M179 T3048 (pc_q := 110) (v := .int (m_2034 10)) rfl rfl (congrArg (fun z => some (Value.int z)) (Int32.toInt_inj.mp (sf_aux37 _ _ ek2117))) rfl ?_
                refine pm_R_op pm_M179 (pc_q := 111) (st_q := [.int 1, .int (m_2034 10), .ref 41]) rfl rfl rfl ?_
                refine sf_R_iadd pm_M179 (pc_q := 112) rfl rfl B2074 sf_k1 (by decide) (by decide) (fun z3051 e3052 B3053 => ?_)
                refine rf_R_put pm_M179 T3048 (pc_q := 115) rfl rfl rfl (by decide) rfl rfl (sf_weak B3053 (by decide) (by decide)) rfl rfl (fun h3054 m3057 em3058 T3055 F3056 => ?_)
                have F3059 := F3050.trans F3056 (by decide)
                have B3060 : sf_B 0 600 (m3057 11) := by rw [em3058]; exact B2114
                have ek3061 : (m3057 11).toInt = ((m 11)).toInt := by rw [em3058]; exact ek2115
                have B3062 : sf_B 0 599 (m3057 12) := by rw [em3058]; exact B2118
                have ek3063 : (m3057 12).toInt = ((m_2034 10)).toInt := by rw [em3058]; exact ek2119
                have B3064 : sf_B 1 600 (m3057 10) := by rw [em3058]; exact B3053
                have ek3065 : (m3057 10).toInt = (z3051).toInt := by rw [em3058]; rfl
                have W3066 : rf_W [10, 12, 13, 14] m m3057 := by rw [em3058]; exact W2120.put (by decide)
                refine pm_R_lo pm_M179 (pc_q := 118) (ls_q := [.ref 41, .int z2081, .int 1]) (st_q := []) (pm_q179_1 (Nat.le_of_ble_eq_true rfl)) rfl rfl ?_
                refine pm_R_br pm_M179 (pc_q := 74) (pm_q179_1 (Nat.le_of_ble_eq_true rfl)) rfl ?_
                have L_3884 : ∀ (N : Nat) (h_3884 : pm_H) (m_3884 : Nat → Int32) (w_3884 : Int64) (x2_3884 : Int32), rf_T m_3884 w_3884 h_3884 → rf_G [41] h h_3884 → rf_W [10] m3057 m_3884 → sf_B 1 600 x2_3884 → x2_3884.toInt ≤ (m_3884 10).toInt → (m 10).toInt + 1 ≤ (m_3884 10).toInt → (600 - (m_3884 10).toInt).toNat = N → pm_R (d + 1) 179 74 [.ref 41, .int z2081, .int x2_3884] [] h_3884 Q := by
                  intro N
                  induction N using Nat.strongRecOn with
                  | ind N ih_3884 =>
                    intro h_3884 m_3884 w_3884 x2_3884 T_3884 F_3884 W_3884 Bx2_3884 R0_3884 X_3884 hN_3884
                    have B3888 : sf_B 0 600 (m_3884 11) := by rw [W_3884 11 (by decide)]; exact B3060
                    have ek3889 : (m_3884 11).toInt = ((m 11)).toInt := by rw [W_3884 11 (by decide)]; exact ek3061
                    have B3890 : sf_B 0 599 (m_3884 12) := by rw [W_3884 12 (by decide)]; exact B3062
                    have ek3891 : (m_3884 12).toInt = ((m_2034 10)).toInt := by rw [W_3884 12 (by decide)]; exact ek3063
                    have W3892 : rf_W [10, 12, 13, 14] m m_3884 := W3066.trans W_3884 (by decide)
                    have B3893 : sf_B 0 600 (m_3884 10) := T_3884.2.2.1 10
                    refine pm_R_lo pm_M179 (pc_q := 75) rfl rfl rfl ?_
                    refine pm_R_cv pm_M179 (pc_q := 78) (a := 41) (ra := []) (rest := []) (ls_q := [.ref 41]) rfl rfl (Or.inl rfl) pm_M180 T_3884.2.1 rfl (by decide) (Nat.lt_of_lt_of_le (by decide) T_3884.1) rfl rfl (Nat.le_of_ble_eq_true rfl) rfl rfl ?_
                    refine pm_R_lo pm_M180 (pc_q := 1) rfl rfl rfl ?_
                    refine rf_R_get pm_M180 T_3884 (pc_q := 4) (v := .int (m_3884 10)) rfl rfl rfl rfl ?_
                    refine pm_R_lo pm_M180 (pc_q := 5) rfl rfl rfl ?_
                    refine rf_R_get pm_M180 T_3884 (pc_q := 8) (v := .int (m 11)) rfl rfl (congrArg (fun z => some (Value.int z)) (Int32.toInt_inj.mp (sf_aux37 _ _ ek3889))) rfl ?_
                    refine pm_R_icmp pm_M180 (t := 27) (pc_q := 11) rfl rfl rfl (fun c3894 => ?_) (fun c3894 => ?_)
                    · have B3895 : sf_B 1 600 (m_3884 10) := sf_leR c3894 B2075 B3893
                      refine pm_R_op pm_M180 (pc_q := 28) (st_q := [.int (-1)]) rfl rfl rfl ?_
                      refine pm_R_ret pm_M180 (r := some (.int (-1))) rfl rfl ?_
                      show pm_R _ 179 78 [.ref 41, .int z2081, .int x2_3884] [.int (-1)] _ _
                      refine pm_R_op pm_M179 (pc_q := 80) (st_q := [.int 97, .int (-1)]) rfl rfl rfl ?_
                      refine pm_R_op pm_M179 (pc_q := 82) (st_q := [.int 122, .int 97, .int (-1)]) rfl rfl rfl ?_
                      refine pm_R_cs pm_M179 (pc_q := 85) (ra := [.int 122, .int 97, .int (-1)]) (rest := []) (ls_q := [.int (-1), .int 97, .int 122]) rfl rfl (Or.inl rfl) pm_M174 rfl rfl (Nat.le_of_ble_eq_true rfl) rfl rfl ?_
                      refine pm_R_lo pm_M174 (pc_q := 1) rfl rfl rfl ?_
                      refine pm_R_lo pm_M174 (pc_q := 2) rfl rfl rfl ?_
                      refine pm_R_br pm_M174 (pc_q := 14) (st_q := []) rfl rfl ?_
                      refine pm_R_op pm_M174 (pc_q := 15) (st_q := [.int 0]) rfl rfl rfl ?_
                      refine pm_R_ret pm_M174 (r := some (.int 0)) rfl rfl ?_
                      show pm_R _ 179 85 [.ref 41, .int z2081, .int x2_3884] [.int 0] _ _
                      refine pm_R_br pm_M179 (pc_q := 121) (st_q := []) rfl rfl ?_
                      refine pm_R_lo pm_M179 (pc_q := 122) (pm_q179_1 (Nat.le_of_ble_eq_true rfl)) rfl rfl ?_
                      refine pm_R_lo pm_M179 (pc_q := 123) (pm_q179_1 (Nat.le_of_ble_eq_true rfl)) rfl rfl ?_
                      refine pm_R_op pm_M179 (pc_q := 125) (st_q := [.int 8, .int x2_3884, .ref 41]) (pm_q179_1 (Nat.le_of_ble_eq_true rfl)) rfl rfl ?_
                      refine pm_R_icmp pm_M179 (t := 132) (pc_q := 128) (pm_q179_1 (Nat.le_of_ble_eq_true rfl)) rfl rfl (fun c3896 => ?_) (fun c3896 => ?_)
                      · have B3897 : sf_B 1 8 x2_3884 := sf_leL c3896 Bx2_3884 sf_k8
                        refine pm_R_lo pm_M179 (pc_q := 133) (pm_q179_1 (Nat.le_of_ble_eq_true rfl)) rfl rfl ?_
                        refine rf_R_get pm_M179 T_3884 (pc_q := 136) (v := .long w_3884) (pm_q179_1 (Nat.le_of_ble_eq_true rfl)) rfl rfl rfl ?_
                        refine rf_R_putL pm_M179 T_3884 (pc_q := 139) (pm_q179_1 (Nat.le_of_ble_eq_true rfl)) rfl rfl (by decide) rfl rfl rfl rfl (fun h3898 T3899 F3900 => ?_)
                        have F3901 := F_3884.trans F3900 (by decide)
                        refine pm_R_lo pm_M179 (pc_q := 140) (pm_q179_1 (Nat.le_of_ble_eq_true rfl)) rfl rfl ?_
                        refine pm_R_op pm_M179 (pc_q := 141) (st_q := [.int 2, .ref 41]) (pm_q179_1 (Nat.le_of_ble_eq_true rfl)) rfl rfl ?_
                        refine rf_R_put pm_M179 T3899 (pc_q := 144) (pm_q179_1 (Nat.le_of_ble_eq_true rfl)) rfl rfl (by decide) rfl rfl (sf_weak sf_k2 (by decide) (by decide)) rfl rfl (fun h3902 m3905 em3906 T3903 F3904 => ?_)
                        have F3907 := F3901.trans F3904 (by decide)
                        have B3908 : sf_B 0 600 (m3905 11) := by rw [em3906]; exact B3888
                        have ek3909 : (m3905 11).toInt = ((m 11)).toInt := by rw [em3906]; exact ek3889
                        have B3910 : sf_B 0 599 (m3905 12) := by rw [em3906]; exact B3890
                        have ek3911 : (m3905 12).toInt = ((m_2034 10)).toInt := by rw [em3906]; exact ek3891
                        have B3912 : sf_B 1 600 (m3905 10) := by rw [em3906]; exact B3895
                        have ek3913 : (m3905 10).toInt = ((m_3884 10)).toInt := by rw [em3906]; rfl
                        have B3914 : sf_B 2 2 (m3905 13) := by rw [em3906]; exact sf_k2
                        have W3916 : rf_W [10, 12, 13, 14] m m3905 := by rw [em3906]; exact W3892.put (by decide)
                        refine pm_R_br pm_M179 (pc_q := 266) (pm_q179_1 (Nat.le_of_ble_eq_true rfl)) rfl ?_
                        exact pm_R_ret pm_M179 (r := none) (pm_q179_2 (Nat.le_of_ble_eq_true rfl)) rfl (K m3905 w_3884 h3902 T3903 F3907 W3916 (sf_aux43 _ _ _ ek3913 X_3884) (Or.inl (sf_aux42 _ _ _ ek3913 X_3884)))
                      · have B3917 : sf_B 9 600 x2_3884 := sf_ltR (Int32.not_le.mp c3896) sf_k8 Bx2_3884
                        refine pm_R_op pm_M179 (pc_q := 129) (st_q := [.long 0, .ref 41]) (pm_q179_1 (Nat.le_of_ble_eq_true rfl)) rfl rfl ?_
                        refine pm_R_br pm_M179 (pc_q := 136) (pm_q179_1 (Nat.le_of_ble_eq_true rfl)) rfl ?_
                        refine rf_R_putL pm_M179 T_3884 (pc_q := 139) (pm_q179_1 (Nat.le_of_ble_eq_true rfl)) rfl rfl (by decide) rfl rfl rfl rfl (fun h3918 T3919 F3920 => ?_)
                        have F3921 := F_3884.trans F3920 (by decide)
                        refine pm_R_lo pm_M179 (pc_q := 140) (pm_q179_1 (Nat.le_of_ble_eq_true rfl)) rfl rfl ?_
                        refine pm_R_op pm_M179 (pc_q := 141) (st_q := [.int 2, .ref 41]) (pm_q179_1 (Nat.le_of_ble_eq_true rfl)) rfl rfl ?_
                        refine rf_R_put pm_M179 T3919 (pc_q := 144) (pm_q179_1 (Nat.le_of_ble_eq_true rfl)) rfl rfl (by decide) rfl rfl (sf_weak sf_k2 (by decide) (by decide)) rfl rfl (fun h3922 m3925 em3926 T3923 F3924 => ?_)
                        have F3927 := F3921.trans F3924 (by decide)
                        have B3928 : sf_B 0 600 (m3925 11) := by rw [em3926]; exact B3888
                        have ek3929 : (m3925 11).toInt = ((m 11)).toInt := by rw [em3926]; exact ek3889
                        have B3930 : sf_B 0 599 (m3925 12) := by rw [em3926]; exact B3890
                        have ek3931 : (m3925 12).toInt = ((m_2034 10)).toInt := by rw [em3926]; exact ek3891
                        have B3932 : sf_B 1 600 (m3925 10) := by rw [em3926]; exact B3895
                        have ek3933 : (m3925 10).toInt = ((m_3884 10)).toInt := by rw [em3926]; rfl
                        have B3934 : sf_B 2 2 (m3925 13) := by rw [em3926]; exact sf_k2
                        have W3936 : rf_W [10, 12, 13, 14] m m3925 := by rw [em3926]; exact W3892.put (by decide)
                        refine pm_R_br pm_M179 (pc_q := 266) (pm_q179_1 (Nat.le_of_ble_eq_true rfl)) rfl ?_
                        exact pm_R_ret pm_M179 (r := none) (pm_q179_2 (Nat.le_of_ble_eq_true rfl)) rfl (K m3925 0 h3922 T3923 F3927 W3936 (sf_aux43 _ _ _ ek3933 X_3884) (Or.inl (sf_aux42 _ _ _ ek3933 X_3884)))
                    · have B3937 : sf_B 0 599 (m_3884 10) := sf_ltL (Int32.not_le.mp c3894) B3893 B2075
                      have B3938 : sf_B 1 599 x2_3884 := sf_leT R0_3884 Bx2_3884 B3937
                      refine pm_R_lo pm_M180 (pc_q := 12) rfl rfl rfl ?_
                      refine rf_R_get pm_M180 T_3884 (pc_q := 15) (v := .ref 42) rfl rfl rfl rfl ?_
                      refine pm_R_lo pm_M180 (pc_q := 16) rfl rfl rfl ?_
                      refine rf_R_get pm_M180 T_3884 (pc_q := 19) (v := .int (m_3884 10)) rfl rfl rfl rfl ?_
                      obtain ⟨f3939, e3940⟩ := T_3884.2.2.2.1 42 (by decide) (by decide)
                      refine rf_R_bld pm_M180 T_3884 (pc_q := 20) rfl e3940 (Or.inl rfl) (by decide) (by decide) (sf_in B3937 (by decide) (by decide)) rfl (fun z3942 ez3943 => ?_)
                      refine pm_R_op pm_M180 (pc_q := 23) (st_q := [.int 255, .int z3942]) rfl rfl rfl ?_
                      refine sf_R_iandE pm_M180 (pc_q := 24) rfl rfl sf_k255 (by decide) (fun z3944 e3945 B3946 => ?_)
                      refine pm_R_br pm_M180 (pc_q := 28) rfl rfl ?_
                      refine pm_R_ret pm_M180 (r := some (.int z3944)) rfl (pm_ret_i _) ?_
                      show pm_R _ 179 78 [.ref 41, .int z2081, .int x2_3884] [.int z3944] _ _
                      refine pm_R_op pm_M179 (pc_q := 80) (st_q := [.int 97, .int z3944]) rfl rfl rfl ?_
                      refine pm_R_op pm_M179 (pc_q := 82) (st_q := [.int 122, .int 97, .int z3944]) rfl rfl rfl ?_
                      refine pm_R_cs pm_M179 (pc_q := 85) (ra := [.int 122, .int 97, .int z3944]) (rest := []) (ls_q := [.int z3944, .int 97, .int 122]) rfl rfl (Or.inl rfl) pm_M174 rfl rfl (Nat.le_of_ble_eq_true rfl) rfl rfl ?_
                      refine pm_R_lo pm_M174 (pc_q := 1) rfl rfl rfl ?_
                      refine pm_R_lo pm_M174 (pc_q := 2) rfl rfl rfl ?_
                      refine pm_R_icmp pm_M174 (t := 14) (pc_q := 5) rfl rfl rfl (fun c3947 => ?_) (fun c3947 => ?_)
                      · have B3948 : sf_B 0 96 z3944 := sf_ltL c3947 B3946 sf_k97
                        refine pm_R_op pm_M174 (pc_q := 15) (st_q := [.int 0]) rfl rfl rfl ?_
                        refine pm_R_ret pm_M174 (r := some (.int 0)) rfl rfl ?_
                        show pm_R _ 179 85 [.ref 41, .int z2081, .int x2_3884] [.int 0] _ _
                        refine pm_R_br pm_M179 (pc_q := 121) (st_q := []) rfl rfl ?_
                        refine pm_R_lo pm_M179 (pc_q := 122) (pm_q179_1 (Nat.le_of_ble_eq_true rfl)) rfl rfl ?_
                        refine pm_R_lo pm_M179 (pc_q := 123) (pm_q179_1 (Nat.le_of_ble_eq_true rfl)) rfl rfl ?_
                        refine pm_R_op pm_M179 (pc_q := 125) (st_q := [.int 8, .int x2_3884, .ref 41]) (pm_q179_1 (Nat.le_of_ble_eq_true rfl)) rfl rfl ?_
                        refine pm_R_icmp pm_M179 (t := 132) (pc_q := 128) (pm_q179_1 (Nat.le_of_ble_eq_true rfl)) rfl rfl (fun c3949 => ?_) (fun c3949 => ?_)
                        · have B3950 : sf_B 1 8 x2_3884 := sf_leL c3949 B3938 sf_k8
                          refine pm_R_lo pm_M179 (pc_q := 133) (pm_q179_1 (Nat.le_of_ble_eq_true rfl)) rfl rfl ?_
                          refine rf_R_get pm_M179 T_3884 (pc_q := 136) (v := .long w_3884) (pm_q179_1 (Nat.le_of_ble_eq_true rfl)) rfl rfl rfl ?_
                          refine rf_R_putL pm_M179 T_3884 (pc_q := 139) (pm_q179_1 (Nat.le_of_ble_eq_true rfl)) rfl rfl (by decide) rfl rfl rfl rfl (fun h3951 T3952 F3953 => ?_)
                          have F3954 := F_3884.trans F3953 (by decide)
                          refine pm_R_lo pm_M179 (pc_q := 140) (pm_q179_1 (Nat.le_of_ble_eq_true rfl)) rfl rfl ?_
                          refine pm_R_op pm_M179 (pc_q := 141) (st_q := [.int 2, .ref 41]) (pm_q179_1 (Nat.le_of_ble_eq_true rfl)) rfl rfl ?_
                          refine rf_R_put pm_M179 T3952 (pc_q := 144) (pm_q179_1 (Nat.le_of_ble_eq_true rfl)) rfl rfl (by decide) rfl rfl (sf_weak sf_k2 (by decide) (by decide)) rfl rfl (fun h3955 m3958 em3959 T3956 F3957 => ?_)
                          have F3960 := F3954.trans F3957 (by decide)
                          have B3961 : sf_B 0 600 (m3958 11) := by rw [em3959]; exact B3888
                          have ek3962 : (m3958 11).toInt = ((m 11)).toInt := by rw [em3959]; exact ek3889
                          have B3963 : sf_B 0 599 (m3958 12) := by rw [em3959]; exact B3890
                          have ek3964 : (m3958 12).toInt = ((m_2034 10)).toInt := by rw [em3959]; exact ek3891
                          have B3965 : sf_B 0 599 (m3958 10) := by rw [em3959]; exact B3937
                          have ek3966 : (m3958 10).toInt = ((m_3884 10)).toInt := by rw [em3959]; rfl
                          have B3967 : sf_B 2 2 (m3958 13) := by rw [em3959]; exact sf_k2
                          have W3969 : rf_W [10, 12, 13, 14] m m3958 := by rw [em3959]; exact W3892.put (by decide)
                          refine pm_R_br pm_M179 (pc_q := 266) (pm_q179_1 (Nat.le_of_ble_eq_true rfl)) rfl ?_
                          exact pm_R_ret pm_M179 (r := none) (pm_q179_2 (Nat.le_of_ble_eq_true rfl)) rfl (K m3958 w_3884 h3955 T3956 F3960 W3969 (sf_aux43 _ _ _ ek3966 X_3884) (Or.inl (sf_aux42 _ _ _ ek3966 X_3884)))
                        · have B3970 : sf_B 9 599 x2_3884 := sf_ltR (Int32.not_le.mp c3949) sf_k8 B3938
                          refine pm_R_op pm_M179 (pc_q := 129) (st_q := [.long 0, .ref 41]) (pm_q179_1 (Nat.le_of_ble_eq_true rfl)) rfl rfl ?_
                          refine pm_R_br pm_M179 (pc_q := 136) (pm_q179_1 (Nat.le_of_ble_eq_true rfl)) rfl ?_
                          refine rf_R_putL pm_M179 T_3884 (pc_q := 139) (pm_q179_1 (Nat.le_of_ble_eq_true rfl)) rfl rfl (by decide) rfl rfl rfl rfl (fun h3971 T3972 F3973 => ?_)
                          have F3974 := F_3884.trans F3973 (by decide)
                          refine pm_R_lo pm_M179 (pc_q := 140) (pm_q179_1 (Nat.le_of_ble_eq_true rfl)) rfl rfl ?_
                          refine pm_R_op pm_M179 (pc_q := 141) (st_q := [.int 2, .ref 41]) (pm_q179_1 (Nat.le_of_ble_eq_true rfl)) rfl rfl ?_
                          refine rf_R_put pm_M179 T3972 (pc_q := 144) (pm_q179_1 (Nat.le_of_ble_eq_true rfl)) rfl rfl (by decide) rfl rfl (sf_weak sf_k2 (by decide) (by decide)) rfl rfl (fun h3975 m3978 em3979 T3976 F3977 => ?_)
                          have F3980 := F3974.trans F3977 (by decide)
                          have B3981 : sf_B 0 600 (m3978 11) := by rw [em3979]; exact B3888
                          have ek3982 : (m3978 11).toInt = ((m 11)).toInt := by rw [em3979]; exact ek3889
                          have B3983 : sf_B 0 599 (m3978 12) := by rw [em3979]; exact B3890
                          have ek3984 : (m3978 12).toInt = ((m_2034 10)).toInt := by rw [em3979]; exact ek3891
                          have B3985 : sf_B 0 599 (m3978 10) := by rw [em3979]; exact B3937
                          have ek3986 : (m3978 10).toInt = ((m_3884 10)).toInt := by rw [em3979]; rfl
                          have B3987 : sf_B 2 2 (m3978 13) := by rw [em3979]; exact sf_k2
                          have W3989 : rf_W [10, 12, 13, 14] m m3978 := by rw [em3979]; exact W3892.put (by decide)
                          refine pm_R_br pm_M179 (pc_q := 266) (pm_q179_1 (Nat.le_of_ble_eq_true rfl)) rfl ?_
                          exact pm_R_ret pm_M179 (r := none) (pm_q179_2 (Nat.le_of_ble_eq_true rfl)) rfl (K m3978 0 h3975 T3976 F3980 W3989 (sf_aux43 _ _ _ ek3986 X_3884) (Or.inl (sf_aux42 _ _ _ ek3986 X_3884)))
                      · have B3990 : sf_B 97 255 z3944 := sf_leR (Int32.not_lt.mp c3947) sf_k97 B3946
                        refine pm_R_lo pm_M174 (pc_q := 6) rfl rfl rfl ?_
                        refine pm_R_lo pm_M174 (pc_q := 7) rfl rfl rfl ?_
                        refine pm_R_icmp pm_M174 (t := 14) (pc_q := 10) rfl rfl rfl (fun c3991 => ?_) (fun c3991 => ?_)
                        · have B3992 : sf_B 123 255 z3944 := sf_ltR c3991 sf_k122 B3990
                          refine pm_R_op pm_M174 (pc_q := 15) (st_q := [.int 0]) rfl rfl rfl ?_
                          refine pm_R_ret pm_M174 (r := some (.int 0)) rfl rfl ?_
                          show pm_R _ 179 85 [.ref 41, .int z2081, .int x2_3884] [.int 0] _ _
                          refine pm_R_br pm_M179 (pc_q := 121) (st_q := []) rfl rfl ?_
                          refine pm_R_lo pm_M179 (pc_q := 122) (pm_q179_1 (Nat.le_of_ble_eq_true rfl)) rfl rfl ?_
                          refine pm_R_lo pm_M179 (pc_q := 123) (pm_q179_1 (Nat.le_of_ble_eq_true rfl)) rfl rfl ?_
                          refine pm_R_op pm_M179 (pc_q := 125) (st_q := [.int 8, .int x2_3884, .ref 41]) (pm_q179_1 (Nat.le_of_ble_eq_true rfl)) rfl rfl ?_
                          refine pm_R_icmp pm_M179 (t := 132) (pc_q := 128) (pm_q179_1 (Nat.le_of_ble_eq_true rfl)) rfl rfl (fun c3993 => ?_) (fun c3993 => ?_)
                          · have B3994 : sf_B 1 8 x2_3884 := sf_leL c3993 B3938 sf_k8
                            refine pm_R_lo pm_M179 (pc_q := 133) (pm_q179_1 (Nat.le_of_ble_eq_true rfl)) rfl rfl ?_
                            refine rf_R_get pm_M179 T_3884 (pc_q := 136) (v := .long w_3884) (pm_q179_1 (Nat.le_of_ble_eq_true rfl)) rfl rfl rfl ?_
                            refine rf_R_putL pm_M179 T_3884 (pc_q := 139) (pm_q179_1 (Nat.le_of_ble_eq_true rfl)) rfl rfl (by decide) rfl rfl rfl rfl (fun h3995 T3996 F3997 => ?_)
                            have F3998 := F_3884.trans F3997 (by decide)
                            refine pm_R_lo pm_M179 (pc_q := 140) (pm_q179_1 (Nat.le_of_ble_eq_true rfl)) rfl rfl ?_
                            refine pm_R_op pm_M179 (pc_q := 141) (st_q := [.int 2, .ref 41]) (pm_q179_1 (Nat.le_of_ble_eq_true rfl)) rfl rfl ?_
                            refine rf_R_put pm_M179 T3996 (pc_q := 144) (pm_q179_1 (Nat.le_of_ble_eq_true rfl)) rfl rfl (by decide) rfl rfl (sf_weak sf_k2 (by decide) (by decide)) rfl rfl (fun h3999 m4002 em4003 T4000 F4001 => ?_)
                            have F4004 := F3998.trans F4001 (by decide)
                            have B4005 : sf_B 0 600 (m4002 11) := by rw [em4003]; exact B3888
                            have ek4006 : (m4002 11).toInt = ((m 11)).toInt := by rw [em4003]; exact ek3889
                            have B4007 : sf_B 0 599 (m4002 12) := by rw [em4003]; exact B3890
                            have ek4008 : (m4002 12).toInt = ((m_2034 10)).toInt := by rw [em4003]; exact ek3891
                            have B4009 : sf_B 0 599 (m4002 10) := by rw [em4003]; exact B3937
                            have ek4010 : (m4002 10).toInt = ((m_3884 10)).toInt := by rw [em4003]; rfl
                            have B4011 : sf_B 2 2 (m4002 13) := by rw [em4003]; exact sf_k2
                            have W4013 : rf_W [10, 12, 13, 14] m m4002 := by rw [em4003]; exact W3892.put (by decide)
                            refine pm_R_br pm_M179 (pc_q := 266) (pm_q179_1 (Nat.le_of_ble_eq_true rfl)) rfl ?_
                            exact pm_R_ret pm_M179 (r := none) (pm_q179_2 (Nat.le_of_ble_eq_true rfl)) rfl (K m4002 w_3884 h3999 T4000 F4004 W4013 (sf_aux43 _ _ _ ek4010 X_3884) (Or.inl (sf_aux42 _ _ _ ek4010 X_3884)))
                          · have B4014 : sf_B 9 599 x2_3884 := sf_ltR (Int32.not_le.mp c3993) sf_k8 B3938
                            refine pm_R_op pm_M179 (pc_q := 129) (st_q := [.long 0, .ref 41]) (pm_q179_1 (Nat.le_of_ble_eq_true rfl)) rfl rfl ?_
                            refine pm_R_br pm_M179 (pc_q := 136) (pm_q179_1 (Nat.le_of_ble_eq_true rfl)) rfl ?_
                            refine rf_R_putL pm_M179 T_3884 (pc_q := 139) (pm_q179_1 (Nat.le_of_ble_eq_true rfl)) rfl rfl (by decide) rfl rfl rfl rfl (fun h4015 T4016 F4017 => ?_)
                            have F4018 := F_3884.trans F4017 (by decide)
                            refine pm_R_lo pm_M179 (pc_q := 140) (pm_q179_1 (Nat.le_of_ble_eq_true rfl)) rfl rfl ?_
                            refine pm_R_op pm_M179 (pc_q := 141) (st_q := [.int 2, .ref 41]) (pm_q179_1 (Nat.le_of_ble_eq_true rfl)) rfl rfl ?_
                            refine rf_R_put pm_M179 T4016 (pc_q := 144) (pm_q179_1 (Nat.le_of_ble_eq_true rfl)) rfl rfl (by decide) rfl rfl (sf_weak sf_k2 (by decide) (by decide)) rfl rfl (fun h4019 m4022 em4023 T4020 F4021 => ?_)
                            have F4024 := F4018.trans F4021 (by decide)
                            have B4025 : sf_B 0 600 (m4022 11) := by rw [em4023]; exact B3888
                            have ek4026 : (m4022 11).toInt = ((m 11)).toInt := by rw [em4023]; exact ek3889
                            have B4027 : sf_B 0 599 (m4022 12) := by rw [em4023]; exact B3890
                            have ek4028 : (m4022 12).toInt = ((m_2034 10)).toInt := by rw [em4023]; exact ek3891
                            have B4029 : sf_B 0 599 (m4022 10) := by rw [em4023]; exact B3937
                            have ek4030 : (m4022 10).toInt = ((m_3884 10)).toInt := by rw [em4023]; rfl
                            have B4031 : sf_B 2 2 (m4022 13) := by rw [em4023]; exact sf_k2
                            have W4033 : rf_W [10, 12, 13, 14] m m4022 := by rw [em4023]; exact W3892.put (by decide)
                            refine pm_R_br pm_M179 (pc_q := 266) (pm_q179_1 (Nat.le_of_ble_eq_true rfl)) rfl ?_
                            exact pm_R_ret pm_M179 (r := none) (pm_q179_2 (Nat.le_of_ble_eq_true rfl)) rfl (K m4022 0 h4019 T4020 F4024 W4033 (sf_aux43 _ _ _ ek4030 X_3884) (Or.inl (sf_aux42 _ _ _ ek4030 X_3884)))
                        · have B4034 : sf_B 97 122 z3944 := sf_leL (Int32.not_lt.mp c3991) B3990 sf_k122
                          refine pm_R_op pm_M174 (pc_q := 11) (st_q := [.int 1]) rfl rfl rfl ?_
                          refine pm_R_br pm_M174 (pc_q := 15) rfl rfl ?_
                          refine pm_R_ret pm_M174 (r := some (.int 1)) rfl rfl ?_
                          show pm_R _ 179 85 [.ref 41, .int z2081, .int x2_3884] [.int 1] _ _
                          refine pm_R_br pm_M179 (pc_q := 88) (st_q := []) rfl rfl ?_
                          refine pm_R_lo pm_M179 (pc_q := 89) rfl rfl rfl ?_
                          refine pm_R_lo pm_M179 (pc_q := 90) rfl rfl rfl ?_
                          refine rf_R_get pm_M179 T_3884 (pc_q := 93) (v := .long w_3884) rfl rfl rfl rfl ?_
                          refine pm_R_op pm_M179 (pc_q := 95) (st_q := [.int 8, .long w_3884, .ref 41]) rfl rfl rfl ?_
                          refine sf_R_lany pm_M179 (pc_q := 96) (st := [.ref 41]) rfl rfl rfl (fun z4035 => ?_)
                          refine pm_R_lo pm_M179 (pc_q := 97) rfl rfl rfl ?_
                          refine pm_R_cv pm_M179 (pc_q := 100) (a := 41) (ra := []) (rest := [.long z4035, .ref 41]) (ls_q := [.ref 41]) rfl rfl (Or.inl rfl) pm_M180 T_3884.2.1 rfl (by decide) (Nat.lt_of_lt_of_le (by decide) T_3884.1) rfl rfl (Nat.le_of_ble_eq_true rfl) rfl rfl ?_
                          refine pm_R_lo pm_M180 (pc_q := 1) rfl rfl rfl ?_
                          refine rf_R_get pm_M180 T_3884 (pc_q := 4) (v := .int (m_3884 10)) rfl rfl rfl rfl ?_
                          refine pm_R_lo pm_M180 (pc_q := 5) rfl rfl rfl ?_
                          refine rf_R_get pm_M180 T_3884 (pc_q := 8) (v := .int (m 11)) rfl rfl (congrArg (fun z => some (Value.int z)) (Int32.toInt_inj.mp (sf_aux37 _ _ ek3889))) rfl ?_
                          refine pm_R_icmp pm_M180 (t := 27) (pc_q := 11) rfl rfl rfl (fun c4036 => absurd c4036 (Int32.not_le.mpr (Int32.not_le.mp c3894))) (fun c4036 => ?_)
                          skip
                          refine pm_R_lo pm_M180 (pc_q := 12) rfl rfl rfl ?_
                          refine rf_R_get pm_M180 T_3884 (pc_q := 15) (v := .ref 42) rfl rfl rfl rfl ?_
                          refine pm_R_lo pm_M180 (pc_q := 16) rfl rfl rfl ?_
                          refine rf_R_get pm_M180 T_3884 (pc_q := 19) (v := .int (m_3884 10)) rfl rfl rfl rfl ?_
                          refine pm_R_bald pm_M180 (pc_q := 20) (v := z3942) rfl e3940 (Or.inl rfl) (by decide) (Nat.lt_of_lt_of_le (by decide) T_3884.1) (sf_in B3937 (by decide) (by decide)) ez3943 rfl ?_
                          refine pm_R_op pm_M180 (pc_q := 23) (st_q := [.int 255, .int z3942]) rfl rfl rfl ?_
                          refine pm_R_op pm_M180 (pc_q := 24) (st_q := [.int z3944]) rfl (by show some (Value.int (z3942 &&& 255) :: _) = _; rw [← e3945]) rfl ?_
                          refine pm_R_br pm_M180 (pc_q := 28) rfl rfl ?_
                          refine pm_R_ret pm_M180 (r := some (.int z3944)) rfl (pm_ret_i _) ?_
                          show pm_R _ 179 100 [.ref 41, .int z2081, .int x2_3884] [.int z3944, .long z4035, .ref 41] _ _
                          refine sf_R_i2l pm_M179 (pc_q := 101) rfl rfl B4034 (fun z4042 e4043 B4044 => ?_)
                          refine sf_R_lany pm_M179 (pc_q := 102) (st := [.ref 41]) rfl rfl rfl (fun z4045 => ?_)
                          refine rf_R_putL pm_M179 T_3884 (pc_q := 105) rfl rfl rfl (by decide) rfl rfl rfl rfl (fun h4046 T4047 F4048 => ?_)
                          have F4049 := F_3884.trans F4048 (by decide)
                          refine pm_R_lo pm_M179 (pc_q := 106) rfl rfl rfl ?_
                          refine pm_R_op pm_M179 (pc_q := 107) (st_q := [.ref 41, .ref 41]) rfl rfl rfl ?_
                          refine rf_R_get pm_M179 T4047 (pc_q := 110) (v := .int (m_3884 10)) rfl rfl rfl rfl ?_
                          refine pm_R_op pm_M179 (pc_q := 111) (st_q := [.int 1, .int (m_3884 10), .ref 41]) rfl rfl rfl ?_
                          refine sf_R_iadd pm_M179 (pc_q := 112) rfl rfl B3937 sf_k1 (by decide) (by decide) (fun z4050 e4051 B4052 => ?_)
                          refine rf_R_put pm_M179 T4047 (pc_q := 115) rfl rfl rfl (by decide) rfl rfl (sf_weak B4052 (by decide) (by decide)) rfl rfl (fun h4053 m4056 em4057 T4054 F4055 => ?_)
                          have F4058 := F4049.trans F4055 (by decide)
                          have B4059 : sf_B 0 600 (m4056 11) := by rw [em4057]; exact B3888
                          have ek4060 : (m4056 11).toInt = ((m 11)).toInt := by rw [em4057]; exact ek3889
                          have B4061 : sf_B 0 599 (m4056 12) := by rw [em4057]; exact B3890
                          have ek4062 : (m4056 12).toInt = ((m_2034 10)).toInt := by rw [em4057]; exact ek3891
                          have B4063 : sf_B 1 600 (m4056 10) := by rw [em4057]; exact B4052
                          have ek4064 : (m4056 10).toInt = (z4050).toInt := by rw [em4057]; rfl
                          have W4065 : rf_W [10, 12, 13, 14] m m4056 := by rw [em4057]; exact W3892.put (by decide)
                          have W4066 : rf_W [10] m3057 m4056 := by rw [em4057]; exact W_3884.put (by decide)
                          refine sf_R_iinc pm_M179 (pc_q := 118) (ls_q := fun z => [.ref 41, .int z2081, .int z]) (pm_q179_1 (Nat.le_of_ble_eq_true rfl)) B3938 rfl (by decide) (by decide) (by decide) (fun _ => rfl) rfl (fun z4067 e4068 B4069 => ?_)
                          show pm_R _ 179 118 [.ref 41, .int z2081, .int z4067] [] _ _
                          refine pm_R_br pm_M179 (pc_q := 74) (pm_q179_1 (Nat.le_of_ble_eq_true rfl)) rfl ?_
                          exact ih_3884 _ (sf_up hN_3884 (sf_aux32 _ _ _ e4051 ek4064) B3937 (by decide) (by decide)) h4053 m4056 z4045 z4067 T4054 F4058 W4066 (sf_weak B4069 (by decide) (by decide)) (sf_aux48 _ _ _ _ _ e4068 e4051 ek4064 B3938.1 B3938.2 B3937.1 B3937.2 R0_3884) (sf_aux45 _ _ _ _ e4051 ek4064 X_3884) rfl
                exact L_3884 _ h3054 m3057 z3046 1 T3055 F3059 (rf_W.refl _ _) (sf_weak sf_k1 (by decide) (by decide)) (sf_aux49 _ _ _ e3052 ek3065 B2074.1 B2074.2) (sf_aux41 _ _ _ _ e3052 ek3065 X_2034) rfl
          · have B4070 : sf_B 32 32 z2081 := sf_eqL (Classical.not_not.mp c2107) sf_k32
            refine pm_R_lo pm_M179 (pc_q := 19) rfl rfl rfl ?_
            refine pm_R_op pm_M179 (pc_q := 20) (st_q := [.ref 41, .ref 41]) rfl rfl rfl ?_
            refine rf_R_get pm_M179 T_2034 (pc_q := 23) (v := .int (m_2034 10)) rfl rfl rfl rfl ?_
            refine pm_R_op pm_M179 (pc_q := 24) (st_q := [.int 1, .int (m_2034 10), .ref 41]) rfl rfl rfl ?_
            refine sf_R_iadd pm_M179 (pc_q := 25) rfl rfl B2074 sf_k1 (by decide) (by decide) (fun z4071 e4072 B4073 => ?_)
            refine rf_R_put pm_M179 T_2034 (pc_q := 28) rfl rfl rfl (by decide) rfl rfl (sf_weak B4073 (by decide) (by decide)) rfl rfl (fun h4074 m4077 em4078 T4075 F4076 => ?_)
            have F4079 := F_2034.trans F4076 (by decide)
            have B4080 : sf_B 0 600 (m4077 11) := by rw [em4078]; exact B2037
            have ek4081 : (m4077 11).toInt = ((m 11)).toInt := by rw [em4078]; exact ek2038
            have B4082 : sf_B 1 600 (m4077 10) := by rw [em4078]; exact B4073
            have ek4083 : (m4077 10).toInt = (z4071).toInt := by rw [em4078]; rfl
            have W4084 : rf_W [10, 12, 13, 14] m m4077 := by rw [em4078]; exact W2039.put (by decide)
            have W4085 : rf_W [10] m m4077 := by rw [em4078]; exact W_2034.put (by decide)
            refine pm_R_br pm_M179 (pc_q := 0) rfl rfl ?_
            exact ih_2034 _ (sf_up hN_2034 (sf_aux32 _ _ _ e4072 ek4083) B2074 (by decide) (by decide)) h4074 m4077 w_2034  T4075 F4079 W4085  (sf_aux40 _ _ _ _ e4072 ek4083 X_2034) rfl
  exact L_2034 _ h m w  T (rf_G.refl [41] h) (rf_W.refl _ _)  (sf_aux50 _ ) rfl
