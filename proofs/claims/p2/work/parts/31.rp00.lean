set_option maxRecDepth 100000 in
set_option maxHeartbeats 4000000 in
/-- SilentTableModel.later -/
theorem rf_c182 {d : Nat} {m : Nat → Int32} {w : Int64} {h : pm_H} {Q : Option Value → pm_H → Prop} {a0 : Int32} {a1 : Int32} (T : rf_T m w h) (Ba0 : sf_B 2 4 a0) (Ba1 : sf_B 0 600 a1) (K : ∀ (m' : Nat → Int32) (w' : Int64) (h' : pm_H), rf_T m' w' h' → rf_G [41] h h' → rf_W [17, 18] m m' → sf_B 1 4 (m' 17) → Q none h') : pm_R (d + 0) 182 0 [.ref 41, .int a0, .int a1] [] h Q := by
  refine pm_R_lo pm_M182 (pc' := 1) rfl rfl rfl ?_
  have B1 : sf_B 0 4 (m 17) := T.2.2.1 17
  refine rf_R_get pm_M182 T (pc' := 4) (v := .int (m 17)) rfl rfl rfl rfl ?_
  refine pm_R_ifc pm_M182 (t := 31) (pc' := 7) rfl rfl rfl (fun c2 => ?_) (fun c2 => ?_)
  · have B3 : sf_B 0 0 (m 17) := sf_eqL c2 sf_k0
    refine pm_R_lo pm_M182 (pc' := 32) rfl rfl rfl ?_
    refine pm_R_lo pm_M182 (pc' := 33) rfl rfl rfl ?_
    refine rf_R_put pm_M182 T (pc' := 36) rfl rfl rfl (by decide) rfl rfl (sf_weak Ba0 (by decide) (by decide)) rfl rfl (fun h4 m7 em8 T5 F6 => ?_)
    have F9 := (rf_G.refl [41] h).trans F6 (by decide)
    have B10 : sf_B 2 4 (m7 17) := by rw [em8]; exact Ba0
    have ek11 : (m7 17).toInt = (a0).toInt := by rw [em8]; rfl
    have W12 : rf_W [17, 18] m m7 := by rw [em8]; exact (rf_W.refl [17, 18] m).put (by decide)
    refine pm_R_lo pm_M182 (pc' := 37) rfl rfl rfl ?_
    refine pm_R_lo pm_M182 (pc' := 38) rfl rfl rfl ?_
    refine rf_R_put pm_M182 T5 (pc' := 41) rfl rfl rfl (by decide) rfl rfl Ba1 rfl rfl (fun h13 m16 em17 T14 F15 => ?_)
    have F18 := F9.trans F15 (by decide)
    have B19 : sf_B 2 4 (m16 17) := by rw [em17]; exact B10
    have ek20 : (m16 17).toInt = (a0).toInt := by rw [em17]; exact ek11
    have B21 : sf_B 0 600 (m16 18) := by rw [em17]; exact Ba1
    have ek22 : (m16 18).toInt = (a1).toInt := by rw [em17]; rfl
    have W23 : rf_W [17, 18] m m16 := by rw [em17]; exact W12.put (by decide)
    exact pm_R_ret pm_M182 (r := none) rfl rfl (K m16 w h13 T14 F18 W23 (sf_weak B19 (by decide) (by decide)))
  · have B24 : sf_B 1 4 (m 17) := sf_neL0 c2 sf_k0 B1
    refine pm_R_lo pm_M182 (pc' := 8) rfl rfl rfl ?_
    refine pm_R_lo pm_M182 (pc' := 9) rfl rfl rfl ?_
    have B25 : sf_B 0 600 (m 18) := T.2.2.1 18
    refine rf_R_get pm_M182 T (pc' := 12) (v := .int (m 18)) rfl rfl rfl rfl ?_
    refine pm_R_icmp pm_M182 (t := 31) (pc' := 15) rfl rfl rfl (fun c26 => ?_) (fun c26 => ?_)
    · have B27 : sf_B 0 599 a1 := sf_ltL c26 Ba1 B25
      have B28 : sf_B 1 600 (m 18) := sf_ltR c26 Ba1 B25
      refine pm_R_lo pm_M182 (pc' := 32) rfl rfl rfl ?_
      refine pm_R_lo pm_M182 (pc' := 33) rfl rfl rfl ?_
      refine rf_R_put pm_M182 T (pc' := 36) rfl rfl rfl (by decide) rfl rfl (sf_weak Ba0 (by decide) (by decide)) rfl rfl (fun h29 m32 em33 T30 F31 => ?_)
      have F34 := (rf_G.refl [41] h).trans F31 (by decide)
      have B35 : sf_B 1 600 (m32 18) := by rw [em33]; exact B28
      have B36 : sf_B 2 4 (m32 17) := by rw [em33]; exact Ba0
      have ek37 : (m32 17).toInt = (a0).toInt := by rw [em33]; rfl
      have W38 : rf_W [17, 18] m m32 := by rw [em33]; exact (rf_W.refl [17, 18] m).put (by decide)
      refine pm_R_lo pm_M182 (pc' := 37) rfl rfl rfl ?_
      refine pm_R_lo pm_M182 (pc' := 38) rfl rfl rfl ?_
      refine rf_R_put pm_M182 T30 (pc' := 41) rfl rfl rfl (by decide) rfl rfl (sf_weak B27 (by decide) (by decide)) rfl rfl (fun h39 m42 em43 T40 F41 => ?_)
      have F44 := F34.trans F41 (by decide)
      have B45 : sf_B 2 4 (m42 17) := by rw [em43]; exact B36
      have ek46 : (m42 17).toInt = (a0).toInt := by rw [em43]; exact ek37
      have B47 : sf_B 0 599 (m42 18) := by rw [em43]; exact B27
      have ek48 : (m42 18).toInt = (a1).toInt := by rw [em43]; rfl
      have W49 : rf_W [17, 18] m m42 := by rw [em43]; exact W38.put (by decide)
      exact pm_R_ret pm_M182 (r := none) rfl rfl (K m42 w h39 T40 F44 W49 (sf_weak B45 (by decide) (by decide)))
    · skip
      refine pm_R_lo pm_M182 (pc' := 16) rfl rfl rfl ?_
      refine pm_R_lo pm_M182 (pc' := 17) rfl rfl rfl ?_
      refine rf_R_get pm_M182 T (pc' := 20) (v := .int (m 18)) rfl rfl rfl rfl ?_
      refine pm_R_icmp pm_M182 (t := 41) (pc' := 23) rfl rfl rfl (fun c50 => ?_) (fun c50 => ?_)
      · skip
        exact pm_R_ret pm_M182 (r := none) rfl rfl (K m w h T (rf_G.refl [41] h) (rf_W.refl [17, 18] m) B24)
      · refine pm_R_lo pm_M182 (pc' := 24) rfl rfl rfl ?_
        refine pm_R_lo pm_M182 (pc' := 25) rfl rfl rfl ?_
        refine rf_R_get pm_M182 T (pc' := 28) (v := .int (m 17)) rfl rfl rfl rfl ?_
        refine pm_R_icmp pm_M182 (t := 41) (pc' := 31) rfl rfl rfl (fun c51 => ?_) (fun c51 => ?_)
        · skip
          exact pm_R_ret pm_M182 (r := none) rfl rfl (K m w h T (rf_G.refl [41] h) (rf_W.refl [17, 18] m) B24)
        · have B52 : sf_B 2 3 a0 := sf_ltL (Int32.not_le.mp c51) Ba0 B24
          have B53 : sf_B 3 4 (m 17) := sf_ltR (Int32.not_le.mp c51) Ba0 B24
          refine pm_R_lo pm_M182 (pc' := 32) rfl rfl rfl ?_
          refine pm_R_lo pm_M182 (pc' := 33) rfl rfl rfl ?_
          refine rf_R_put pm_M182 T (pc' := 36) rfl rfl rfl (by decide) rfl rfl (sf_weak B52 (by decide) (by decide)) rfl rfl (fun h54 m57 em58 T55 F56 => ?_)
          have F59 := (rf_G.refl [41] h).trans F56 (by decide)
          have B60 : sf_B 2 3 (m57 17) := by rw [em58]; exact B52
          have ek61 : (m57 17).toInt = (a0).toInt := by rw [em58]; rfl
          have W62 : rf_W [17, 18] m m57 := by rw [em58]; exact (rf_W.refl [17, 18] m).put (by decide)
          refine pm_R_lo pm_M182 (pc' := 37) rfl rfl rfl ?_
          refine pm_R_lo pm_M182 (pc' := 38) rfl rfl rfl ?_
          refine rf_R_put pm_M182 T55 (pc' := 41) rfl rfl rfl (by decide) rfl rfl Ba1 rfl rfl (fun h63 m66 em67 T64 F65 => ?_)
          have F68 := F59.trans F65 (by decide)
          have B69 : sf_B 2 3 (m66 17) := by rw [em67]; exact B60
          have ek70 : (m66 17).toInt = (a0).toInt := by rw [em67]; exact ek61
          have B71 : sf_B 0 600 (m66 18) := by rw [em67]; exact Ba1
          have ek72 : (m66 18).toInt = (a1).toInt := by rw [em67]; rfl
          have W73 : rf_W [17, 18] m m66 := by rw [em67]; exact W62.put (by decide)
          exact pm_R_ret pm_M182 (r := none) rfl rfl (K m66 w h63 T64 F68 W73 (sf_weak B69 (by decide) (by decide)))

theorem sf_aux37 (v0 v1 : Int) (q0 : v0 = v1) : v0 = v1 := by omega
theorem sf_aux38 (v0 v1 v2 : Int) (q0 : v0 = v1 + 1) (q1 : v2 = v0) : v2 = v0 := by omega
theorem sf_aux39 (v0 v1 v2 : Int) (q0 : v0 = v1) (q1 : v2 ≤ v1) : v2 ≤ v0 := by omega
theorem sf_aux40 (v0 v1 v2 v3 : Int) (q0 : v0 = v1 + 1) (q1 : v2 = v0) (q2 : v3 ≤ v1) : v3 ≤ v2 := by omega
theorem sf_aux41 (v0 v1 v2 v3 : Int) (q0 : v0 = v1 + 1) (q1 : v2 = v0) (q2 : v3 ≤ v1) : v3 + 1 ≤ v2 := by omega
theorem sf_aux42 (v0 v1 v2 : Int) (q0 : v0 = v1) (q1 : v2 + 1 ≤ v1) : v2 + 1 ≤ v0 := by omega
theorem sf_aux43 (v0 v1 v2 : Int) (q0 : v0 = v1) (q1 : v2 + 1 ≤ v1) : v2 ≤ v0 := by omega
theorem sf_aux44 (v0 v1 v2 v3 v4 : Int) (q0 : v0 = v1 + 1) (q1 : v2 = v3 + 1) (q2 : v4 = v2) (q3 : 2 ≤ v1) (q4 : v1 ≤ 599) (q5 : 0 ≤ v3) (q6 : v3 ≤ 599) (q7 : v1 ≤ v3) : v0 ≤ v4 := by omega
theorem sf_aux45 (v0 v1 v2 v3 : Int) (q0 : v0 = v1 + 1) (q1 : v2 = v0) (q2 : v3 + 1 ≤ v1) : v3 + 1 ≤ v2 := by omega
theorem sf_aux46 (v0 v1 v2 v3 : Int) (q0 : v0 = v1 + 1) (q1 : v2 = v0 + 1) (q2 : v3 = v2) (q3 : 0 ≤ v1) (q4 : v1 ≤ 599) : 2 ≤ v3 := by omega
theorem sf_aux47 (v0 v1 v2 v3 v4 : Int) (q0 : v0 = v1 + 1) (q1 : v2 = v0 + 1) (q2 : v3 = v2) (q3 : v4 ≤ v1) : v4 + 1 ≤ v3 := by omega
theorem sf_aux48 (v0 v1 v2 v3 v4 : Int) (q0 : v0 = v1 + 1) (q1 : v2 = v3 + 1) (q2 : v4 = v2) (q3 : 1 ≤ v1) (q4 : v1 ≤ 599) (q5 : 0 ≤ v3) (q6 : v3 ≤ 599) (q7 : v1 ≤ v3) : v0 ≤ v4 := by omega
theorem sf_aux49 (v0 v1 v2 : Int) (q0 : v0 = v1 + 1) (q1 : v2 = v0) (q2 : 0 ≤ v1) (q3 : v1 ≤ 599) : 1 ≤ v2 := by omega
theorem sf_aux50 (v0 : Int)  : v0 ≤ v0 := by omega
set_option maxRecDepth 100000 in
set_option maxHeartbeats 4000000 in
/-- SilentTableModel.token -/
theorem rf_c179 {d : Nat} {m : Nat → Int32} {w : Int64} {h : pm_H} {Q : Option Value → pm_H → Prop}  (T : rf_T m w h)  (K : ∀ (m' : Nat → Int32) (w' : Int64) (h' : pm_H), rf_T m' w' h' → rf_G [41] h h' → rf_W [10, 12, 13, 14] m m' → (m 10).toInt ≤ (m' 10).toInt → ((m 10).toInt + 1 ≤ (m' 10).toInt ∨ (m' 13).toInt = 0) → Q none h') : pm_R (d + 1) 179 0 [.ref 41, pm_no, pm_no] [] h Q := by
  have B1 : sf_B 0 600 (m 10) := T.2.2.1 10
  have B2 : sf_B 0 600 (m 11) := T.2.2.1 11
  have L_2034 : ∀ (N : Nat) (h_2034 : pm_H) (m_2034 : Nat → Int32) (w_2034 : Int64), rf_T m_2034 w_2034 h_2034 → rf_G [41] h h_2034 → rf_W [10] m m_2034 → (m 10).toInt ≤ (m_2034 10).toInt → (600 - (m_2034 10).toInt).toNat = N → pm_R (d + 1) 179 0 [.ref 41, pm_no, pm_no] [] h_2034 Q := by
    intro N
    induction N using Nat.strongRecOn with
    | ind N ih_2034 =>
      intro h_2034 m_2034 w_2034 T_2034 F_2034 W_2034 X_2034 hN_2034
      have B2037 : sf_B 0 600 (m_2034 11) := by rw [W_2034 11 (by decide)]; exact B2
      have ek2038 : (m_2034 11).toInt = ((m 11)).toInt := by rw [W_2034 11 (by decide)]
      have W2039 : rf_W [10, 12, 13, 14] m m_2034 := (rf_W.refl [10, 12, 13, 14] m).trans W_2034 (by decide)
      refine pm_R_lo pm_M179 (pc' := 1) rfl rfl rfl ?_
      refine pm_R_cv pm_M179 (pc' := 4) (a := 41) (ra := []) (rest := []) (ls' := [.ref 41]) rfl rfl (Or.inl rfl) pm_M180 T_2034.2.1 rfl (by decide) (Nat.lt_of_lt_of_le (by decide) T_2034.1) rfl rfl (Nat.le_of_ble_eq_true rfl) rfl rfl ?_
      refine pm_R_lo pm_M180 (pc' := 1) rfl rfl rfl ?_
      have B2040 : sf_B 0 600 (m_2034 10) := T_2034.2.2.1 10
      refine rf_R_get pm_M180 T_2034 (pc' := 4) (v := .int (m_2034 10)) rfl rfl rfl rfl ?_
      refine pm_R_lo pm_M180 (pc' := 5) rfl rfl rfl ?_
      refine rf_R_get pm_M180 T_2034 (pc' := 8) (v := .int (m 11)) rfl rfl (congrArg (fun z => some (Value.int z)) (Int32.toInt_inj.mp (sf_aux37 _ _ ek2038))) rfl ?_
      refine pm_R_icmp pm_M180 (t := 27) (pc' := 11) rfl rfl rfl (fun c2041 => ?_) (fun c2041 => ?_)
      · skip
        refine pm_R_op pm_M180 (pc' := 28) (st' := [.int (-1)]) rfl rfl rfl ?_
        refine pm_R_ret pm_M180 (r := some (.int (-1))) rfl rfl ?_
        show pm_R _ 179 4 [.ref 41, pm_no, pm_no] [.int (-1)] _ _
        refine pm_R_op pm_M179 (pc' := 6) (st' := [.int 10, .int (-1)]) rfl rfl rfl ?_
        refine pm_R_br pm_M179 (pc' := 9) (st' := []) rfl rfl ?_
        refine pm_R_lo pm_M179 (pc' := 10) rfl rfl rfl ?_
        refine pm_R_cv pm_M179 (pc' := 13) (a := 41) (ra := []) (rest := []) (ls' := [.ref 41]) rfl rfl (Or.inl rfl) pm_M180 T_2034.2.1 rfl (by decide) (Nat.lt_of_lt_of_le (by decide) T_2034.1) rfl rfl (Nat.le_of_ble_eq_true rfl) rfl rfl ?_
        refine pm_R_lo pm_M180 (pc' := 1) rfl rfl rfl ?_
        refine rf_R_get pm_M180 T_2034 (pc' := 4) (v := .int (m_2034 10)) rfl rfl rfl rfl ?_
        refine pm_R_lo pm_M180 (pc' := 5) rfl rfl rfl ?_
        refine rf_R_get pm_M180 T_2034 (pc' := 8) (v := .int (m 11)) rfl rfl (congrArg (fun z => some (Value.int z)) (Int32.toInt_inj.mp (sf_aux37 _ _ ek2038))) rfl ?_
        refine pm_R_icmp pm_M180 (t := 27) (pc' := 11) rfl rfl rfl (fun c2042 => ?_) (fun c2042 => absurd (Int32.not_le.mp c2042) (Int32.not_lt.mpr c2041))
        skip
        refine pm_R_op pm_M180 (pc' := 28) (st' := [.int (-1)]) rfl rfl rfl ?_
        refine pm_R_ret pm_M180 (r := some (.int (-1))) rfl rfl ?_
        show pm_R _ 179 13 [.ref 41, pm_no, pm_no] [.int (-1)] _ _
        refine pm_R_op pm_M179 (pc' := 15) (st' := [.int 32, .int (-1)]) rfl rfl rfl ?_
        refine pm_R_br pm_M179 (pc' := 31) (st' := []) rfl rfl ?_
        refine pm_R_lo pm_M179 (pc' := 32) rfl rfl rfl ?_
        refine pm_R_lo pm_M179 (pc' := 33) rfl rfl rfl ?_
        refine rf_R_get pm_M179 T_2034 (pc' := 36) (v := .int (m_2034 10)) rfl rfl rfl rfl ?_
        refine rf_R_put pm_M179 T_2034 (pc' := 39) rfl rfl rfl (by decide) rfl rfl B2040 rfl rfl (fun h2043 m2046 em2047 T2044 F2045 => ?_)
        have F2048 := F_2034.trans F2045 (by decide)
        have B2049 : sf_B 0 600 (m2046 11) := by rw [em2047]; exact B2037
        have ek2050 : (m2046 11).toInt = ((m 11)).toInt := by rw [em2047]; exact ek2038
        have B2051 : sf_B 0 600 (m2046 10) := by rw [em2047]; exact B2040
        have ek2052 : (m2046 10).toInt = ((m_2034 10)).toInt := by rw [em2047]; rfl
        have B2053 : sf_B 0 600 (m2046 12) := by rw [em2047]; exact B2040
        have ek2054 : (m2046 12).toInt = ((m_2034 10)).toInt := by rw [em2047]; rfl
        have W2055 : rf_W [10, 12, 13, 14] m m2046 := by rw [em2047]; exact W2039.put (by decide)
        refine pm_R_lo pm_M179 (pc' := 40) rfl rfl rfl ?_
        refine pm_R_cv pm_M179 (pc' := 43) (a := 41) (ra := []) (rest := []) (ls' := [.ref 41]) rfl rfl (Or.inl rfl) pm_M180 T2044.2.1 rfl (by decide) (Nat.lt_of_lt_of_le (by decide) T2044.1) rfl rfl (Nat.le_of_ble_eq_true rfl) rfl rfl ?_
        refine pm_R_lo pm_M180 (pc' := 1) rfl rfl rfl ?_
        refine rf_R_get pm_M180 T2044 (pc' := 4) (v := .int (m_2034 10)) rfl rfl (congrArg (fun z => some (Value.int z)) (Int32.toInt_inj.mp (sf_aux37 _ _ ek2052))) rfl ?_
        refine pm_R_lo pm_M180 (pc' := 5) rfl rfl rfl ?_
        refine rf_R_get pm_M180 T2044 (pc' := 8) (v := .int (m 11)) rfl rfl (congrArg (fun z => some (Value.int z)) (Int32.toInt_inj.mp (sf_aux37 _ _ ek2050))) rfl ?_
        refine pm_R_icmp pm_M180 (t := 27) (pc' := 11) rfl rfl rfl (fun c2056 => ?_) (fun c2056 => absurd (Int32.not_le.mp c2056) (Int32.not_lt.mpr c2041))
        skip
        refine pm_R_op pm_M180 (pc' := 28) (st' := [.int (-1)]) rfl rfl rfl ?_
        refine pm_R_ret pm_M180 (r := some (.int (-1))) rfl rfl ?_
        show pm_R _ 179 43 [.ref 41, pm_no, pm_no] [.int (-1)] _ _
        refine pm_R_lo pm_M179 (pc' := 44) (ls' := [.ref 41, .int (-1), pm_no]) (st' := []) rfl rfl rfl ?_
        refine pm_R_lo pm_M179 (pc' := 45) rfl rfl rfl ?_
        refine pm_R_op pm_M179 (pc' := 46) (st' := [.long 0, .ref 41]) rfl rfl rfl ?_
        refine rf_R_putL pm_M179 T2044 (pc' := 49) rfl rfl rfl (by decide) rfl rfl rfl rfl (fun h2057 T2058 F2059 => ?_)
        have F2060 := F2048.trans F2059 (by decide)
        refine pm_R_op pm_M179 (pc' := 50) (st' := [.int 0]) rfl rfl rfl ?_
        refine pm_R_lo pm_M179 (pc' := 51) (ls' := [.ref 41, .int (-1), .int 0]) (st' := []) rfl rfl rfl ?_
        refine pm_R_lo pm_M179 (pc' := 52) rfl rfl rfl ?_
        refine pm_R_br pm_M179 (pc' := 55) (st' := []) rfl rfl ?_
        refine pm_R_lo pm_M179 (pc' := 56) rfl rfl rfl ?_
        refine pm_R_op pm_M179 (pc' := 57) (st' := [.int 0, .ref 41]) rfl rfl rfl ?_
        refine rf_R_put pm_M179 T2058 (pc' := 60) rfl rfl rfl (by decide) rfl rfl (sf_weak sf_k0 (by decide) (by decide)) rfl rfl (fun h2061 m2064 em2065 T2062 F2063 => ?_)
        have F2066 := F2060.trans F2063 (by decide)
        have B2067 : sf_B 0 600 (m2064 11) := by rw [em2065]; exact B2049
        have ek2068 : (m2064 11).toInt = ((m 11)).toInt := by rw [em2065]; exact ek2050
        have B2069 : sf_B 0 600 (m2064 10) := by rw [em2065]; exact B2051
        have ek2070 : (m2064 10).toInt = ((m_2034 10)).toInt := by rw [em2065]; exact ek2052
        have B2071 : sf_B 0 0 (m2064 13) := by rw [em2065]; exact sf_k0
        have W2073 : rf_W [10, 12, 13, 14] m m2064 := by rw [em2065]; exact W2055.put (by decide)
        refine pm_R_br pm_M179 (pc' := 266) rfl rfl ?_
        exact pm_R_ret pm_M179 (r := none) (pm_q179_2 (Nat.le_of_ble_eq_true rfl)) rfl (K m2064 0 h2061 T2062 F2066 W2073 (sf_aux39 _ _ _ ek2070 X_2034) (Or.inr (sf_aux35 _ B2071.1 B2071.2)))
      · have B2074 : sf_B 0 599 (m_2034 10) := sf_ltL (Int32.not_le.mp c2041) B2040 B2
        have B2075 : sf_B 1 600 (m 11) := sf_ltR (Int32.not_le.mp c2041) B2040 B2
        refine pm_R_lo pm_M180 (pc' := 12) rfl rfl rfl ?_
        refine rf_R_get pm_M180 T_2034 (pc' := 15) (v := .ref 42) rfl rfl rfl rfl ?_
        refine pm_R_lo pm_M180 (pc' := 16) rfl rfl rfl ?_
        refine rf_R_get pm_M180 T_2034 (pc' := 19) (v := .int (m_2034 10)) rfl rfl rfl rfl ?_
        obtain ⟨f2076, e2077⟩ := T_2034.2.2.2.1 42 (by decide) (by decide)
        refine rf_R_bld pm_M180 T_2034 (pc' := 20) rfl e2077 (Or.inl rfl) (by decide) (by decide) (sf_in B2074 (by decide) (by decide)) rfl (fun z2079 ez2080 => ?_)
        refine pm_R_op pm_M180 (pc' := 23) (st' := [.int 255, .int z2079]) rfl rfl rfl ?_
        refine sf_R_iandE pm_M180 (pc' := 24) rfl rfl sf_k255 (by decide) (fun z2081 e2082 B2083 => ?_)
        refine pm_R_br pm_M180 (pc' := 28) rfl rfl ?_
        refine pm_R_ret pm_M180 (r := some (.int z2081)) rfl (pm_ret_i _) ?_
        show pm_R _ 179 4 [.ref 41, pm_no, pm_no] [.int z2081] _ _
        refine pm_R_op pm_M179 (pc' := 6) (st' := [.int 10, .int z2081]) rfl rfl rfl ?_
        refine pm_R_icmp pm_M179 (t := 18) (pc' := 9) rfl rfl rfl (fun c2084 => ?_) (fun c2084 => ?_)
        · have B2085 : sf_B 10 10 z2081 := sf_eqL c2084 sf_k10
          refine pm_R_lo pm_M179 (pc' := 19) rfl rfl rfl ?_
          refine pm_R_op pm_M179 (pc' := 20) (st' := [.ref 41, .ref 41]) rfl rfl rfl ?_
          refine rf_R_get pm_M179 T_2034 (pc' := 23) (v := .int (m_2034 10)) rfl rfl rfl rfl ?_
          refine pm_R_op pm_M179 (pc' := 24) (st' := [.int 1, .int (m_2034 10), .ref 41]) rfl rfl rfl ?_
          refine sf_R_iadd pm_M179 (pc' := 25) rfl rfl B2074 sf_k1 (by decide) (by decide) (fun z2086 e2087 B2088 => ?_)
          refine rf_R_put pm_M179 T_2034 (pc' := 28) rfl rfl rfl (by decide) rfl rfl (sf_weak B2088 (by decide) (by decide)) rfl rfl (fun h2089 m2092 em2093 T2090 F2091 => ?_)
          have F2094 := F_2034.trans F2091 (by decide)
          have B2095 : sf_B 0 600 (m2092 11) := by rw [em2093]; exact B2037
          have ek2096 : (m2092 11).toInt = ((m 11)).toInt := by rw [em2093]; exact ek2038
          have B2097 : sf_B 1 600 (m2092 10) := by rw [em2093]; exact B2088
          have ek2098 : (m2092 10).toInt = (z2086).toInt := by rw [em2093]; rfl
          have W2099 : rf_W [10, 12, 13, 14] m m2092 := by rw [em2093]; exact W2039.put (by decide)
          have W2100 : rf_W [10] m m2092 := by rw [em2093]; exact W_2034.put (by decide)
          refine pm_R_br pm_M179 (pc' := 0) rfl rfl ?_
          exact ih_2034 _ (sf_up hN_2034 (sf_aux32 _ _ _ e2087 ek2098) B2074 (by decide) (by decide)) h2089 m2092 w_2034  T2090 F2094 W2100  (sf_aux40 _ _ _ _ e2087 ek2098 X_2034) rfl
        · skip
          refine pm_R_lo pm_M179 (pc' := 10) rfl rfl rfl ?_
          refine pm_R_cv pm_M179 (pc' := 13) (a := 41) (ra := []) (rest := []) (ls' := [.ref 41]) rfl rfl (Or.inl rfl) pm_M180 T_2034.2.1 rfl (by decide) (Nat.lt_of_lt_of_le (by decide) T_2034.1) rfl rfl (Nat.le_of_ble_eq_true rfl) rfl rfl ?_
          refine pm_R_lo pm_M180 (pc' := 1) rfl rfl rfl ?_
          refine rf_R_get pm_M180 T_2034 (pc' := 4) (v := .int (m_2034 10)) rfl rfl rfl rfl ?_
          refine pm_R_lo pm_M180 (pc' := 5) rfl rfl rfl ?_
          refine rf_R_get pm_M180 T_2034 (pc' := 8) (v := .int (m 11)) rfl rfl (congrArg (fun z => some (Value.int z)) (Int32.toInt_inj.mp (sf_aux37 _ _ ek2038))) rfl ?_
          refine pm_R_icmp pm_M180 (t := 27) (pc' := 11) rfl rfl rfl (fun c2101 => absurd c2101 (Int32.not_le.mpr (Int32.not_le.mp c2041))) (fun c2101 => ?_)
          skip
          refine pm_R_lo pm_M180 (pc' := 12) rfl rfl rfl ?_
          refine rf_R_get pm_M180 T_2034 (pc' := 15) (v := .ref 42) rfl rfl rfl rfl ?_
          refine pm_R_lo pm_M180 (pc' := 16) rfl rfl rfl ?_
          refine rf_R_get pm_M180 T_2034 (pc' := 19) (v := .int (m_2034 10)) rfl rfl rfl rfl ?_
          refine pm_R_bald pm_M180 (pc' := 20) (v := z2079) rfl e2077 (Or.inl rfl) (by decide) (Nat.lt_of_lt_of_le (by decide) T_2034.1) (sf_in B2074 (by decide) (by decide)) ez2080 rfl ?_
          refine pm_R_op pm_M180 (pc' := 23) (st' := [.int 255, .int z2079]) rfl rfl rfl ?_
          refine pm_R_op pm_M180 (pc' := 24) (st' := [.int z2081]) rfl (by show some (Value.int (z2079 &&& 255) :: _) = _; rw [← e2082]) rfl ?_
          refine pm_R_br pm_M180 (pc' := 28) rfl rfl ?_
          refine pm_R_ret pm_M180 (r := some (.int z2081)) rfl (pm_ret_i _) ?_
          show pm_R _ 179 13 [.ref 41, pm_no, pm_no] [.int z2081] _ _
          refine pm_R_op pm_M179 (pc' := 15) (st' := [.int 32, .int z2081]) rfl rfl rfl ?_
          refine pm_R_icmp pm_M179 (t := 31) (pc' := 18) rfl rfl rfl (fun c2107 => ?_) (fun c2107 => ?_)
          · skip
            refine pm_R_lo pm_M179 (pc' := 32) rfl rfl rfl ?_
            refine pm_R_lo pm_M179 (pc' := 33) rfl rfl rfl ?_
            refine rf_R_get pm_M179 T_2034 (pc' := 36) (v := .int (m_2034 10)) rfl rfl rfl rfl ?_
            refine rf_R_put pm_M179 T_2034 (pc' := 39) rfl rfl rfl (by decide) rfl rfl (sf_weak B2074 (by decide) (by decide)) rfl rfl (fun h2108 m2111 em2112 T2109 F2110 => ?_)
            have F2113 := F_2034.trans F2110 (by decide)
            have B2114 : sf_B 0 600 (m2111 11) := by rw [em2112]; exact B2037
            have ek2115 : (m2111 11).toInt = ((m 11)).toInt := by rw [em2112]; exact ek2038
            have B2116 : sf_B 0 599 (m2111 10) := by rw [em2112]; exact B2074
            have ek2117 : (m2111 10).toInt = ((m_2034 10)).toInt := by rw [em2112]; rfl
            have B2118 : sf_B 0 599 (m2111 12) := by rw [em2112]; exact B2074
            have ek2119 : (m2111 12).toInt = ((m_2034 10)).toInt := by rw [em2112]; rfl
            have W2120 : rf_W [10, 12, 13, 14] m m2111 := by rw [em2112]; exact W2039.put (by decide)
            refine pm_R_lo pm_M179 (pc' := 40) rfl rfl rfl ?_
            refine pm_R_cv pm_M179 (pc' := 43) (a := 41) (ra := []) (rest := []) (ls' := [.ref 41]) rfl rfl (Or.inl rfl) pm_M180 T2109.2.1 rfl (by decide) (Nat.lt_of_lt_of_le (by decide) T2109.1) rfl rfl (Nat.le_of_ble_eq_true rfl) rfl rfl ?_
            refine pm_R_lo pm_M180 (pc' := 1) rfl rfl rfl ?_
            refine rf_R_get pm_M180 T2109 (pc' := 4) (v := .int (m_2034 10)) rfl rfl (congrArg (fun z => some (Value.int z)) (Int32.toInt_inj.mp (sf_aux37 _ _ ek2117))) rfl ?_
            refine pm_R_lo pm_M180 (pc' := 5) rfl rfl rfl ?_
            refine rf_R_get pm_M180 T2109 (pc' := 8) (v := .int (m 11)) rfl rfl (congrArg (fun z => some (Value.int z)) (Int32.toInt_inj.mp (sf_aux37 _ _ ek2115))) rfl ?_
            refine pm_R_icmp pm_M180 (t := 27) (pc' := 11) rfl rfl rfl (fun c2121 => absurd c2121 (Int32.not_le.mpr (Int32.not_le.mp c2041))) (fun c2121 => ?_)
            skip
            refine pm_R_lo pm_M180 (pc' := 12) rfl rfl rfl ?_
            refine rf_R_get pm_M180 T2109 (pc' := 15) (v := .ref 42) rfl rfl rfl rfl ?_
            refine pm_R_lo pm_M180 (pc' := 16) rfl rfl rfl ?_
            refine rf_R_get pm_M180 T2109 (pc' := 19) (v := .int (m_2034 10)) rfl rfl (congrArg (fun z => some (Value.int z)) (Int32.toInt_inj.mp (sf_aux37 _ _ ek2117))) rfl ?_
            have e2122 := (F2110.cell (by decide) e2077)
            refine pm_R_bald pm_M180 (pc' := 20) (v := z2079) rfl e2122 (Or.inl rfl) (by decide) (Nat.lt_of_lt_of_le (by decide) T2109.1) (sf_in B2074 (by decide) (by decide)) ez2080 rfl ?_
            refine pm_R_op pm_M180 (pc' := 23) (st' := [.int 255, .int z2079]) rfl rfl rfl ?_
            refine pm_R_op pm_M180 (pc' := 24) (st' := [.int z2081]) rfl (by show some (Value.int (z2079 &&& 255) :: _) = _; rw [← e2082]) rfl ?_
            refine pm_R_br pm_M180 (pc' := 28) rfl rfl ?_
            refine pm_R_ret pm_M180 (r := some (.int z2081)) rfl (pm_ret_i _) ?_
            show pm_R _ 179 43 [.ref 41, pm_no, pm_no] [.int z2081] _ _
            refine pm_R_lo pm_M179 (pc' := 44) (ls' := [.ref 41, .int z2081, pm_no]) (st' := []) rfl rfl rfl ?_
            refine pm_R_lo pm_M179 (pc' := 45) rfl rfl rfl ?_
            refine pm_R_op pm_M179 (pc' := 46) (st' := [.long 0, .ref 41]) rfl rfl rfl ?_
            refine rf_R_putL pm_M179 T2109 (pc' := 49) rfl rfl rfl (by decide) rfl rfl rfl rfl (fun h2128 T2129 F2130 => ?_)
            have F2131 := F2113.trans F2130 (by decide)
            refine pm_R_op pm_M179 (pc' := 50) (st' := [.int 0]) rfl rfl rfl ?_
            refine pm_R_lo pm_M179 (pc' := 51) (ls' := [.ref 41, .int z2081, .int 0]) (st' := []) rfl rfl rfl ?_
            refine pm_R_lo pm_M179 (pc' := 52) rfl rfl rfl ?_
            refine pm_R_ifc pm_M179 (t := 63) (pc' := 55) rfl rfl rfl (fun c2132 => ?_) (fun c2132 => absurd (Int32.not_le.mp c2132) (sf_nlt B2083 sf_k0 (by decide)))
            skip
            refine pm_R_lo pm_M179 (pc' := 64) rfl rfl rfl ?_
            refine pm_R_op pm_M179 (pc' := 66) (st' := [.int 97, .int z2081]) rfl rfl rfl ?_
            refine pm_R_op pm_M179 (pc' := 68) (st' := [.int 122, .int 97, .int z2081]) rfl rfl rfl ?_
            refine pm_R_cs pm_M179 (pc' := 71) (ra := [.int 122, .int 97, .int z2081]) (rest := []) (ls' := [.int z2081, .int 97, .int 122]) rfl rfl (Or.inl rfl) pm_M174 rfl rfl (Nat.le_of_ble_eq_true rfl) rfl rfl ?_
            refine pm_R_lo pm_M174 (pc' := 1) rfl rfl rfl ?_
            refine pm_R_lo pm_M174 (pc' := 2) rfl rfl rfl ?_
            refine pm_R_icmp pm_M174 (t := 14) (pc' := 5) rfl rfl rfl (fun c2133 => ?_) (fun c2133 => ?_)
            · have B2134 : sf_B 0 96 z2081 := sf_ltL c2133 B2083 sf_k97
              refine pm_R_op pm_M174 (pc' := 15) (st' := [.int 0]) rfl rfl rfl ?_
              refine pm_R_ret pm_M174 (r := some (.int 0)) rfl rfl ?_
              show pm_R _ 179 71 [.ref 41, .int z2081, .int 0] [.int 0] _ _
              refine pm_R_br pm_M179 (pc' := 147) (st' := []) rfl rfl ?_
              refine pm_R_lo pm_M179 (pc' := 148) (pm_q179_1 (Nat.le_of_ble_eq_true rfl)) rfl rfl ?_
              refine pm_R_op pm_M179 (pc' := 150) (st' := [.int 48, .int z2081]) (pm_q179_1 (Nat.le_of_ble_eq_true rfl)) rfl rfl ?_
              refine pm_R_op pm_M179 (pc' := 152) (st' := [.int 57, .int 48, .int z2081]) (pm_q179_1 (Nat.le_of_ble_eq_true rfl)) rfl rfl ?_
              refine pm_R_cs pm_M179 (pc' := 155) (ra := [.int 57, .int 48, .int z2081]) (rest := []) (ls' := [.int z2081, .int 48, .int 57]) (pm_q179_1 (Nat.le_of_ble_eq_true rfl)) rfl (Or.inl rfl) pm_M174 rfl rfl (Nat.le_of_ble_eq_true rfl) rfl rfl ?_
              refine pm_R_lo pm_M174 (pc' := 1) rfl rfl rfl ?_
              refine pm_R_lo pm_M174 (pc' := 2) rfl rfl rfl ?_
              refine pm_R_icmp pm_M174 (t := 14) (pc' := 5) rfl rfl rfl (fun c2135 => ?_) (fun c2135 => ?_)
              · have B2136 : sf_B 0 47 z2081 := sf_ltL c2135 B2134 sf_k48
                refine pm_R_op pm_M174 (pc' := 15) (st' := [.int 0]) rfl rfl rfl ?_
                refine pm_R_ret pm_M174 (r := some (.int 0)) rfl rfl ?_
                show pm_R _ 179 155 [.ref 41, .int z2081, .int 0] [.int 0] _ _
                refine pm_R_br pm_M179 (pc' := 241) (st' := []) (pm_q179_1 (Nat.le_of_ble_eq_true rfl)) rfl ?_
                refine pm_R_lo pm_M179 (pc' := 242) (pm_q179_2 (Nat.le_of_ble_eq_true rfl)) rfl rfl ?_
                refine pm_R_op pm_M179 (pc' := 243) (st' := [.ref 41, .ref 41]) (pm_q179_2 (Nat.le_of_ble_eq_true rfl)) rfl rfl ?_
                refine rf_R_get pm_M179 T2129 (pc' := 246) (v := .int (m_2034 10)) (pm_q179_2 (Nat.le_of_ble_eq_true rfl)) rfl (congrArg (fun z => some (Value.int z)) (Int32.toInt_inj.mp (sf_aux37 _ _ ek2117))) rfl ?_
                refine pm_R_op pm_M179 (pc' := 247) (st' := [.int 1, .int (m_2034 10), .ref 41]) (pm_q179_2 (Nat.le_of_ble_eq_true rfl)) rfl rfl ?_
                refine sf_R_iadd pm_M179 (pc' := 248) (pm_q179_2 (Nat.le_of_ble_eq_true rfl)) rfl B2074 sf_k1 (by decide) (by decide) (fun z2137 e2138 B2139 => ?_)
                refine rf_R_put pm_M179 T2129 (pc' := 251) (pm_q179_2 (Nat.le_of_ble_eq_true rfl)) rfl rfl (by decide) rfl rfl (sf_weak B2139 (by decide) (by decide)) rfl rfl (fun h2140 m2143 em2144 T2141 F2142 => ?_)
                have F2145 := F2131.trans F2142 (by decide)
                have B2146 : sf_B 0 600 (m2143 11) := by rw [em2144]; exact B2114
                have ek2147 : (m2143 11).toInt = ((m 11)).toInt := by rw [em2144]; exact ek2115
                have B2148 : sf_B 0 599 (m2143 12) := by rw [em2144]; exact B2118
                have ek2149 : (m2143 12).toInt = ((m_2034 10)).toInt := by rw [em2144]; exact ek2119
                have B2150 : sf_B 1 600 (m2143 10) := by rw [em2144]; exact B2139
                have ek2151 : (m2143 10).toInt = (z2137).toInt := by rw [em2144]; rfl
                have W2152 : rf_W [10, 12, 13, 14] m m2143 := by rw [em2144]; exact W2120.put (by decide)
                refine pm_R_lo pm_M179 (pc' := 252) (pm_q179_2 (Nat.le_of_ble_eq_true rfl)) rfl rfl ?_
                refine pm_R_lo pm_M179 (pc' := 253) (pm_q179_2 (Nat.le_of_ble_eq_true rfl)) rfl rfl ?_
                refine pm_R_op pm_M179 (pc' := 255) (st' := [.int 59, .int z2081, .ref 41]) (pm_q179_2 (Nat.le_of_ble_eq_true rfl)) rfl rfl ?_
                refine pm_R_icmp pm_M179 (t := 262) (pc' := 258) (pm_q179_2 (Nat.le_of_ble_eq_true rfl)) rfl rfl (fun c2153 => ?_) (fun c2153 => absurd (Classical.not_not.mp c2153) (sf_neq2 B2136 sf_k59 (by decide)))
                skip
                refine pm_R_op pm_M179 (pc' := 263) (st' := [.int 1, .ref 41]) (pm_q179_2 (Nat.le_of_ble_eq_true rfl)) rfl rfl ?_
                refine rf_R_put pm_M179 T2141 (pc' := 266) (pm_q179_2 (Nat.le_of_ble_eq_true rfl)) rfl rfl (by decide) rfl rfl (sf_weak sf_k1 (by decide) (by decide)) rfl rfl (fun h2154 m2157 em2158 T2155 F2156 => ?_)
                have F2159 := F2145.trans F2156 (by decide)
                have B2160 : sf_B 0 600 (m2157 11) := by rw [em2158]; exact B2146
                have ek2161 : (m2157 11).toInt = ((m 11)).toInt := by rw [em2158]; exact ek2147
                have B2162 : sf_B 0 599 (m2157 12) := by rw [em2158]; exact B2148
                have ek2163 : (m2157 12).toInt = ((m_2034 10)).toInt := by rw [em2158]; exact ek2149
                have B2164 : sf_B 1 600 (m2157 10) := by rw [em2158]; exact B2150
                have ek2165 : (m2157 10).toInt = (z2137).toInt := by rw [em2158]; exact ek2151
                have B2166 : sf_B 1 1 (m2157 13) := by rw [em2158]; exact sf_k1
                have W2168 : rf_W [10, 12, 13, 14] m m2157 := by rw [em2158]; exact W2152.put (by decide)
                exact pm_R_ret pm_M179 (r := none) (pm_q179_2 (Nat.le_of_ble_eq_true rfl)) rfl (K m2157 0 h2154 T2155 F2159 W2168 (sf_aux40 _ _ _ _ e2138 ek2165 X_2034) (Or.inl (sf_aux41 _ _ _ _ e2138 ek2165 X_2034)))
              · have B2169 : sf_B 48 96 z2081 := sf_leR (Int32.not_lt.mp c2135) sf_k48 B2134
                refine pm_R_lo pm_M174 (pc' := 6) rfl rfl rfl ?_
                refine pm_R_lo pm_M174 (pc' := 7) rfl rfl rfl ?_
                refine pm_R_icmp pm_M174 (t := 14) (pc' := 10) rfl rfl rfl (fun c2170 => ?_) (fun c2170 => ?_)
                · have B2171 : sf_B 58 96 z2081 := sf_ltR c2170 sf_k57 B2169
                  refine pm_R_op pm_M174 (pc' := 15) (st' := [.int 0]) rfl rfl rfl ?_
                  refine pm_R_ret pm_M174 (r := some (.int 0)) rfl rfl ?_
                  show pm_R _ 179 155 [.ref 41, .int z2081, .int 0] [.int 0] _ _
                  refine pm_R_br pm_M179 (pc' := 241) (st' := []) (pm_q179_1 (Nat.le_of_ble_eq_true rfl)) rfl ?_
                  refine pm_R_lo pm_M179 (pc' := 242) (pm_q179_2 (Nat.le_of_ble_eq_true rfl)) rfl rfl ?_
                  refine pm_R_op pm_M179 (pc' := 243) (st' := [.ref 41, .ref 41]) (pm_q179_2 (Nat.le_of_ble_eq_true rfl)) rfl rfl ?_
                  refine rf_R_get pm_M179 T2129 (pc' := 246) (v := .int (m_2034 10)) (pm_q179_2 (Nat.le_of_ble_eq_true rfl)) rfl (congrArg (fun z => some (Value.int z)) (Int32.toInt_inj.mp (sf_aux37 _ _ ek2117))) rfl ?_
                  refine pm_R_op pm_M179 (pc' := 247) (st' := [.int 1, .int (m_2034 10), .ref 41]) (pm_q179_2 (Nat.le_of_ble_eq_true rfl)) rfl rfl ?_
                  refine sf_R_iadd pm_M179 (pc' := 248) (pm_q179_2 (Nat.le_of_ble_eq_true rfl)) rfl B2074 sf_k1 (by decide) (by decide) (fun z2172 e2173 B2174 => ?_)
                  refine rf_R_put pm_M179 T2129 (pc' := 251) (pm_q179_2 (Nat.le_of_ble_eq_true rfl)) rfl rfl (by decide) rfl rfl (sf_weak B2174 (by decide) (by decide)) rfl rfl (fun h2175 m2178 em2179 T2176 F2177 => ?_)
                  have F2180 := F2131.trans F2177 (by decide)
                  have B2181 : sf_B 0 600 (m2178 11) := by rw [em2179]; exact B2114
                  have ek2182 : (m2178 11).toInt = ((m 11)).toInt := by rw [em2179]; exact ek2115
                  have B2183 : sf_B 0 599 (m2178 12) := by rw [em2179]; exact B2118
                  have ek2184 : (m2178 12).toInt = ((m_2034 10)).toInt := by rw [em2179]; exact ek2119
                  have B2185 : sf_B 1 600 (m2178 10) := by rw [em2179]; exact B2174
                  have ek2186 : (m2178 10).toInt = (z2172).toInt := by rw [em2179]; rfl
                  have W2187 : rf_W [10, 12, 13, 14] m m2178 := by rw [em2179]; exact W2120.put (by decide)
                  refine pm_R_lo pm_M179 (pc' := 252) (pm_q179_2 (Nat.le_of_ble_eq_true rfl)) rfl rfl ?_
                  refine pm_R_lo pm_M179 (pc' := 253) (pm_q179_2 (Nat.le_of_ble_eq_true rfl)) rfl rfl ?_
                  refine pm_R_op pm_M179 (pc' := 255) (st' := [.int 59, .int z2081, .ref 41]) (pm_q179_2 (Nat.le_of_ble_eq_true rfl)) rfl rfl ?_
                  refine pm_R_icmp pm_M179 (t := 262) (pc' := 258) (pm_q179_2 (Nat.le_of_ble_eq_true rfl)) rfl rfl (fun c2188 => ?_) (fun c2188 => ?_)
                  · skip
                    refine pm_R_op pm_M179 (pc' := 263) (st' := [.int 1, .ref 41]) (pm_q179_2 (Nat.le_of_ble_eq_true rfl)) rfl rfl ?_
                    refine rf_R_put pm_M179 T2176 (pc' := 266) (pm_q179_2 (Nat.le_of_ble_eq_true rfl)) rfl rfl (by decide) rfl rfl (sf_weak sf_k1 (by decide) (by decide)) rfl rfl (fun h2189 m2192 em2193 T2190 F2191 => ?_)
                    have F2194 := F2180.trans F2191 (by decide)
                    have B2195 : sf_B 0 600 (m2192 11) := by rw [em2193]; exact B2181
                    have ek2196 : (m2192 11).toInt = ((m 11)).toInt := by rw [em2193]; exact ek2182
                    have B2197 : sf_B 0 599 (m2192 12) := by rw [em2193]; exact B2183
                    have ek2198 : (m2192 12).toInt = ((m_2034 10)).toInt := by rw [em2193]; exact ek2184
                    have B2199 : sf_B 1 600 (m2192 10) := by rw [em2193]; exact B2185
                    have ek2200 : (m2192 10).toInt = (z2172).toInt := by rw [em2193]; exact ek2186
                    have B2201 : sf_B 1 1 (m2192 13) := by rw [em2193]; exact sf_k1
                    have W2203 : rf_W [10, 12, 13, 14] m m2192 := by rw [em2193]; exact W2187.put (by decide)
                    exact pm_R_ret pm_M179 (r := none) (pm_q179_2 (Nat.le_of_ble_eq_true rfl)) rfl (K m2192 0 h2189 T2190 F2194 W2203 (sf_aux40 _ _ _ _ e2173 ek2200 X_2034) (Or.inl (sf_aux41 _ _ _ _ e2173 ek2200 X_2034)))
                  · have B2204 : sf_B 59 59 z2081 := sf_eqL (Classical.not_not.mp c2188) sf_k59
                    refine pm_R_op pm_M179 (pc' := 259) (st' := [.int 4, .ref 41]) (pm_q179_2 (Nat.le_of_ble_eq_true rfl)) rfl rfl ?_
                    refine pm_R_br pm_M179 (pc' := 263) (pm_q179_2 (Nat.le_of_ble_eq_true rfl)) rfl ?_
                    refine rf_R_put pm_M179 T2176 (pc' := 266) (pm_q179_2 (Nat.le_of_ble_eq_true rfl)) rfl rfl (by decide) rfl rfl (sf_weak sf_k4 (by decide) (by decide)) rfl rfl (fun h2205 m2208 em2209 T2206 F2207 => ?_)
                    have F2210 := F2180.trans F2207 (by decide)
                    have B2211 : sf_B 0 600 (m2208 11) := by rw [em2209]; exact B2181
                    have ek2212 : (m2208 11).toInt = ((m 11)).toInt := by rw [em2209]; exact ek2182
                    have B2213 : sf_B 0 599 (m2208 12) := by rw [em2209]; exact B2183
                    have ek2214 : (m2208 12).toInt = ((m_2034 10)).toInt := by rw [em2209]; exact ek2184
                    have B2215 : sf_B 1 600 (m2208 10) := by rw [em2209]; exact B2185
                    have ek2216 : (m2208 10).toInt = (z2172).toInt := by rw [em2209]; exact ek2186
                    have B2217 : sf_B 4 4 (m2208 13) := by rw [em2209]; exact sf_k4
                    have W2219 : rf_W [10, 12, 13, 14] m m2208 := by rw [em2209]; exact W2187.put (by decide)
                    exact pm_R_ret pm_M179 (r := none) (pm_q179_2 (Nat.le_of_ble_eq_true rfl)) rfl (K m2208 0 h2205 T2206 F2210 W2219 (sf_aux40 _ _ _ _ e2173 ek2216 X_2034) (Or.inl (sf_aux41 _ _ _ _ e2173 ek2216 X_2034)))
                · have B2220 : sf_B 48 57 z2081 := sf_leL (Int32.not_lt.mp c2170) B2169 sf_k57
                  refine pm_R_op pm_M174 (pc' := 11) (st' := [.int 1]) rfl rfl rfl ?_
                  refine pm_R_br pm_M174 (pc' := 15) rfl rfl ?_
                  refine pm_R_ret pm_M174 (r := some (.int 1)) rfl rfl ?_
                  show pm_R _ 179 155 [.ref 41, .int z2081, .int 0] [.int 1] _ _
                  refine pm_R_br pm_M179 (pc' := 158) (st' := []) (pm_q179_1 (Nat.le_of_ble_eq_true rfl)) rfl ?_
                  refine pm_R_lo pm_M179 (pc' := 159) (pm_q179_1 (Nat.le_of_ble_eq_true rfl)) rfl rfl ?_
                  refine pm_R_op pm_M179 (pc' := 160) (st' := [.int 0, .ref 41]) (pm_q179_1 (Nat.le_of_ble_eq_true rfl)) rfl rfl ?_
                  refine rf_R_put pm_M179 T2129 (pc' := 163) (pm_q179_1 (Nat.le_of_ble_eq_true rfl)) rfl rfl (by decide) rfl rfl (sf_weak sf_k0 (by decide) (by decide)) rfl rfl (fun h2221 m2224 em2225 T2222 F2223 => ?_)
                  have F2226 := F2131.trans F2223 (by decide)
                  have B2227 : sf_B 0 600 (m2224 11) := by rw [em2225]; exact B2114
                  have ek2228 : (m2224 11).toInt = ((m 11)).toInt := by rw [em2225]; exact ek2115
                  have B2229 : sf_B 0 599 (m2224 10) := by rw [em2225]; exact B2116
                  have ek2230 : (m2224 10).toInt = ((m_2034 10)).toInt := by rw [em2225]; exact ek2117
                  have B2231 : sf_B 0 599 (m2224 12) := by rw [em2225]; exact B2118
                  have ek2232 : (m2224 12).toInt = ((m_2034 10)).toInt := by rw [em2225]; exact ek2119
                  have B2233 : sf_B 0 0 (m2224 14) := by rw [em2225]; exact sf_k0
                  have W2235 : rf_W [10, 12, 13, 14] m m2224 := by rw [em2225]; exact W2120.put (by decide)
                  refine pm_R_lo pm_M179 (pc' := 164) (pm_q179_1 (Nat.le_of_ble_eq_true rfl)) rfl rfl ?_
                  refine pm_R_cv pm_M179 (pc' := 167) (a := 41) (ra := []) (rest := []) (ls' := [.ref 41]) (pm_q179_1 (Nat.le_of_ble_eq_true rfl)) rfl (Or.inl rfl) pm_M180 T2222.2.1 rfl (by decide) (Nat.lt_of_lt_of_le (by decide) T2222.1) rfl rfl (Nat.le_of_ble_eq_true rfl) rfl rfl ?_
                  refine pm_R_lo pm_M180 (pc' := 1) rfl rfl rfl ?_
                  refine rf_R_get pm_M180 T2222 (pc' := 4) (v := .int (m_2034 10)) rfl rfl (congrArg (fun z => some (Value.int z)) (Int32.toInt_inj.mp (sf_aux37 _ _ ek2230))) rfl ?_
                  refine pm_R_lo pm_M180 (pc' := 5) rfl rfl rfl ?_
                  refine rf_R_get pm_M180 T2222 (pc' := 8) (v := .int (m 11)) rfl rfl (congrArg (fun z => some (Value.int z)) (Int32.toInt_inj.mp (sf_aux37 _ _ ek2228))) rfl ?_
                  refine pm_R_icmp pm_M180 (t := 27) (pc' := 11) rfl rfl rfl (fun c2236 => absurd c2236 (Int32.not_le.mpr (Int32.not_le.mp c2041))) (fun c2236 => ?_)
                  skip
                  refine pm_R_lo pm_M180 (pc' := 12) rfl rfl rfl ?_
                  refine rf_R_get pm_M180 T2222 (pc' := 15) (v := .ref 42) rfl rfl rfl rfl ?_
                  refine pm_R_lo pm_M180 (pc' := 16) rfl rfl rfl ?_
                  refine rf_R_get pm_M180 T2222 (pc' := 19) (v := .int (m_2034 10)) rfl rfl (congrArg (fun z => some (Value.int z)) (Int32.toInt_inj.mp (sf_aux37 _ _ ek2230))) rfl ?_
                  have e2237 := (F2223.cell (by decide) (F2130.cell (by decide) e2122))
                  refine pm_R_bald pm_M180 (pc' := 20) (v := z2079) rfl e2237 (Or.inl rfl) (by decide) (Nat.lt_of_lt_of_le (by decide) T2222.1) (sf_in B2074 (by decide) (by decide)) ez2080 rfl ?_
                  refine pm_R_op pm_M180 (pc' := 23) (st' := [.int 255, .int z2079]) rfl rfl rfl ?_
                  refine pm_R_op pm_M180 (pc' := 24) (st' := [.int z2081]) rfl (by show some (Value.int (z2079 &&& 255) :: _) = _; rw [← e2082]) rfl ?_
                  refine pm_R_br pm_M180 (pc' := 28) rfl rfl ?_
                  refine pm_R_ret pm_M180 (r := some (.int z2081)) rfl (pm_ret_i _) ?_
                  show pm_R _ 179 167 [.ref 41, .int z2081, .int 0] [.int z2081] _ _
                  refine pm_R_op pm_M179 (pc' := 169) (st' := [.int 48, .int z2081]) (pm_q179_1 (Nat.le_of_ble_eq_true rfl)) rfl rfl ?_
                  refine pm_R_op pm_M179 (pc' := 171) (st' := [.int 57, .int 48, .int z2081]) (pm_q179_1 (Nat.le_of_ble_eq_true rfl)) rfl rfl ?_
                  refine pm_R_cs pm_M179 (pc' := 174) (ra := [.int 57, .int 48, .int z2081]) (rest := []) (ls' := [.int z2081, .int 48, .int 57]) (pm_q179_1 (Nat.le_of_ble_eq_true rfl)) rfl (Or.inl rfl) pm_M174 rfl rfl (Nat.le_of_ble_eq_true rfl) rfl rfl ?_
                  refine pm_R_lo pm_M174 (pc' := 1) rfl rfl rfl ?_
                  refine pm_R_lo pm_M174 (pc' := 2) rfl rfl rfl ?_
                  refine pm_R_icmp pm_M174 (t := 14) (pc' := 5) rfl rfl rfl (fun c2243 => absurd c2243 (sf_nlt B2220 sf_k48 (by decide))) (fun c2243 => ?_)
                  skip
                  refine pm_R_lo pm_M174 (pc' := 6) rfl rfl rfl ?_
                  refine pm_R_lo pm_M174 (pc' := 7) rfl rfl rfl ?_
                  refine pm_R_icmp pm_M174 (t := 14) (pc' := 10) rfl rfl rfl (fun c2244 => absurd c2244 (sf_nlt sf_k57 B2220 (by decide))) (fun c2244 => ?_)
                  skip
                  refine pm_R_op pm_M174 (pc' := 11) (st' := [.int 1]) rfl rfl rfl ?_
                  refine pm_R_br pm_M174 (pc' := 15) rfl rfl ?_
                  refine pm_R_ret pm_M174 (r := some (.int 1)) rfl rfl ?_
                  show pm_R _ 179 174 [.ref 41, .int z2081, .int 0] [.int 1] _ _
                  refine pm_R_br pm_M179 (pc' := 177) (st' := []) (pm_q179_1 (Nat.le_of_ble_eq_true rfl)) rfl ?_
                  refine pm_R_lo pm_M179 (pc' := 178) (pm_q179_1 (Nat.le_of_ble_eq_true rfl)) rfl rfl ?_
                  refine pm_R_lo pm_M179 (pc' := 179) (pm_q179_1 (Nat.le_of_ble_eq_true rfl)) rfl rfl ?_
                  refine pm_R_op pm_M179 (pc' := 180) (st' := [.int 2, .int 0, .ref 41]) (pm_q179_1 (Nat.le_of_ble_eq_true rfl)) rfl rfl ?_
                  refine pm_R_br pm_M179 (pc' := 183) (st' := [.ref 41]) (pm_q179_1 (Nat.le_of_ble_eq_true rfl)) rfl ?_
                  refine pm_R_op pm_M179 (pc' := 185) (st' := [.int 10, .ref 41]) (pm_q179_1 (Nat.le_of_ble_eq_true rfl)) rfl rfl ?_
                  refine pm_R_lo pm_M179 (pc' := 186) (pm_q179_1 (Nat.le_of_ble_eq_true rfl)) rfl rfl ?_
                  refine rf_R_get pm_M179 T2222 (pc' := 189) (v := .int (m2224 14)) (pm_q179_1 (Nat.le_of_ble_eq_true rfl)) rfl rfl rfl ?_
                  refine sf_R_imul pm_M179 (pc' := 190) (pm_q179_1 (Nat.le_of_ble_eq_true rfl)) rfl sf_k10 B2233 (by decide) (by decide) (by decide) (fun z2245 e2246 B2247 => ?_)
                  refine pm_R_lo pm_M179 (pc' := 191) (pm_q179_1 (Nat.le_of_ble_eq_true rfl)) rfl rfl ?_
                  refine pm_R_cv pm_M179 (pc' := 194) (a := 41) (ra := []) (rest := [.int z2245, .ref 41]) (ls' := [.ref 41]) (pm_q179_1 (Nat.le_of_ble_eq_true rfl)) rfl (Or.inl rfl) pm_M180 T2222.2.1 rfl (by decide) (Nat.lt_of_lt_of_le (by decide) T2222.1) rfl rfl (Nat.le_of_ble_eq_true rfl) rfl rfl ?_
                  refine pm_R_lo pm_M180 (pc' := 1) rfl rfl rfl ?_
                  refine rf_R_get pm_M180 T2222 (pc' := 4) (v := .int (m_2034 10)) rfl rfl (congrArg (fun z => some (Value.int z)) (Int32.toInt_inj.mp (sf_aux37 _ _ ek2230))) rfl ?_
                  refine pm_R_lo pm_M180 (pc' := 5) rfl rfl rfl ?_
                  refine rf_R_get pm_M180 T2222 (pc' := 8) (v := .int (m 11)) rfl rfl (congrArg (fun z => some (Value.int z)) (Int32.toInt_inj.mp (sf_aux37 _ _ ek2228))) rfl ?_
                  refine pm_R_icmp pm_M180 (t := 27) (pc' := 11) rfl rfl rfl (fun c2248 => absurd c2248 (Int32.not_le.mpr (Int32.not_le.mp c2041))) (fun c2248 => ?_)
                  skip
                  refine pm_R_lo pm_M180 (pc' := 12) rfl rfl rfl ?_
                  refine rf_R_get pm_M180 T2222 (pc' := 15) (v := .ref 42) rfl rfl rfl rfl ?_
                  refine pm_R_lo pm_M180 (pc' := 16) rfl rfl rfl ?_
                  refine rf_R_get pm_M180 T2222 (pc' := 19) (v := .int (m_2034 10)) rfl rfl (congrArg (fun z => some (Value.int z)) (Int32.toInt_inj.mp (sf_aux37 _ _ ek2230))) rfl ?_
                  refine pm_R_bald pm_M180 (pc' := 20) (v := z2079) rfl e2237 (Or.inl rfl) (by decide) (Nat.lt_of_lt_of_le (by decide) T2222.1) (sf_in B2074 (by decide) (by decide)) ez2080 rfl ?_
                  refine pm_R_op pm_M180 (pc' := 23) (st' := [.int 255, .int z2079]) rfl rfl rfl ?_
                  refine pm_R_op pm_M180 (pc' := 24) (st' := [.int z2081]) rfl (by show some (Value.int (z2079 &&& 255) :: _) = _; rw [← e2082]) rfl ?_
                  refine pm_R_br pm_M180 (pc' := 28) rfl rfl ?_
                  refine pm_R_ret pm_M180 (r := some (.int z2081)) rfl (pm_ret_i _) ?_
                  show pm_R _ 179 194 [.ref 41, .int z2081, .int 0] [.int z2081, .int z2245, .ref 41] _ _
                  refine sf_R_iadd pm_M179 (pc' := 195) (pm_q179_1 (Nat.le_of_ble_eq_true rfl)) rfl B2247 B2220 (by decide) (by decide) (fun z2254 e2255 B2256 => ?_)
                  refine pm_R_op pm_M179 (pc' := 197) (st' := [.int 48, .int z2254, .ref 41]) (pm_q179_1 (Nat.le_of_ble_eq_true rfl)) rfl rfl ?_
                  refine sf_R_isub pm_M179 (pc' := 198) (pm_q179_1 (Nat.le_of_ble_eq_true rfl)) rfl B2256 sf_k48 (by decide) (by decide) (fun z2257 e2258 B2259 => ?_)
                  refine pm_R_br pm_M179 (pc' := 205) (pm_q179_1 (Nat.le_of_ble_eq_true rfl)) rfl ?_
                  refine rf_R_put pm_M179 T2222 (pc' := 208) (pm_q179_1 (Nat.le_of_ble_eq_true rfl)) rfl rfl (by decide) rfl rfl (sf_weak B2259 (by decide) (by decide)) rfl rfl (fun h2260 m2263 em2264 T2261 F2262 => ?_)
                  have F2265 := F2226.trans F2262 (by decide)
                  have B2266 : sf_B 0 600 (m2263 11) := by rw [em2264]; exact B2227
                  have ek2267 : (m2263 11).toInt = ((m 11)).toInt := by rw [em2264]; exact ek2228
                  have B2268 : sf_B 0 599 (m2263 10) := by rw [em2264]; exact B2229
                  have ek2269 : (m2263 10).toInt = ((m_2034 10)).toInt := by rw [em2264]; exact ek2230
                  have B2270 : sf_B 0 599 (m2263 12) := by rw [em2264]; exact B2231
                  have ek2271 : (m2263 12).toInt = ((m_2034 10)).toInt := by rw [em2264]; exact ek2232
                  have B2272 : sf_B 0 9 (m2263 14) := by rw [em2264]; exact B2259
                  have ek2273 : (m2263 14).toInt = (z2257).toInt := by rw [em2264]; rfl
                  have W2274 : rf_W [10, 12, 13, 14] m m2263 := by rw [em2264]; exact W2235.put (by decide)
                  refine pm_R_lo pm_M179 (pc' := 209) (pm_q179_1 (Nat.le_of_ble_eq_true rfl)) rfl rfl ?_
                  refine pm_R_op pm_M179 (pc' := 210) (st' := [.ref 41, .ref 41]) (pm_q179_1 (Nat.le_of_ble_eq_true rfl)) rfl rfl ?_
                  refine rf_R_get pm_M179 T2261 (pc' := 213) (v := .int (m_2034 10)) (pm_q179_1 (Nat.le_of_ble_eq_true rfl)) rfl (congrArg (fun z => some (Value.int z)) (Int32.toInt_inj.mp (sf_aux37 _ _ ek2269))) rfl ?_
                  refine pm_R_op pm_M179 (pc' := 214) (st' := [.int 1, .int (m_2034 10), .ref 41]) (pm_q179_1 (Nat.le_of_ble_eq_true rfl)) rfl rfl ?_
                  refine sf_R_iadd pm_M179 (pc' := 215) (pm_q179_1 (Nat.le_of_ble_eq_true rfl)) rfl B2074 sf_k1 (by decide) (by decide) (fun z2275 e2276 B2277 => ?_)
                  refine rf_R_put pm_M179 T2261 (pc' := 218) (pm_q179_1 (Nat.le_of_ble_eq_true rfl)) rfl rfl (by decide) rfl rfl (sf_weak B2277 (by decide) (by decide)) rfl rfl (fun h2278 m2281 em2282 T2279 F2280 => ?_)
                  have F2283 := F2265.trans F2280 (by decide)
                  have B2284 : sf_B 0 600 (m2281 11) := by rw [em2282]; exact B2266
                  have ek2285 : (m2281 11).toInt = ((m 11)).toInt := by rw [em2282]; exact ek2267
                  have B2286 : sf_B 0 599 (m2281 12) := by rw [em2282]; exact B2270
                  have ek2287 : (m2281 12).toInt = ((m_2034 10)).toInt := by rw [em2282]; exact ek2271
                  have B2288 : sf_B 0 9 (m2281 14) := by rw [em2282]; exact B2272
                  have ek2289 : (m2281 14).toInt = (z2257).toInt := by rw [em2282]; exact ek2273
                  have B2290 : sf_B 1 600 (m2281 10) := by rw [em2282]; exact B2277
                  have ek2291 : (m2281 10).toInt = (z2275).toInt := by rw [em2282]; rfl
                  have W2292 : rf_W [10, 12, 13, 14] m m2281 := by rw [em2282]; exact W2274.put (by decide)
                  refine pm_R_lo pm_M179 (pc' := 221) (ls' := [.ref 41, .int z2081, .int 1]) (st' := []) (pm_q179_1 (Nat.le_of_ble_eq_true rfl)) rfl rfl ?_
                  refine pm_R_br pm_M179 (pc' := 163) (pm_q179_1 (Nat.le_of_ble_eq_true rfl)) rfl ?_
                  refine pm_R_lo pm_M179 (pc' := 164) (pm_q179_1 (Nat.le_of_ble_eq_true rfl)) rfl rfl ?_
                  refine pm_R_cv pm_M179 (pc' := 167) (a := 41) (ra := []) (rest := []) (ls' := [.ref 41]) (pm_q179_1 (Nat.le_of_ble_eq_true rfl)) rfl (Or.inl rfl) pm_M180 T2279.2.1 rfl (by decide) (Nat.lt_of_lt_of_le (by decide) T2279.1) rfl rfl (Nat.le_of_ble_eq_true rfl) rfl rfl ?_
                  refine pm_R_lo pm_M180 (pc' := 1) rfl rfl rfl ?_
                  refine rf_R_get pm_M180 T2279 (pc' := 4) (v := .int z2275) rfl rfl (congrArg (fun z => some (Value.int z)) (Int32.toInt_inj.mp (sf_aux38 _ _ _ e2276 ek2291))) rfl ?_
                  refine pm_R_lo pm_M180 (pc' := 5) rfl rfl rfl ?_
                  refine rf_R_get pm_M180 T2279 (pc' := 8) (v := .int (m 11)) rfl rfl (congrArg (fun z => some (Value.int z)) (Int32.toInt_inj.mp (sf_aux37 _ _ ek2285))) rfl ?_
                  refine pm_R_icmp pm_M180 (t := 27) (pc' := 11) rfl rfl rfl (fun c2293 => ?_) (fun c2293 => ?_)
                  · skip
                    refine pm_R_op pm_M180 (pc' := 28) (st' := [.int (-1)]) rfl rfl rfl ?_
                    refine pm_R_ret pm_M180 (r := some (.int (-1))) rfl rfl ?_
                    show pm_R _ 179 167 [.ref 41, .int z2081, .int 1] [.int (-1)] _ _
                    refine pm_R_op pm_M179 (pc' := 169) (st' := [.int 48, .int (-1)]) (pm_q179_1 (Nat.le_of_ble_eq_true rfl)) rfl rfl ?_
                    refine pm_R_op pm_M179 (pc' := 171) (st' := [.int 57, .int 48, .int (-1)]) (pm_q179_1 (Nat.le_of_ble_eq_true rfl)) rfl rfl ?_
                    refine pm_R_cs pm_M179 (pc' := 174) (ra := [.int 57, .int 48, .int (-1)]) (rest := []) (ls' := [.int (-1), .int 48, .int 57]) (pm_q179_1 (Nat.le_of_ble_eq_true rfl)) rfl (Or.inl rfl) pm_M174 rfl rfl (Nat.le_of_ble_eq_true rfl) rfl rfl ?_
                    refine pm_R_lo pm_M174 (pc' := 1) rfl rfl rfl ?_
                    refine pm_R_lo pm_M174 (pc' := 2) rfl rfl rfl ?_
                    refine pm_R_br pm_M174 (pc' := 14) (st' := []) rfl rfl ?_
                    refine pm_R_op pm_M174 (pc' := 15) (st' := [.int 0]) rfl rfl rfl ?_
                    refine pm_R_ret pm_M174 (r := some (.int 0)) rfl rfl ?_
                    show pm_R _ 179 174 [.ref 41, .int z2081, .int 1] [.int 0] _ _
                    refine pm_R_br pm_M179 (pc' := 224) (st' := []) (pm_q179_1 (Nat.le_of_ble_eq_true rfl)) rfl ?_
                    refine pm_R_lo pm_M179 (pc' := 225) (pm_q179_1 (Nat.le_of_ble_eq_true rfl)) rfl rfl ?_
                    refine pm_R_lo pm_M179 (pc' := 226) (pm_q179_1 (Nat.le_of_ble_eq_true rfl)) rfl rfl ?_
                    refine pm_R_op pm_M179 (pc' := 227) (st' := [.int 2, .int 1, .ref 41]) (pm_q179_1 (Nat.le_of_ble_eq_true rfl)) rfl rfl ?_
                    refine pm_R_br pm_M179 (pc' := 234) (st' := [.ref 41]) (pm_q179_1 (Nat.le_of_ble_eq_true rfl)) rfl ?_
                    refine pm_R_op pm_M179 (pc' := 235) (st' := [.int 3, .ref 41]) (pm_q179_2 (Nat.le_of_ble_eq_true rfl)) rfl rfl ?_
                    refine rf_R_put pm_M179 T2279 (pc' := 238) (pm_q179_2 (Nat.le_of_ble_eq_true rfl)) rfl rfl (by decide) rfl rfl (sf_weak sf_k3 (by decide) (by decide)) rfl rfl (fun h2294 m2297 em2298 T2295 F2296 => ?_)
                    have F2299 := F2283.trans F2296 (by decide)
                    have B2300 : sf_B 0 600 (m2297 11) := by rw [em2298]; exact B2284
                    have ek2301 : (m2297 11).toInt = ((m 11)).toInt := by rw [em2298]; exact ek2285
                    have B2302 : sf_B 0 599 (m2297 12) := by rw [em2298]; exact B2286
                    have ek2303 : (m2297 12).toInt = ((m_2034 10)).toInt := by rw [em2298]; exact ek2287
                    have B2304 : sf_B 0 9 (m2297 14) := by rw [em2298]; exact B2288
                    have ek2305 : (m2297 14).toInt = (z2257).toInt := by rw [em2298]; exact ek2289
                    have B2306 : sf_B 1 600 (m2297 10) := by rw [em2298]; exact B2290
                    have ek2307 : (m2297 10).toInt = (z2275).toInt := by rw [em2298]; exact ek2291
                    have B2308 : sf_B 3 3 (m2297 13) := by rw [em2298]; exact sf_k3
                    have W2310 : rf_W [10, 12, 13, 14] m m2297 := by rw [em2298]; exact W2292.put (by decide)
                    refine pm_R_br pm_M179 (pc' := 266) (pm_q179_2 (Nat.le_of_ble_eq_true rfl)) rfl ?_
                    exact pm_R_ret pm_M179 (r := none) (pm_q179_2 (Nat.le_of_ble_eq_true rfl)) rfl (K m2297 0 h2294 T2295 F2299 W2310 (sf_aux40 _ _ _ _ e2276 ek2307 X_2034) (Or.inl (sf_aux41 _ _ _ _ e2276 ek2307 X_2034)))
                  · have B2311 : sf_B 1 599 z2275 := sf_ltL (Int32.not_le.mp c2293) B2277 B2075
                    have B2312 : sf_B 2 600 (m 11) := sf_ltR (Int32.not_le.mp c2293) B2277 B2075
                    have B2313 : sf_B 0 598 (m_2034 10) := sf_addL e2276 B2311 sf_k1 B2074
                    refine pm_R_lo pm_M180 (pc' := 12) rfl rfl rfl ?_
                    refine rf_R_get pm_M180 T2279 (pc' := 15) (v := .ref 42) rfl rfl rfl rfl ?_
                    refine pm_R_lo pm_M180 (pc' := 16) rfl rfl rfl ?_
                    refine rf_R_get pm_M180 T2279 (pc' := 19) (v := .int z2275) rfl rfl (congrArg (fun z => some (Value.int z)) (Int32.toInt_inj.mp (sf_aux38 _ _ _ e2276 ek2291))) rfl ?_
                    have e2314 := (F2280.cell (by decide) (F2262.cell (by decide) e2237))
                    refine rf_R_bld pm_M180 T2279 (pc' := 20) rfl e2314 (Or.inl rfl) (by decide) (by decide) (sf_in B2311 (by decide) (by decide)) rfl (fun z2315 ez2316 => ?_)
                    refine pm_R_op pm_M180 (pc' := 23) (st' := [.int 255, .int z2315]) rfl rfl rfl ?_
                    refine sf_R_iandE pm_M180 (pc' := 24) rfl rfl sf_k255 (by decide) (fun z2317 e2318 B2319 => ?_)
                    refine pm_R_br pm_M180 (pc' := 28) rfl rfl ?_
                    refine pm_R_ret pm_M180 (r := some (.int z2317)) rfl (pm_ret_i _) ?_
                    show pm_R _ 179 167 [.ref 41, .int z2081, .int 1] [.int z2317] _ _
                    refine pm_R_op pm_M179 (pc' := 169) (st' := [.int 48, .int z2317]) (pm_q179_1 (Nat.le_of_ble_eq_true rfl)) rfl rfl ?_
                    refine pm_R_op pm_M179 (pc' := 171) (st' := [.int 57, .int 48, .int z2317]) (pm_q179_1 (Nat.le_of_ble_eq_true rfl)) rfl rfl ?_
                    refine pm_R_cs pm_M179 (pc' := 174) (ra := [.int 57, .int 48, .int z2317]) (rest := []) (ls' := [.int z2317, .int 48, .int 57]) (pm_q179_1 (Nat.le_of_ble_eq_true rfl)) rfl (Or.inl rfl) pm_M174 rfl rfl (Nat.le_of_ble_eq_true rfl) rfl rfl ?_
                    refine pm_R_lo pm_M174 (pc' := 1) rfl rfl rfl ?_
                    refine pm_R_lo pm_M174 (pc' := 2) rfl rfl rfl ?_
                    refine pm_R_icmp pm_M174 (t := 14) (pc' := 5) rfl rfl rfl (fun c2320 => ?_) (fun c2320 => ?_)
                    · have B2321 : sf_B 0 47 z2317 := sf_ltL c2320 B2319 sf_k48
                      refine pm_R_op pm_M174 (pc' := 15) (st' := [.int 0]) rfl rfl rfl ?_
                      refine pm_R_ret pm_M174 (r := some (.int 0)) rfl rfl ?_
                      show pm_R _ 179 174 [.ref 41, .int z2081, .int 1] [.int 0] _ _
                      refine pm_R_br pm_M179 (pc' := 224) (st' := []) (pm_q179_1 (Nat.le_of_ble_eq_true rfl)) rfl ?_
                      refine pm_R_lo pm_M179 (pc' := 225) (pm_q179_1 (Nat.le_of_ble_eq_true rfl)) rfl rfl ?_
                      refine pm_R_lo pm_M179 (pc' := 226) (pm_q179_1 (Nat.le_of_ble_eq_true rfl)) rfl rfl ?_
                      refine pm_R_op pm_M179 (pc' := 227) (st' := [.int 2, .int 1, .ref 41]) (pm_q179_1 (Nat.le_of_ble_eq_true rfl)) rfl rfl ?_
                      refine pm_R_br pm_M179 (pc' := 234) (st' := [.ref 41]) (pm_q179_1 (Nat.le_of_ble_eq_true rfl)) rfl ?_
                      refine pm_R_op pm_M179 (pc' := 235) (st' := [.int 3, .ref 41]) (pm_q179_2 (Nat.le_of_ble_eq_true rfl)) rfl rfl ?_
                      refine rf_R_put pm_M179 T2279 (pc' := 238) (pm_q179_2 (Nat.le_of_ble_eq_true rfl)) rfl rfl (by decide) rfl rfl (sf_weak sf_k3 (by decide) (by decide)) rfl rfl (fun h2322 m2325 em2326 T2323 F2324 => ?_)
                      have F2327 := F2283.trans F2324 (by decide)
                      have B2328 : sf_B 0 600 (m2325 11) := by rw [em2326]; exact B2284
                      have ek2329 : (m2325 11).toInt = ((m 11)).toInt := by rw [em2326]; exact ek2285
                      have B2330 : sf_B 0 599 (m2325 12) := by rw [em2326]; exact B2286
                      have ek2331 : (m2325 12).toInt = ((m_2034 10)).toInt := by rw [em2326]; exact ek2287
                      have B2332 : sf_B 0 9 (m2325 14) := by rw [em2326]; exact B2288
                      have ek2333 : (m2325 14).toInt = (z2257).toInt := by rw [em2326]; exact ek2289
                      have B2334 : sf_B 1 600 (m2325 10) := by rw [em2326]; exact B2290
                      have ek2335 : (m2325 10).toInt = (z2275).toInt := by rw [em2326]; exact ek2291
                      have B2336 : sf_B 3 3 (m2325 13) := by rw [em2326]; exact sf_k3
                      have W2338 : rf_W [10, 12, 13, 14] m m2325 := by rw [em2326]; exact W2292.put (by decide)
                      refine pm_R_br pm_M179 (pc' := 266) (pm_q179_2 (Nat.le_of_ble_eq_true rfl)) rfl ?_
                      exact pm_R_ret pm_M179 (r := none) (pm_q179_2 (Nat.le_of_ble_eq_true rfl)) rfl (K m2325 0 h2322 T2323 F2327 W2338 (sf_aux40 _ _ _ _ e2276 ek2335 X_2034) (Or.inl (sf_aux41 _ _ _ _ e2276 ek2335 X_2034)))
                    · have B2339 : sf_B 48 255 z2317 := sf_leR (Int32.not_lt.mp c2320) sf_k48 B2319
                      refine pm_R_lo pm_M174 (pc' := 6) rfl rfl rfl ?_
                      refine pm_R_lo pm_M174 (pc' := 7) rfl rfl rfl ?_
                      refine pm_R_icmp pm_M174 (t := 14) (pc' := 10) rfl rfl rfl (fun c2340 => ?_) (fun c2340 => ?_)
                      · have B2341 : sf_B 58 255 z2317 := sf_ltR c2340 sf_k57 B2339
                        refine pm_R_op pm_M174 (pc' := 15) (st' := [.int 0]) rfl rfl rfl ?_
                        refine pm_R_ret pm_M174 (r := some (.int 0)) rfl rfl ?_
                        show pm_R _ 179 174 [.ref 41, .int z2081, .int 1] [.int 0] _ _
                        refine pm_R_br pm_M179 (pc' := 224) (st' := []) (pm_q179_1 (Nat.le_of_ble_eq_true rfl)) rfl ?_
                        refine pm_R_lo pm_M179 (pc' := 225) (pm_q179_1 (Nat.le_of_ble_eq_true rfl)) rfl rfl ?_
                        refine pm_R_lo pm_M179 (pc' := 226) (pm_q179_1 (Nat.le_of_ble_eq_true rfl)) rfl rfl ?_
                        refine pm_R_op pm_M179 (pc' := 227) (st' := [.int 2, .int 1, .ref 41]) (pm_q179_1 (Nat.le_of_ble_eq_true rfl)) rfl rfl ?_
                        refine pm_R_br pm_M179 (pc' := 234) (st' := [.ref 41]) (pm_q179_1 (Nat.le_of_ble_eq_true rfl)) rfl ?_
                        refine pm_R_op pm_M179 (pc' := 235) (st' := [.int 3, .ref 41]) (pm_q179_2 (Nat.le_of_ble_eq_true rfl)) rfl rfl ?_
                        refine rf_R_put pm_M179 T2279 (pc' := 238) (pm_q179_2 (Nat.le_of_ble_eq_true rfl)) rfl rfl (by decide) rfl rfl (sf_weak sf_k3 (by decide) (by decide)) rfl rfl (fun h2342 m2345 em2346 T2343 F2344 => ?_)
                        have F2347 := F2283.trans F2344 (by decide)
                        have B2348 : sf_B 0 600 (m2345 11) := by rw [em2346]; exact B2284
                        have ek2349 : (m2345 11).toInt = ((m 11)).toInt := by rw [em2346]; exact ek2285
                        have B2350 : sf_B 0 599 (m2345 12) := by rw [em2346]; exact B2286
                        have ek2351 : (m2345 12).toInt = ((m_2034 10)).toInt := by rw [em2346]; exact ek2287
                        have B2352 : sf_B 0 9 (m2345 14) := by rw [em2346]; exact B2288
                        have ek2353 : (m2345 14).toInt = (z2257).toInt := by rw [em2346]; exact ek2289
                        have B2354 : sf_B 1 600 (m2345 10) := by rw [em2346]; exact B2290
                        have ek2355 : (m2345 10).toInt = (z2275).toInt := by rw [em2346]; exact ek2291
                        have B2356 : sf_B 3 3 (m2345 13) := by rw [em2346]; exact sf_k3
                        have W2358 : rf_W [10, 12, 13, 14] m m2345 := by rw [em2346]; exact W2292.put (by decide)
                        refine pm_R_br pm_M179 (pc' := 266) (pm_q179_2 (Nat.le_of_ble_eq_true rfl)) rfl ?_
                        exact pm_R_ret pm_M179 (r := none) (pm_q179_2 (Nat.le_of_ble_eq_true rfl)) rfl (K m2345 0 h2342 T2343 F2347 W2358 (sf_aux40 _ _ _ _ e2276 ek2355 X_2034) (Or.inl (sf_aux41 _ _ _ _ e2276 ek2355 X_2034)))
                      · have B2359 : sf_B 48 57 z2317 := sf_leL (Int32.not_lt.mp c2340) B2339 sf_k57
                        refine pm_R_op pm_M174 (pc' := 11) (st' := [.int 1]) rfl rfl rfl ?_
                        refine pm_R_br pm_M174 (pc' := 15) rfl rfl ?_
                        refine pm_R_ret pm_M174 (r := some (.int 1)) rfl rfl ?_
                        show pm_R _ 179 174 [.ref 41, .int z2081, .int 1] [.int 1] _ _
                        refine pm_R_br pm_M179 (pc' := 177) (st' := []) (pm_q179_1 (Nat.le_of_ble_eq_true rfl)) rfl ?_
                        refine pm_R_lo pm_M179 (pc' := 178) (pm_q179_1 (Nat.le_of_ble_eq_true rfl)) rfl rfl ?_
                        refine pm_R_lo pm_M179 (pc' := 179) (pm_q179_1 (Nat.le_of_ble_eq_true rfl)) rfl rfl ?_
                        refine pm_R_op pm_M179 (pc' := 180) (st' := [.int 2, .int 1, .ref 41]) (pm_q179_1 (Nat.le_of_ble_eq_true rfl)) rfl rfl ?_
                        refine pm_R_br pm_M179 (pc' := 183) (st' := [.ref 41]) (pm_q179_1 (Nat.le_of_ble_eq_true rfl)) rfl ?_
                        refine pm_R_op pm_M179 (pc' := 185) (st' := [.int 10, .ref 41]) (pm_q179_1 (Nat.le_of_ble_eq_true rfl)) rfl rfl ?_
                        refine pm_R_lo pm_M179 (pc' := 186) (pm_q179_1 (Nat.le_of_ble_eq_true rfl)) rfl rfl ?_
                        refine rf_R_get pm_M179 T2279 (pc' := 189) (v := .int (m2281 14)) (pm_q179_1 (Nat.le_of_ble_eq_true rfl)) rfl rfl rfl ?_
                        refine sf_R_imul pm_M179 (pc' := 190) (pm_q179_1 (Nat.le_of_ble_eq_true rfl)) rfl sf_k10 B2288 (by decide) (by decide) (by decide) (fun z2360 e2361 B2362 => ?_)
                        refine pm_R_lo pm_M179 (pc' := 191) (pm_q179_1 (Nat.le_of_ble_eq_true rfl)) rfl rfl ?_
                        refine pm_R_cv pm_M179 (pc' := 194) (a := 41) (ra := []) (rest := [.int z2360, .ref 41]) (ls' := [.ref 41]) (pm_q179_1 (Nat.le_of_ble_eq_true rfl)) rfl (Or.inl rfl) pm_M180 T2279.2.1 rfl (by decide) (Nat.lt_of_lt_of_le (by decide) T2279.1) rfl rfl (Nat.le_of_ble_eq_true rfl) rfl rfl ?_
                        refine pm_R_lo pm_M180 (pc' := 1) rfl rfl rfl ?_
                        refine rf_R_get pm_M180 T2279 (pc' := 4) (v := .int z2275) rfl rfl (congrArg (fun z => some (Value.int z)) (Int32.toInt_inj.mp (sf_aux38 _ _ _ e2276 ek2291))) rfl ?_
                        refine pm_R_lo pm_M180 (pc' := 5) rfl rfl rfl ?_
                        refine rf_R_get pm_M180 T2279 (pc' := 8) (v := .int (m 11)) rfl rfl (congrArg (fun z => some (Value.int z)) (Int32.toInt_inj.mp (sf_aux37 _ _ ek2285))) rfl ?_
                        refine pm_R_icmp pm_M180 (t := 27) (pc' := 11) rfl rfl rfl (fun c2363 => absurd c2363 (Int32.not_le.mpr (Int32.not_le.mp c2293))) (fun c2363 => ?_)
                        skip
                        refine pm_R_lo pm_M180 (pc' := 12) rfl rfl rfl ?_
                        refine rf_R_get pm_M180 T2279 (pc' := 15) (v := .ref 42) rfl rfl rfl rfl ?_
                        refine pm_R_lo pm_M180 (pc' := 16) rfl rfl rfl ?_
                        refine rf_R_get pm_M180 T2279 (pc' := 19) (v := .int z2275) rfl rfl (congrArg (fun z => some (Value.int z)) (Int32.toInt_inj.mp (sf_aux38 _ _ _ e2276 ek2291))) rfl ?_
                        refine pm_R_bald pm_M180 (pc' := 20) (v := z2315) rfl e2314 (Or.inl rfl) (by decide) (Nat.lt_of_lt_of_le (by decide) T2279.1) (sf_in B2311 (by decide) (by decide)) ez2316 rfl ?_
                        refine pm_R_op pm_M180 (pc' := 23) (st' := [.int 255, .int z2315]) rfl rfl rfl ?_
                        refine pm_R_op pm_M180 (pc' := 24) (st' := [.int z2317]) rfl (by show some (Value.int (z2315 &&& 255) :: _) = _; rw [← e2318]) rfl ?_
                        refine pm_R_br pm_M180 (pc' := 28) rfl rfl ?_
                        refine pm_R_ret pm_M180 (r := some (.int z2317)) rfl (pm_ret_i _) ?_
                        show pm_R _ 179 194 [.ref 41, .int z2081, .int 1] [.int z2317, .int z2360, .ref 41] _ _
                        refine sf_R_iadd pm_M179 (pc' := 195) (pm_q179_1 (Nat.le_of_ble_eq_true rfl)) rfl B2362 B2359 (by decide) (by decide) (fun z2369 e2370 B2371 => ?_)
                        refine pm_R_op pm_M179 (pc' := 197) (st' := [.int 48, .int z2369, .ref 41]) (pm_q179_1 (Nat.le_of_ble_eq_true rfl)) rfl rfl ?_
                        refine sf_R_isub pm_M179 (pc' := 198) (pm_q179_1 (Nat.le_of_ble_eq_true rfl)) rfl B2371 sf_k48 (by decide) (by decide) (fun z2372 e2373 B2374 => ?_)
                        refine pm_R_br pm_M179 (pc' := 205) (pm_q179_1 (Nat.le_of_ble_eq_true rfl)) rfl ?_
                        refine rf_R_put pm_M179 T2279 (pc' := 208) (pm_q179_1 (Nat.le_of_ble_eq_true rfl)) rfl rfl (by decide) rfl rfl B2374 rfl rfl (fun h2375 m2378 em2379 T2376 F2377 => ?_)
                        have F2380 := F2283.trans F2377 (by decide)
                        have B2381 : sf_B 0 600 (m2378 11) := by rw [em2379]; exact B2284
                        have ek2382 : (m2378 11).toInt = ((m 11)).toInt := by rw [em2379]; exact ek2285
                        have B2383 : sf_B 0 599 (m2378 12) := by rw [em2379]; exact B2286
                        have ek2384 : (m2378 12).toInt = ((m_2034 10)).toInt := by rw [em2379]; exact ek2287
                        have B2385 : sf_B 1 600 (m2378 10) := by rw [em2379]; exact B2290
                        have ek2386 : (m2378 10).toInt = (z2275).toInt := by rw [em2379]; exact ek2291
                        have B2387 : sf_B 0 99 (m2378 14) := by rw [em2379]; exact B2374
                        have ek2388 : (m2378 14).toInt = (z2372).toInt := by rw [em2379]; rfl
                        have W2389 : rf_W [10, 12, 13, 14] m m2378 := by rw [em2379]; exact W2292.put (by decide)
                        refine pm_R_lo pm_M179 (pc' := 209) (pm_q179_1 (Nat.le_of_ble_eq_true rfl)) rfl rfl ?_
                        refine pm_R_op pm_M179 (pc' := 210) (st' := [.ref 41, .ref 41]) (pm_q179_1 (Nat.le_of_ble_eq_true rfl)) rfl rfl ?_
                        refine rf_R_get pm_M179 T2376 (pc' := 213) (v := .int z2275) (pm_q179_1 (Nat.le_of_ble_eq_true rfl)) rfl (congrArg (fun z => some (Value.int z)) (Int32.toInt_inj.mp (sf_aux38 _ _ _ e2276 ek2386))) rfl ?_
                        refine pm_R_op pm_M179 (pc' := 214) (st' := [.int 1, .int z2275, .ref 41]) (pm_q179_1 (Nat.le_of_ble_eq_true rfl)) rfl rfl ?_
                        refine sf_R_iadd pm_M179 (pc' := 215) (pm_q179_1 (Nat.le_of_ble_eq_true rfl)) rfl B2311 sf_k1 (by decide) (by decide) (fun z2390 e2391 B2392 => ?_)
                        refine rf_R_put pm_M179 T2376 (pc' := 218) (pm_q179_1 (Nat.le_of_ble_eq_true rfl)) rfl rfl (by decide) rfl rfl (sf_weak B2392 (by decide) (by decide)) rfl rfl (fun h2393 m2396 em2397 T2394 F2395 => ?_)
                        have F2398 := F2380.trans F2395 (by decide)
                        have B2399 : sf_B 0 600 (m2396 11) := by rw [em2397]; exact B2381
                        have ek2400 : (m2396 11).toInt = ((m 11)).toInt := by rw [em2397]; exact ek2382
                        have B2401 : sf_B 0 599 (m2396 12) := by rw [em2397]; exact B2383
                        have ek2402 : (m2396 12).toInt = ((m_2034 10)).toInt := by rw [em2397]; exact ek2384
                        have B2403 : sf_B 2 600 (m2396 10) := by rw [em2397]; exact B2392
                        have ek2404 : (m2396 10).toInt = (z2390).toInt := by rw [em2397]; rfl
                        have W2405 : rf_W [10, 12, 13, 14] m m2396 := by rw [em2397]; exact W2389.put (by decide)
                        refine pm_R_lo pm_M179 (pc' := 221) (ls' := [.ref 41, .int z2081, .int 2]) (st' := []) (pm_q179_1 (Nat.le_of_ble_eq_true rfl)) rfl rfl ?_
                        refine pm_R_br pm_M179 (pc' := 163) (pm_q179_1 (Nat.le_of_ble_eq_true rfl)) rfl ?_
                        have L_2824 : ∀ (N : Nat) (h_2824 : pm_H) (m_2824 : Nat → Int32) (w_2824 : Int64) (x2_2824 : Int32), rf_T m_2824 w_2824 h_2824 → rf_G [41] h h_2824 → rf_W [10, 14] m2396 m_2824 → sf_B 2 600 x2_2824 → x2_2824.toInt ≤ (m_2824 10).toInt → (m 10).toInt + 1 ≤ (m_2824 10).toInt → (600 - (m_2824 10).toInt).toNat = N → pm_R (d + 1) 179 163 [.ref 41, .int z2081, .int x2_2824] [] h_2824 Q := by
                          intro N
                          induction N using Nat.strongRecOn with
                          | ind N ih_2824 =>
                            intro h_2824 m_2824 w_2824 x2_2824 T_2824 F_2824 W_2824 Bx2_2824 R0_2824 X_2824 hN_2824
                            have B2828 : sf_B 0 600 (m_2824 11) := by rw [W_2824 11 (by decide)]; exact B2399
                            have ek2829 : (m_2824 11).toInt = ((m 11)).toInt := by rw [W_2824 11 (by decide)]; exact ek2400
                            have B2830 : sf_B 0 599 (m_2824 12) := by rw [W_2824 12 (by decide)]; exact B2401
                            have ek2831 : (m_2824 12).toInt = ((m_2034 10)).toInt := by rw [W_2824 12 (by decide)]; exact ek2402
                            have W2832 : rf_W [10, 12, 13, 14] m m_2824 := W2405.trans W_2824 (by decide)
                            have B2833 : sf_B 0 600 (m_2824 10) := T_2824.2.2.1 10
                            refine pm_R_lo pm_M179 (pc' := 164) (pm_q179_1 (Nat.le_of_ble_eq_true rfl)) rfl rfl ?_
                            refine pm_R_cv pm_M179 (pc' := 167) (a := 41) (ra := []) (rest := []) (ls' := [.ref 41]) (pm_q179_1 (Nat.le_of_ble_eq_true rfl)) rfl (Or.inl rfl) pm_M180 T_2824.2.1 rfl (by decide) (Nat.lt_of_lt_of_le (by decide) T_2824.1) rfl rfl (Nat.le_of_ble_eq_true rfl) rfl rfl ?_
                            refine pm_R_lo pm_M180 (pc' := 1) rfl rfl rfl ?_
                            refine rf_R_get pm_M180 T_2824 (pc' := 4) (v := .int (m_2824 10)) rfl rfl rfl rfl ?_
                            refine pm_R_lo pm_M180 (pc' := 5) rfl rfl rfl ?_
                            refine rf_R_get pm_M180 T_2824 (pc' := 8) (v := .int (m 11)) rfl rfl (congrArg (fun z => some (Value.int z)) (Int32.toInt_inj.mp (sf_aux37 _ _ ek2829))) rfl ?_
                            refine pm_R_icmp pm_M180 (t := 27) (pc' := 11) rfl rfl rfl (fun c2834 => ?_) (fun c2834 => ?_)
                            · have B2835 : sf_B 2 600 (m_2824 10) := sf_leR c2834 B2312 B2833
                              refine pm_R_op pm_M180 (pc' := 28) (st' := [.int (-1)]) rfl rfl rfl ?_
                              refine pm_R_ret pm_M180 (r := some (.int (-1))) rfl rfl ?_
                              show pm_R _ 179 167 [.ref 41, .int z2081, .int x2_2824] [.int (-1)] _ _
                              refine pm_R_op pm_M179 (pc' := 169) (st' := [.int 48, .int (-1)]) (pm_q179_1 (Nat.le_of_ble_eq_true rfl)) rfl rfl ?_
                              refine pm_R_op pm_M179 (pc' := 171) (st' := [.int 57, .int 48, .int (-1)]) (pm_q179_1 (Nat.le_of_ble_eq_true rfl)) rfl rfl ?_
                              refine pm_R_cs pm_M179 (pc' := 174) (ra := [.int 57, .int 48, .int (-1)]) (rest := []) (ls' := [.int (-1), .int 48, .int 57]) (pm_q179_1 (Nat.le_of_ble_eq_true rfl)) rfl (Or.inl rfl) pm_M174 rfl rfl (Nat.le_of_ble_eq_true rfl) rfl rfl ?_
                              refine pm_R_lo pm_M174 (pc' := 1) rfl rfl rfl ?_
                              refine pm_R_lo pm_M174 (pc' := 2) rfl rfl rfl ?_
                              refine pm_R_br pm_M174 (pc' := 14) (st' := []) rfl rfl ?_
                              refine pm_R_op pm_M174 (pc' := 15) (st' := [.int 0]) rfl rfl rfl ?_
                              refine pm_R_ret pm_M174 (r := some (.int 0)) rfl rfl ?_
                              show pm_R _ 179 174 [.ref 41, .int z2081, .int x2_2824] [.int 0] _ _
                              refine pm_R_br pm_M179 (pc' := 224) (st' := []) (pm_q179_1 (Nat.le_of_ble_eq_true rfl)) rfl ?_
                              refine pm_R_lo pm_M179 (pc' := 225) (pm_q179_1 (Nat.le_of_ble_eq_true rfl)) rfl rfl ?_
                              refine pm_R_lo pm_M179 (pc' := 226) (pm_q179_1 (Nat.le_of_ble_eq_true rfl)) rfl rfl ?_
                              refine pm_R_op pm_M179 (pc' := 227) (st' := [.int 2, .int x2_2824, .ref 41]) (pm_q179_1 (Nat.le_of_ble_eq_true rfl)) rfl rfl ?_
                              refine pm_R_icmp pm_M179 (t := 234) (pc' := 230) (pm_q179_1 (Nat.le_of_ble_eq_true rfl)) rfl rfl (fun c2836 => ?_) (fun c2836 => ?_)
                              · have B2837 : sf_B 2 2 x2_2824 := sf_leL c2836 Bx2_2824 sf_k2
                                refine pm_R_op pm_M179 (pc' := 235) (st' := [.int 3, .ref 41]) (pm_q179_2 (Nat.le_of_ble_eq_true rfl)) rfl rfl ?_
                                refine rf_R_put pm_M179 T_2824 (pc' := 238) (pm_q179_2 (Nat.le_of_ble_eq_true rfl)) rfl rfl (by decide) rfl rfl (sf_weak sf_k3 (by decide) (by decide)) rfl rfl (fun h2838 m2841 em2842 T2839 F2840 => ?_)
                                have F2843 := F_2824.trans F2840 (by decide)
                                have B2844 : sf_B 0 600 (m2841 11) := by rw [em2842]; exact B2828
                                have ek2845 : (m2841 11).toInt = ((m 11)).toInt := by rw [em2842]; exact ek2829
                                have B2846 : sf_B 0 599 (m2841 12) := by rw [em2842]; exact B2830
                                have ek2847 : (m2841 12).toInt = ((m_2034 10)).toInt := by rw [em2842]; exact ek2831
                                have B2848 : sf_B 2 600 (m2841 10) := by rw [em2842]; exact B2835
                                have ek2849 : (m2841 10).toInt = ((m_2824 10)).toInt := by rw [em2842]; rfl
                                have B2850 : sf_B 3 3 (m2841 13) := by rw [em2842]; exact sf_k3
                                have W2852 : rf_W [10, 12, 13, 14] m m2841 := by rw [em2842]; exact W2832.put (by decide)
                                refine pm_R_br pm_M179 (pc' := 266) (pm_q179_2 (Nat.le_of_ble_eq_true rfl)) rfl ?_
                                exact pm_R_ret pm_M179 (r := none) (pm_q179_2 (Nat.le_of_ble_eq_true rfl)) rfl (K m2841 w_2824 h2838 T2839 F2843 W2852 (sf_aux43 _ _ _ ek2849 X_2824) (Or.inl (sf_aux42 _ _ _ ek2849 X_2824)))
                              · have B2853 : sf_B 3 600 x2_2824 := sf_ltR (Int32.not_le.mp c2836) sf_k2 Bx2_2824
                                refine pm_R_op pm_M179 (pc' := 231) (st' := [.int 1, .ref 41]) (pm_q179_1 (Nat.le_of_ble_eq_true rfl)) rfl rfl ?_
                                refine pm_R_br pm_M179 (pc' := 235) (pm_q179_1 (Nat.le_of_ble_eq_true rfl)) rfl ?_
                                refine rf_R_put pm_M179 T_2824 (pc' := 238) (pm_q179_2 (Nat.le_of_ble_eq_true rfl)) rfl rfl (by decide) rfl rfl (sf_weak sf_k1 (by decide) (by decide)) rfl rfl (fun h2854 m2857 em2858 T2855 F2856 => ?_)
                                have F2859 := F_2824.trans F2856 (by decide)
                                have B2860 : sf_B 0 600 (m2857 11) := by rw [em2858]; exact B2828
                                have ek2861 : (m2857 11).toInt = ((m 11)).toInt := by rw [em2858]; exact ek2829
                                have B2862 : sf_B 0 599 (m2857 12) := by rw [em2858]; exact B2830
                                have ek2863 : (m2857 12).toInt = ((m_2034 10)).toInt := by rw [em2858]; exact ek2831
                                have B2864 : sf_B 2 600 (m2857 10) := by rw [em2858]; exact B2835
                                have ek2865 : (m2857 10).toInt = ((m_2824 10)).toInt := by rw [em2858]; rfl
                                have B2866 : sf_B 1 1 (m2857 13) := by rw [em2858]; exact sf_k1
                                have W2868 : rf_W [10, 12, 13, 14] m m2857 := by rw [em2858]; exact W2832.put (by decide)
                                refine pm_R_br pm_M179 (pc' := 266) (pm_q179_2 (Nat.le_of_ble_eq_true rfl)) rfl ?_
                                exact pm_R_ret pm_M179 (r := none) (pm_q179_2 (Nat.le_of_ble_eq_true rfl)) rfl (K m2857 w_2824 h2854 T2855 F2859 W2868 (sf_aux43 _ _ _ ek2865 X_2824) (Or.inl (sf_aux42 _ _ _ ek2865 X_2824)))
                            · have B2869 : sf_B 0 599 (m_2824 10) := sf_ltL (Int32.not_le.mp c2834) B2833 B2312
                              have B2870 : sf_B 2 599 x2_2824 := sf_leT R0_2824 Bx2_2824 B2869
                              refine pm_R_lo pm_M180 (pc' := 12) rfl rfl rfl ?_
                              refine rf_R_get pm_M180 T_2824 (pc' := 15) (v := .ref 42) rfl rfl rfl rfl ?_
                              refine pm_R_lo pm_M180 (pc' := 16) rfl rfl rfl ?_
                              refine rf_R_get pm_M180 T_2824 (pc' := 19) (v := .int (m_2824 10)) rfl rfl rfl rfl ?_
                              obtain ⟨f2871, e2872⟩ := T_2824.2.2.2.1 42 (by decide) (by decide)
                              refine rf_R_bld pm_M180 T_2824 (pc' := 20) rfl e2872 (Or.inl rfl) (by decide) (by decide) (sf_in B2869 (by decide) (by decide)) rfl (fun z2874 ez2875 => ?_)
                              refine pm_R_op pm_M180 (pc' := 23) (st' := [.int 255, .int z2874]) rfl rfl rfl ?_
                              refine sf_R_iandE pm_M180 (pc' := 24) rfl rfl sf_k255 (by decide) (fun z2876 e2877 B2878 => ?_)
                              refine pm_R_br pm_M180 (pc' := 28) rfl rfl ?_
                              refine pm_R_ret pm_M180 (r := some (.int z2876)) rfl (pm_ret_i _) ?_
                              show pm_R _ 179 167 [.ref 41, .int z2081, .int x2_2824] [.int z2876] _ _
                              refine pm_R_op pm_M179 (pc' := 169) (st' := [.int 48, .int z2876]) (pm_q179_1 (Nat.le_of_ble_eq_true rfl)) rfl rfl ?_
                              refine pm_R_op pm_M179 (pc' := 171) (st' := [.int 57, .int 48, .int z2876]) (pm_q179_1 (Nat.le_of_ble_eq_true rfl)) rfl rfl ?_
                              refine pm_R_cs pm_M179 (pc' := 174) (ra := [.int 57, .int 48, .int z2876]) (rest := []) (ls' := [.int z2876, .int 48, .int 57]) (pm_q179_1 (Nat.le_of_ble_eq_true rfl)) rfl (Or.inl rfl) pm_M174 rfl rfl (Nat.le_of_ble_eq_true rfl) rfl rfl ?_
                              refine pm_R_lo pm_M174 (pc' := 1) rfl rfl rfl ?_
                              refine pm_R_lo pm_M174 (pc' := 2) rfl rfl rfl ?_
                              refine pm_R_icmp pm_M174 (t := 14) (pc' := 5) rfl rfl rfl (fun c2879 => ?_) (fun c2879 => ?_)
                              · have B2880 : sf_B 0 47 z2876 := sf_ltL c2879 B2878 sf_k48
                                refine pm_R_op pm_M174 (pc' := 15) (st' := [.int 0]) rfl rfl rfl ?_
                                refine pm_R_ret pm_M174 (r := some (.int 0)) rfl rfl ?_
                                show pm_R _ 179 174 [.ref 41, .int z2081, .int x2_2824] [.int 0] _ _
                                refine pm_R_br pm_M179 (pc' := 224) (st' := []) (pm_q179_1 (Nat.le_of_ble_eq_true rfl)) rfl ?_
                                refine pm_R_lo pm_M179 (pc' := 225) (pm_q179_1 (Nat.le_of_ble_eq_true rfl)) rfl rfl ?_
                                refine pm_R_lo pm_M179 (pc' := 226) (pm_q179_1 (Nat.le_of_ble_eq_true rfl)) rfl rfl ?_
                                refine pm_R_op pm_M179 (pc' := 227) (st' := [.int 2, .int x2_2824, .ref 41]) (pm_q179_1 (Nat.le_of_ble_eq_true rfl)) rfl rfl ?_
                                refine pm_R_icmp pm_M179 (t := 234) (pc' := 230) (pm_q179_1 (Nat.le_of_ble_eq_true rfl)) rfl rfl (fun c2881 => ?_) (fun c2881 => ?_)
                                · have B2882 : sf_B 2 2 x2_2824 := sf_leL c2881 B2870 sf_k2
                                  refine pm_R_op pm_M179 (pc' := 235) (st' := [.int 3, .ref 41]) (pm_q179_2 (Nat.le_of_ble_eq_true rfl)) rfl rfl ?_
                                  refine rf_R_put pm_M179 T_2824 (pc' := 238) (pm_q179_2 (Nat.le_of_ble_eq_true rfl)) rfl rfl (by decide) rfl rfl (sf_weak sf_k3 (by decide) (by decide)) rfl rfl (fun h2883 m2886 em2887 T2884 F2885 => ?_)
                                  have F2888 := F_2824.trans F2885 (by decide)
                                  have B2889 : sf_B 0 600 (m2886 11) := by rw [em2887]; exact B2828
                                  have ek2890 : (m2886 11).toInt = ((m 11)).toInt := by rw [em2887]; exact ek2829
                                  have B2891 : sf_B 0 599 (m2886 12) := by rw [em2887]; exact B2830
                                  have ek2892 : (m2886 12).toInt = ((m_2034 10)).toInt := by rw [em2887]; exact ek2831
                                  have B2893 : sf_B 0 599 (m2886 10) := by rw [em2887]; exact B2869
                                  have ek2894 : (m2886 10).toInt = ((m_2824 10)).toInt := by rw [em2887]; rfl
                                  have B2895 : sf_B 3 3 (m2886 13) := by rw [em2887]; exact sf_k3
                                  have W2897 : rf_W [10, 12, 13, 14] m m2886 := by rw [em2887]; exact W2832.put (by decide)
                                  refine pm_R_br pm_M179 (pc' := 266) (pm_q179_2 (Nat.le_of_ble_eq_true rfl)) rfl ?_
                                  exact pm_R_ret pm_M179 (r := none) (pm_q179_2 (Nat.le_of_ble_eq_true rfl)) rfl (K m2886 w_2824 h2883 T2884 F2888 W2897 (sf_aux43 _ _ _ ek2894 X_2824) (Or.inl (sf_aux42 _ _ _ ek2894 X_2824)))
                                · have B2898 : sf_B 3 599 x2_2824 := sf_ltR (Int32.not_le.mp c2881) sf_k2 B2870
                                  refine pm_R_op pm_M179 (pc' := 231) (st' := [.int 1, .ref 41]) (pm_q179_1 (Nat.le_of_ble_eq_true rfl)) rfl rfl ?_
                                  refine pm_R_br pm_M179 (pc' := 235) (pm_q179_1 (Nat.le_of_ble_eq_true rfl)) rfl ?_
                                  refine rf_R_put pm_M179 T_2824 (pc' := 238) (pm_q179_2 (Nat.le_of_ble_eq_true rfl)) rfl rfl (by decide) rfl rfl (sf_weak sf_k1 (by decide) (by decide)) rfl rfl (fun h2899 m2902 em2903 T2900 F2901 => ?_)
                                  have F2904 := F_2824.trans F2901 (by decide)
                                  have B2905 : sf_B 0 600 (m2902 11) := by rw [em2903]; exact B2828
                                  have ek2906 : (m2902 11).toInt = ((m 11)).toInt := by rw [em2903]; exact ek2829
                                  have B2907 : sf_B 0 599 (m2902 12) := by rw [em2903]; exact B2830
                                  have ek2908 : (m2902 12).toInt = ((m_2034 10)).toInt := by rw [em2903]; exact ek2831
                                  have B2909 : sf_B 0 599 (m2902 10) := by rw [em2903]; exact B2869
                                  have ek2910 : (m2902 10).toInt = ((m_2824 10)).toInt := by rw [em2903]; rfl
                                  have B2911 : sf_B 1 1 (m2902 13) := by rw [em2903]; exact sf_k1
                                  have W2913 : rf_W [10, 12, 13, 14] m m2902 := by rw [em2903]; exact W2832.put (by decide)
                                  refine pm_R_br pm_M179 (pc' := 266) (pm_q179_2 (Nat.le_of_ble_eq_true rfl)) rfl ?_
                                  exact pm_R_ret pm_M179 (r := none) (pm_q179_2 (Nat.le_of_ble_eq_true rfl)) rfl (K m2902 w_2824 h2899 T2900 F2904 W2913 (sf_aux43 _ _ _ ek2910 X_2824) (Or.inl (sf_aux42 _ _ _ ek2910 X_2824)))
                              · have B2914 : sf_B 48 255 z2876 := sf_leR (Int32.not_lt.mp c2879) sf_k48 B2878
                                refine pm_R_lo pm_M174 (pc' := 6) rfl rfl rfl ?_
                                refine pm_R_lo pm_M174 (pc' := 7) rfl rfl rfl ?_
                                refine pm_R_icmp pm_M174 (t := 14) (pc' := 10) rfl rfl rfl (fun c2915 => ?_) (fun c2915 => ?_)
                                · have B2916 : sf_B 58 255 z2876 := sf_ltR c2915 sf_k57 B2914
                                  refine pm_R_op pm_M174 (pc' := 15) (st' := [.int 0]) rfl rfl rfl ?_
                                  refine pm_R_ret pm_M174 (r := some (.int 0)) rfl rfl ?_
                                  show pm_R _ 179 174 [.ref 41, .int z2081, .int x2_2824] [.int 0] _ _
                                  refine pm_R_br pm_M179 (pc' := 224) (st' := []) (pm_q179_1 (Nat.le_of_ble_eq_true rfl)) rfl ?_
                                  refine pm_R_lo pm_M179 (pc' := 225) (pm_q179_1 (Nat.le_of_ble_eq_true rfl)) rfl rfl ?_
                                  refine pm_R_lo pm_M179 (pc' := 226) (pm_q179_1 (Nat.le_of_ble_eq_true rfl)) rfl rfl ?_
                                  refine pm_R_op pm_M179 (pc' := 227) (st' := [.int 2, .int x2_2824, .ref 41]) (pm_q179_1 (Nat.le_of_ble_eq_true rfl)) rfl rfl ?_
                                  refine pm_R_icmp pm_M179 (t := 234) (pc' := 230) (pm_q179_1 (Nat.le_of_ble_eq_true rfl)) rfl rfl (fun c2917 => ?_) (fun c2917 => ?_)
                                  · have B2918 : sf_B 2 2 x2_2824 := sf_leL c2917 B2870 sf_k2
                                    refine pm_R_op pm_M179 (pc' := 235) (st' := [.int 3, .ref 41]) (pm_q179_2 (Nat.le_of_ble_eq_true rfl)) rfl rfl ?_
                                    refine rf_R_put pm_M179 T_2824 (pc' := 238) (pm_q179_2 (Nat.le_of_ble_eq_true rfl)) rfl rfl (by decide) rfl rfl (sf_weak sf_k3 (by decide) (by decide)) rfl rfl (fun h2919 m2922 em2923 T2920 F2921 => ?_)
                                    have F2924 := F_2824.trans F2921 (by decide)
                                    have B2925 : sf_B 0 600 (m2922 11) := by rw [em2923]; exact B2828
                                    have ek2926 : (m2922 11).toInt = ((m 11)).toInt := by rw [em2923]; exact ek2829
                                    have B2927 : sf_B 0 599 (m2922 12) := by rw [em2923]; exact B2830
                                    have ek2928 : (m2922 12).toInt = ((m_2034 10)).toInt := by rw [em2923]; exact ek2831
                                    have B2929 : sf_B 0 599 (m2922 10) := by rw [em2923]; exact B2869
                                    have ek2930 : (m2922 10).toInt = ((m_2824 10)).toInt := by rw [em2923]; rfl
                                    have B2931 : sf_B 3 3 (m2922 13) := by rw [em2923]; exact sf_k3
                                    have W2933 : rf_W [10, 12, 13, 14] m m2922 := by rw [em2923]; exact W2832.put (by decide)
                                    refine pm_R_br pm_M179 (pc' := 266) (pm_q179_2 (Nat.le_of_ble_eq_true rfl)) rfl ?_
                                    exact pm_R_ret pm_M179 (r := none) (pm_q179_2 (Nat.le_of_ble_eq_true rfl)) rfl (K m2922 w_2824 h2919 T2920 F2924 W2933 (sf_aux43 _ _ _ ek2930 X_2824) (Or.inl (sf_aux42 _ _ _ ek2930 X_2824)))
                                  · have B2934 : sf_B 3 599 x2_2824 := sf_ltR (Int32.not_le.mp c2917) sf_k2 B2870
                                    refine pm_R_op pm_M179 (pc' := 231) (st' := [.int 1, .ref 41]) (pm_q179_1 (Nat.le_of_ble_eq_true rfl)) rfl rfl ?_
                                    refine pm_R_br pm_M179 (pc' := 235) (pm_q179_1 (Nat.le_of_ble_eq_true rfl)) rfl ?_
                                    refine rf_R_put pm_M179 T_2824 (pc' := 238) (pm_q179_2 (Nat.le_of_ble_eq_true rfl)) rfl rfl (by decide) rfl rfl (sf_weak sf_k1 (by decide) (by decide)) rfl rfl (fun h2935 m2938 em2939 T2936 F2937 => ?_)
                                    have F2940 := F_2824.trans F2937 (by decide)
                                    have B2941 : sf_B 0 600 (m2938 11) := by rw [em2939]; exact B2828
                                    have ek2942 : (m2938 11).toInt = ((m 11)).toInt := by rw [em2939]; exact ek2829
                                    have B2943 : sf_B 0 599 (m2938 12) := by rw [em2939]; exact B2830
                                    have ek2944 : (m2938 12).toInt = ((m_2034 10)).toInt := by rw [em2939]; exact ek2831
                                    have B2945 : sf_B 0 599 (m2938 10) := by rw [em2939]; exact B2869
                                    have ek2946 : (m2938 10).toInt = ((m_2824 10)).toInt := by rw [em2939]; rfl
                                    have B2947 : sf_B 1 1 (m2938 13) := by rw [em2939]; exact sf_k1
                                    have W2949 : rf_W [10, 12, 13, 14] m m2938 := by rw [em2939]; exact W2832.put (by decide)
                                    refine pm_R_br pm_M179 (pc' := 266) (pm_q179_2 (Nat.le_of_ble_eq_true rfl)) rfl ?_
                                    exact pm_R_ret pm_M179 (r := none) (pm_q179_2 (Nat.le_of_ble_eq_true rfl)) rfl (K m2938 w_2824 h2935 T2936 F2940 W2949 (sf_aux43 _ _ _ ek2946 X_2824) (Or.inl (sf_aux42 _ _ _ ek2946 X_2824)))
                                · have B2950 : sf_B 48 57 z2876 := sf_leL (Int32.not_lt.mp c2915) B2914 sf_k57
                                  refine pm_R_op pm_M174 (pc' := 11) (st' := [.int 1]) rfl rfl rfl ?_
                                  refine pm_R_br pm_M174 (pc' := 15) rfl rfl ?_
                                  refine pm_R_ret pm_M174 (r := some (.int 1)) rfl rfl ?_
                                  show pm_R _ 179 174 [.ref 41, .int z2081, .int x2_2824] [.int 1] _ _
                                  refine pm_R_br pm_M179 (pc' := 177) (st' := []) (pm_q179_1 (Nat.le_of_ble_eq_true rfl)) rfl ?_
                                  refine pm_R_lo pm_M179 (pc' := 178) (pm_q179_1 (Nat.le_of_ble_eq_true rfl)) rfl rfl ?_
                                  refine pm_R_lo pm_M179 (pc' := 179) (pm_q179_1 (Nat.le_of_ble_eq_true rfl)) rfl rfl ?_
                                  refine pm_R_op pm_M179 (pc' := 180) (st' := [.int 2, .int x2_2824, .ref 41]) (pm_q179_1 (Nat.le_of_ble_eq_true rfl)) rfl rfl ?_
                                  refine pm_R_icmp pm_M179 (t := 201) (pc' := 183) (pm_q179_1 (Nat.le_of_ble_eq_true rfl)) rfl rfl (fun c2951 => ?_) (fun c2951 => absurd (Int32.not_le.mp c2951) (sf_nlt B2870 sf_k2 (by decide)))
                                  skip
                                  refine pm_R_lo pm_M179 (pc' := 202) (pm_q179_1 (Nat.le_of_ble_eq_true rfl)) rfl rfl ?_
                                  have B2952 : sf_B 0 99 (m_2824 14) := T_2824.2.2.1 14
                                  refine rf_R_get pm_M179 T_2824 (pc' := 205) (v := .int (m_2824 14)) (pm_q179_1 (Nat.le_of_ble_eq_true rfl)) rfl rfl rfl ?_
                                  refine rf_R_put pm_M179 T_2824 (pc' := 208) (pm_q179_1 (Nat.le_of_ble_eq_true rfl)) rfl rfl (by decide) rfl rfl B2952 rfl rfl (fun h2953 m2956 em2957 T2954 F2955 => ?_)
                                  have F2958 := F_2824.trans F2955 (by decide)
                                  have B2959 : sf_B 0 600 (m2956 11) := by rw [em2957]; exact B2828
                                  have ek2960 : (m2956 11).toInt = ((m 11)).toInt := by rw [em2957]; exact ek2829
                                  have B2961 : sf_B 0 599 (m2956 12) := by rw [em2957]; exact B2830
                                  have ek2962 : (m2956 12).toInt = ((m_2034 10)).toInt := by rw [em2957]; exact ek2831
                                  have B2963 : sf_B 0 599 (m2956 10) := by rw [em2957]; exact B2869
                                  have ek2964 : (m2956 10).toInt = ((m_2824 10)).toInt := by rw [em2957]; rfl
                                  have B2965 : sf_B 0 99 (m2956 14) := by rw [em2957]; exact B2952
                                  have ek2966 : (m2956 14).toInt = ((m_2824 14)).toInt := by rw [em2957]; rfl
                                  have W2967 : rf_W [10, 12, 13, 14] m m2956 := by rw [em2957]; exact W2832.put (by decide)
                                  have W2968 : rf_W [10, 14] m2396 m2956 := by rw [em2957]; exact W_2824.put (by decide)
                                  refine pm_R_lo pm_M179 (pc' := 209) (pm_q179_1 (Nat.le_of_ble_eq_true rfl)) rfl rfl ?_
                                  refine pm_R_op pm_M179 (pc' := 210) (st' := [.ref 41, .ref 41]) (pm_q179_1 (Nat.le_of_ble_eq_true rfl)) rfl rfl ?_
                                  refine rf_R_get pm_M179 T2954 (pc' := 213) (v := .int (m_2824 10)) (pm_q179_1 (Nat.le_of_ble_eq_true rfl)) rfl (congrArg (fun z => some (Value.int z)) (Int32.toInt_inj.mp (sf_aux37 _ _ ek2964))) rfl ?_
                                  refine pm_R_op pm_M179 (pc' := 214) (st' := [.int 1, .int (m_2824 10), .ref 41]) (pm_q179_1 (Nat.le_of_ble_eq_true rfl)) rfl rfl ?_
                                  refine sf_R_iadd pm_M179 (pc' := 215) (pm_q179_1 (Nat.le_of_ble_eq_true rfl)) rfl B2869 sf_k1 (by decide) (by decide) (fun z2969 e2970 B2971 => ?_)
                                  refine rf_R_put pm_M179 T2954 (pc' := 218) (pm_q179_1 (Nat.le_of_ble_eq_true rfl)) rfl rfl (by decide) rfl rfl (sf_weak B2971 (by decide) (by decide)) rfl rfl (fun h2972 m2975 em2976 T2973 F2974 => ?_)
                                  have F2977 := F2958.trans F2974 (by decide)
                                  have B2978 : sf_B 0 600 (m2975 11) := by rw [em2976]; exact B2959
                                  have ek2979 : (m2975 11).toInt = ((m 11)).toInt := by rw [em2976]; exact ek2960
                                  have B2980 : sf_B 0 599 (m2975 12) := by rw [em2976]; exact B2961
                                  have ek2981 : (m2975 12).toInt = ((m_2034 10)).toInt := by rw [em2976]; exact ek2962
                                  have B2982 : sf_B 1 600 (m2975 10) := by rw [em2976]; exact B2971
                                  have ek2983 : (m2975 10).toInt = (z2969).toInt := by rw [em2976]; rfl
                                  have W2984 : rf_W [10, 12, 13, 14] m m2975 := by rw [em2976]; exact W2967.put (by decide)
                                  have W2985 : rf_W [10, 14] m2396 m2975 := by rw [em2976]; exact W2968.put (by decide)
                                  refine sf_R_iinc pm_M179 (pc' := 221) (ls' := fun z => [.ref 41, .int z2081, .int z]) (pm_q179_1 (Nat.le_of_ble_eq_true rfl)) B2870 rfl (by decide) (by decide) (by decide) (fun _ => rfl) rfl (fun z2986 e2987 B2988 => ?_)
                                  show pm_R _ 179 221 [.ref 41, .int z2081, .int z2986] [] _ _
                                  refine pm_R_br pm_M179 (pc' := 163) (pm_q179_1 (Nat.le_of_ble_eq_true rfl)) rfl ?_
                                  exact ih_2824 _ (sf_up hN_2824 (sf_aux32 _ _ _ e2970 ek2983) B2869 (by decide) (by decide)) h2972 m2975 w_2824 z2986 T2973 F2977 W2985 (sf_weak B2988 (by decide) (by decide)) (sf_aux44 _ _ _ _ _ e2987 e2970 ek2983 B2870.1 B2870.2 B2869.1 B2869.2 R0_2824) (sf_aux45 _ _ _ _ e2970 ek2983 X_2824) rfl
                        exact L_2824 _ h2393 m2396 0 2 T2394 F2398 (rf_W.refl _ _) (sf_weak sf_k2 (by decide) (by decide)) (sf_aux46 _ _ _ _ e2276 e2391 ek2404 B2074.1 B2074.2) (sf_aux47 _ _ _ _ _ e2276 e2391 ek2404 X_2034) rfl
            · have B2989 : sf_B 97 255 z2081 := sf_leR (Int32.not_lt.mp c2133) sf_k97 B2083
              refine pm_R_lo pm_M174 (pc' := 6) rfl rfl rfl ?_
              refine pm_R_lo pm_M174 (pc' := 7) rfl rfl rfl ?_
              refine pm_R_icmp pm_M174 (t := 14) (pc' := 10) rfl rfl rfl (fun c2990 => ?_) (fun c2990 => ?_)
              · have B2991 : sf_B 123 255 z2081 := sf_ltR c2990 sf_k122 B2989
                refine pm_R_op pm_M174 (pc' := 15) (st' := [.int 0]) rfl rfl rfl ?_
                refine pm_R_ret pm_M174 (r := some (.int 0)) rfl rfl ?_
                show pm_R _ 179 71 [.ref 41, .int z2081, .int 0] [.int 0] _ _
                refine pm_R_br pm_M179 (pc' := 147) (st' := []) rfl rfl ?_
                refine pm_R_lo pm_M179 (pc' := 148) (pm_q179_1 (Nat.le_of_ble_eq_true rfl)) rfl rfl ?_
                refine pm_R_op pm_M179 (pc' := 150) (st' := [.int 48, .int z2081]) (pm_q179_1 (Nat.le_of_ble_eq_true rfl)) rfl rfl ?_
                refine pm_R_op pm_M179 (pc' := 152) (st' := [.int 57, .int 48, .int z2081]) (pm_q179_1 (Nat.le_of_ble_eq_true rfl)) rfl rfl ?_
                refine pm_R_cs pm_M179 (pc' := 155) (ra := [.int 57, .int 48, .int z2081]) (rest := []) (ls' := [.int z2081, .int 48, .int 57]) (pm_q179_1 (Nat.le_of_ble_eq_true rfl)) rfl (Or.inl rfl) pm_M174 rfl rfl (Nat.le_of_ble_eq_true rfl) rfl rfl ?_
                refine pm_R_lo pm_M174 (pc' := 1) rfl rfl rfl ?_
                refine pm_R_lo pm_M174 (pc' := 2) rfl rfl rfl ?_
                refine pm_R_icmp pm_M174 (t := 14) (pc' := 5) rfl rfl rfl (fun c2992 => absurd c2992 (sf_nlt B2991 sf_k48 (by decide))) (fun c2992 => ?_)
                skip
                refine pm_R_lo pm_M174 (pc' := 6) rfl rfl rfl ?_
                refine pm_R_lo pm_M174 (pc' := 7) rfl rfl rfl ?_
                refine pm_R_icmp pm_M174 (t := 14) (pc' := 10) rfl rfl rfl (fun c2993 => ?_) (fun c2993 => absurd (Int32.not_lt.mp c2993) (sf_nle B2991 sf_k57 (by decide)))
                skip
                refine pm_R_op pm_M174 (pc' := 15) (st' := [.int 0]) rfl rfl rfl ?_
                refine pm_R_ret pm_M174 (r := some (.int 0)) rfl rfl ?_
                show pm_R _ 179 155 [.ref 41, .int z2081, .int 0] [.int 0] _ _
                refine pm_R_br pm_M179 (pc' := 241) (st' := []) (pm_q179_1 (Nat.le_of_ble_eq_true rfl)) rfl ?_
                refine pm_R_lo pm_M179 (pc' := 242) (pm_q179_2 (Nat.le_of_ble_eq_true rfl)) rfl rfl ?_
                refine pm_R_op pm_M179 (pc' := 243) (st' := [.ref 41, .ref 41]) (pm_q179_2 (Nat.le_of_ble_eq_true rfl)) rfl rfl ?_
                refine rf_R_get pm_M179 T2129 (pc' := 246) (v := .int (m_2034 10)) (pm_q179_2 (Nat.le_of_ble_eq_true rfl)) rfl (congrArg (fun z => some (Value.int z)) (Int32.toInt_inj.mp (sf_aux37 _ _ ek2117))) rfl ?_
                refine pm_R_op pm_M179 (pc' := 247) (st' := [.int 1, .int (m_2034 10), .ref 41]) (pm_q179_2 (Nat.le_of_ble_eq_true rfl)) rfl rfl ?_
                refine sf_R_iadd pm_M179 (pc' := 248) (pm_q179_2 (Nat.le_of_ble_eq_true rfl)) rfl B2074 sf_k1 (by decide) (by decide) (fun z2994 e2995 B2996 => ?_)
                refine rf_R_put pm_M179 T2129 (pc' := 251) (pm_q179_2 (Nat.le_of_ble_eq_true rfl)) rfl rfl (by decide) rfl rfl (sf_weak B2996 (by decide) (by decide)) rfl rfl (fun h2997 m3000 em3001 T2998 F2999 => ?_)
                have F3002 := F2131.trans F2999 (by decide)
                have B3003 : sf_B 0 600 (m3000 11) := by rw [em3001]; exact B2114
                have ek3004 : (m3000 11).toInt = ((m 11)).toInt := by rw [em3001]; exact ek2115
                have B3005 : sf_B 0 599 (m3000 12) := by rw [em3001]; exact B2118
                have ek3006 : (m3000 12).toInt = ((m_2034 10)).toInt := by rw [em3001]; exact ek2119
                have B3007 : sf_B 1 600 (m3000 10) := by rw [em3001]; exact B2996
                have ek3008 : (m3000 10).toInt = (z2994).toInt := by rw [em3001]; rfl
                have W3009 : rf_W [10, 12, 13, 14] m m3000 := by rw [em3001]; exact W2120.put (by decide)
                refine pm_R_lo pm_M179 (pc' := 252) (pm_q179_2 (Nat.le_of_ble_eq_true rfl)) rfl rfl ?_
                refine pm_R_lo pm_M179 (pc' := 253) (pm_q179_2 (Nat.le_of_ble_eq_true rfl)) rfl rfl ?_
                refine pm_R_op pm_M179 (pc' := 255) (st' := [.int 59, .int z2081, .ref 41]) (pm_q179_2 (Nat.le_of_ble_eq_true rfl)) rfl rfl ?_
                refine pm_R_icmp pm_M179 (t := 262) (pc' := 258) (pm_q179_2 (Nat.le_of_ble_eq_true rfl)) rfl rfl (fun c3010 => ?_) (fun c3010 => absurd (Classical.not_not.mp c3010) (sf_neq1 B2991 sf_k59 (by decide)))
                skip
                refine pm_R_op pm_M179 (pc' := 263) (st' := [.int 1, .ref 41]) (pm_q179_2 (Nat.le_of_ble_eq_true rfl)) rfl rfl ?_
                refine rf_R_put pm_M179 T2998 (pc' := 266) (pm_q179_2 (Nat.le_of_ble_eq_true rfl)) rfl rfl (by decide) rfl rfl (sf_weak sf_k1 (by decide) (by decide)) rfl rfl (fun h3011 m3014 em3015 T3012 F3013 => ?_)
                have F3016 := F3002.trans F3013 (by decide)
                have B3017 : sf_B 0 600 (m3014 11) := by rw [em3015]; exact B3003
                have ek3018 : (m3014 11).toInt = ((m 11)).toInt := by rw [em3015]; exact ek3004
                have B3019 : sf_B 0 599 (m3014 12) := by rw [em3015]; exact B3005
                have ek3020 : (m3014 12).toInt = ((m_2034 10)).toInt := by rw [em3015]; exact ek3006
                have B3021 : sf_B 1 600 (m3014 10) := by rw [em3015]; exact B3007
                have ek3022 : (m3014 10).toInt = (z2994).toInt := by rw [em3015]; exact ek3008
                have B3023 : sf_B 1 1 (m3014 13) := by rw [em3015]; exact sf_k1
                have W3025 : rf_W [10, 12, 13, 14] m m3014 := by rw [em3015]; exact W3009.put (by decide)
                exact pm_R_ret pm_M179 (r := none) (pm_q179_2 (Nat.le_of_ble_eq_true rfl)) rfl (K m3014 0 h3011 T3012 F3016 W3025 (sf_aux40 _ _ _ _ e2995 ek3022 X_2034) (Or.inl (sf_aux41 _ _ _ _ e2995 ek3022 X_2034)))
              · have B3026 : sf_B 97 122 z2081 := sf_leL (Int32.not_lt.mp c2990) B2989 sf_k122
                refine pm_R_op pm_M174 (pc' := 11) (st' := [.int 1]) rfl rfl rfl ?_
                refine pm_R_br pm_M174 (pc' := 15) rfl rfl ?_
                refine pm_R_ret pm_M174 (r := some (.int 1)) rfl rfl ?_
                show pm_R _ 179 71 [.ref 41, .int z2081, .int 0] [.int 1] _ _
                refine pm_R_br pm_M179 (pc' := 74) (st' := []) rfl rfl ?_
                refine pm_R_lo pm_M179 (pc' := 75) rfl rfl rfl ?_
                refine pm_R_cv pm_M179 (pc' := 78) (a := 41) (ra := []) (rest := []) (ls' := [.ref 41]) rfl rfl (Or.inl rfl) pm_M180 T2129.2.1 rfl (by decide) (Nat.lt_of_lt_of_le (by decide) T2129.1) rfl rfl (Nat.le_of_ble_eq_true rfl) rfl rfl ?_
                refine pm_R_lo pm_M180 (pc' := 1) rfl rfl rfl ?_
                refine rf_R_get pm_M180 T2129 (pc' := 4) (v := .int (m_2034 10)) rfl rfl (congrArg (fun z => some (Value.int z)) (Int32.toInt_inj.mp (sf_aux37 _ _ ek2117))) rfl ?_
                refine pm_R_lo pm_M180 (pc' := 5) rfl rfl rfl ?_
                refine rf_R_get pm_M180 T2129 (pc' := 8) (v := .int (m 11)) rfl rfl (congrArg (fun z => some (Value.int z)) (Int32.toInt_inj.mp (sf_aux37 _ _ ek2115))) rfl ?_
                refine pm_R_icmp pm_M180 (t := 27) (pc' := 11) rfl rfl rfl (fun c3027 => absurd c3027 (Int32.not_le.mpr (Int32.not_le.mp c2041))) (fun c3027 => ?_)
                skip
                refine pm_R_lo pm_M180 (pc' := 12) rfl rfl rfl ?_
                refine rf_R_get pm_M180 T2129 (pc' := 15) (v := .ref 42) rfl rfl rfl rfl ?_
                refine pm_R_lo pm_M180 (pc' := 16) rfl rfl rfl ?_
                refine rf_R_get pm_M180 T2129 (pc' := 19) (v := .int (m_2034 10)) rfl rfl (congrArg (fun z => some (Value.int z)) (Int32.toInt_inj.mp (sf_aux37 _ _ ek2117))) rfl ?_
                have e3028 := (F2130.cell (by decide) e2122)
                refine pm_R_bald pm_M180 (pc' := 20) (v := z2079) rfl e3028 (Or.inl rfl) (by decide) (Nat.lt_of_lt_of_le (by decide) T2129.1) (sf_in B2074 (by decide) (by decide)) ez2080 rfl ?_
                refine pm_R_op pm_M180 (pc' := 23) (st' := [.int 255, .int z2079]) rfl rfl rfl ?_
                refine pm_R_op pm_M180 (pc' := 24) (st' := [.int z2081]) rfl (by show some (Value.int (z2079 &&& 255) :: _) = _; rw [← e2082]) rfl ?_
                refine pm_R_br pm_M180 (pc' := 28) rfl rfl ?_
                refine pm_R_ret pm_M180 (r := some (.int z2081)) rfl (pm_ret_i _) ?_
                show pm_R _ 179 78 [.ref 41, .int z2081, .int 0] [.int z2081] _ _
                refine pm_R_op pm_M179 (pc' := 80) (st' := [.int 97, .int z2081]) rfl rfl rfl ?_
                refine pm_R_op pm_M179 (pc' := 82) (st' := [.int 122, .int 97, .int z2081]) rfl rfl rfl ?_
                refine pm_R_cs pm_M179 (pc' := 85) (ra := [.int 122, .int 97, .int z2081]) (rest := []) (ls' := [.int z2081, .int 97, .int 122]) rfl rfl (Or.inl rfl) pm_M174 rfl rfl (Nat.le_of_ble_eq_true rfl) rfl rfl ?_
                refine pm_R_lo pm_M174 (pc' := 1) rfl rfl rfl ?_
                refine pm_R_lo pm_M174 (pc' := 2) rfl rfl rfl ?_
                refine pm_R_icmp pm_M174 (t := 14) (pc' := 5) rfl rfl rfl (fun c3034 => absurd c3034 (sf_nlt B3026 sf_k97 (by decide))) (fun c3034 => ?_)
                skip
                refine pm_R_lo pm_M174 (pc' := 6) rfl rfl rfl ?_
                refine pm_R_lo pm_M174 (pc' := 7) rfl rfl rfl ?_
                refine pm_R_icmp pm_M174 (t := 14) (pc' := 10) rfl rfl rfl (fun c3035 => absurd c3035 (sf_nlt sf_k122 B3026 (by decide))) (fun c3035 => ?_)
                skip
                refine pm_R_op pm_M174 (pc' := 11) (st' := [.int 1]) rfl rfl rfl ?_
                refine pm_R_br pm_M174 (pc' := 15) rfl rfl ?_
                refine pm_R_ret pm_M174 (r := some (.int 1)) rfl rfl ?_
                show pm_R _ 179 85 [.ref 41, .int z2081, .int 0] [.int 1] _ _
                refine pm_R_br pm_M179 (pc' := 88) (st' := []) rfl rfl ?_
                refine pm_R_lo pm_M179 (pc' := 89) rfl rfl rfl ?_
                refine pm_R_lo pm_M179 (pc' := 90) rfl rfl rfl ?_
                refine rf_R_get pm_M179 T2129 (pc' := 93) (v := .long 0) rfl rfl rfl rfl ?_
                refine pm_R_op pm_M179 (pc' := 95) (st' := [.int 8, .long 0, .ref 41]) rfl rfl rfl ?_
                refine sf_R_lany pm_M179 (pc' := 96) (st := [.ref 41]) rfl rfl rfl (fun z3036 => ?_)
                refine pm_R_lo pm_M179 (pc' := 97) rfl rfl rfl ?_
                refine pm_R_cv pm_M179 (pc' := 100) (a := 41) (ra := []) (rest := [.long z3036, .ref 41]) (ls' := [.ref 41]) rfl rfl (Or.inl rfl) pm_M180 T2129.2.1 rfl (by decide) (Nat.lt_of_lt_of_le (by decide) T2129.1) rfl rfl (Nat.le_of_ble_eq_true rfl) rfl rfl ?_
                refine pm_R_lo pm_M180 (pc' := 1) rfl rfl rfl ?_
                refine rf_R_get pm_M180 T2129 (pc' := 4) (v := .int (m_2034 10)) rfl rfl (congrArg (fun z => some (Value.int z)) (Int32.toInt_inj.mp (sf_aux37 _ _ ek2117))) rfl ?_
                refine pm_R_lo pm_M180 (pc' := 5) rfl rfl rfl ?_
                refine rf_R_get pm_M180 T2129 (pc' := 8) (v := .int (m 11)) rfl rfl (congrArg (fun z => some (Value.int z)) (Int32.toInt_inj.mp (sf_aux37 _ _ ek2115))) rfl ?_
                refine pm_R_icmp pm_M180 (t := 27) (pc' := 11) rfl rfl rfl (fun c3037 => absurd c3037 (Int32.not_le.mpr (Int32.not_le.mp c2041))) (fun c3037 => ?_)
                skip
                refine pm_R_lo pm_M180 (pc' := 12) rfl rfl rfl ?_
                refine rf_R_get pm_M180 T2129 (pc' := 15) (v := .ref 42) rfl rfl rfl rfl ?_
                refine pm_R_lo pm_M180 (pc' := 16) rfl rfl rfl ?_
                refine rf_R_get pm_M180 T2129 (pc' := 19) (v := .int (m_2034 10)) rfl rfl (congrArg (fun z => some (Value.int z)) (Int32.toInt_inj.mp (sf_aux37 _ _ ek2117))) rfl ?_
                refine pm_R_bald pm_M180 (pc' := 20) (v := z2079) rfl e3028 (Or.inl rfl) (by decide) (Nat.lt_of_lt_of_le (by decide) T2129.1) (sf_in B2074 (by decide) (by decide)) ez2080 rfl ?_
                refine pm_R_op pm_M180 (pc' := 23) (st' := [.int 255, .int z2079]) rfl rfl rfl ?_
                refine pm_R_op pm_M180 (pc' := 24) (st' := [.int z2081]) rfl (by show some (Value.int (z2079 &&& 255) :: _) = _; rw [← e2082]) rfl ?_
                refine pm_R_br pm_M180 (pc' := 28) rfl rfl ?_
                refine pm_R_ret pm_M180 (r := some (.int z2081)) rfl (pm_ret_i _) ?_
                show pm_R _ 179 100 [.ref 41, .int z2081, .int 0] [.int z2081, .long z3036, .ref 41] _ _
                refine sf_R_i2l pm_M179 (pc' := 101) rfl rfl B3026 (fun z3043 e3044 B3045 => ?_)
                refine sf_R_lany pm_M179 (pc' := 102) (st := [.ref 41]) rfl rfl rfl (fun z3046 => ?_)
                refine rf_R_putL pm_M179 T2129 (pc' := 105) rfl rfl rfl (by decide) rfl rfl rfl rfl (fun h3047 T3048 F3049 => ?_)
                have F3050 := F2131.trans F3049 (by decide)
                refine pm_R_lo pm_M179 (pc' := 106) rfl rfl rfl ?_
                refine pm_R_op pm_M179 (pc' := 107) (st' := [.ref 41, .ref 41]) rfl rfl rfl ?_
                refine rf_R_get pm_M179 T3048 (pc' := 110) (v := .int (m_2034 10)) rfl rfl (congrArg (fun z => some (Value.int z)) (Int32.toInt_inj.mp (sf_aux37 _ _ ek2117))) rfl ?_
                refine pm_R_op pm_M179 (pc' := 111) (st' := [.int 1, .int (m_2034 10), .ref 41]) rfl rfl rfl ?_
                refine sf_R_iadd pm_M179 (pc' := 112) rfl rfl B2074 sf_k1 (by decide) (by decide) (fun z3051 e3052 B3053 => ?_)
                refine rf_R_put pm_M179 T3048 (pc' := 115) rfl rfl rfl (by decide) rfl rfl (sf_weak B3053 (by decide) (by decide)) rfl rfl (fun h3054 m3057 em3058 T3055 F3056 => ?_)
                have F3059 := F3050.trans F3056 (by decide)
                have B3060 : sf_B 0 600 (m3057 11) := by rw [em3058]; exact B2114
                have ek3061 : (m3057 11).toInt = ((m 11)).toInt := by rw [em3058]; exact ek2115
                have B3062 : sf_B 0 599 (m3057 12) := by rw [em3058]; exact B2118
                have ek3063 : (m3057 12).toInt = ((m_2034 10)).toInt := by rw [em3058]; exact ek2119
                have B3064 : sf_B 1 600 (m3057 10) := by rw [em3058]; exact B3053
                have ek3065 : (m3057 10).toInt = (z3051).toInt := by rw [em3058]; rfl
                have W3066 : rf_W [10, 12, 13, 14] m m3057 := by rw [em3058]; exact W2120.put (by decide)
                refine pm_R_lo pm_M179 (pc' := 118) (ls' := [.ref 41, .int z2081, .int 1]) (st' := []) (pm_q179_1 (Nat.le_of_ble_eq_true rfl)) rfl rfl ?_
                refine pm_R_br pm_M179 (pc' := 74) (pm_q179_1 (Nat.le_of_ble_eq_true rfl)) rfl ?_
                have L_3884 : ∀ (N : Nat) (h_3884 : pm_H) (m_3884 : Nat → Int32) (w_3884 : Int64) (x2_3884 : Int32), rf_T m_3884 w_3884 h_3884 → rf_G [41] h h_3884 → rf_W [10] m3057 m_3884 → sf_B 1 600 x2_3884 → x2_3884.toInt ≤ (m_3884 10).toInt → (m 10).toInt + 1 ≤ (m_3884 10).toInt → (600 - (m_3884 10).toInt).toNat = N → pm_R (d + 1) 179 74 [.ref 41, .int z2081, .int x2_3884] [] h_3884 Q := by
                  intro N
                  induction N using Nat.strongRecOn with
                  | ind N ih_3884 =>
                    intro h_3884 m_3884 w_3884 x2_3884 T_3884 F_3884 W_3884 Bx2_3884 R0_3884 X_3884 hN_3884
                    have B3888 : sf_B 0 600 (m_3884 11) := by rw [W_3884 11 (by decide)]; exact B3060
                    have ek3889 : (m_3884 11).toInt = ((m 11)).toInt := by rw [W_3884 11 (by decide)]; exact ek3061
                    have B3890 : sf_B 0 599 (m_3884 12) := by rw [W_3884 12 (by decide)]; exact B3062
                    have ek3891 : (m_3884 12).toInt = ((m_2034 10)).toInt := by rw [W_3884 12 (by decide)]; exact ek3063
                    have W3892 : rf_W [10, 12, 13, 14] m m_3884 := W3066.trans W_3884 (by decide)
                    have B3893 : sf_B 0 600 (m_3884 10) := T_3884.2.2.1 10
                    refine pm_R_lo pm_M179 (pc' := 75) rfl rfl rfl ?_
                    refine pm_R_cv pm_M179 (pc' := 78) (a := 41) (ra := []) (rest := []) (ls' := [.ref 41]) rfl rfl (Or.inl rfl) pm_M180 T_3884.2.1 rfl (by decide) (Nat.lt_of_lt_of_le (by decide) T_3884.1) rfl rfl (Nat.le_of_ble_eq_true rfl) rfl rfl ?_
                    refine pm_R_lo pm_M180 (pc' := 1) rfl rfl rfl ?_
                    refine rf_R_get pm_M180 T_3884 (pc' := 4) (v := .int (m_3884 10)) rfl rfl rfl rfl ?_
                    refine pm_R_lo pm_M180 (pc' := 5) rfl rfl rfl ?_
                    refine rf_R_get pm_M180 T_3884 (pc' := 8) (v := .int (m 11)) rfl rfl (congrArg (fun z => some (Value.int z)) (Int32.toInt_inj.mp (sf_aux37 _ _ ek3889))) rfl ?_
                    refine pm_R_icmp pm_M180 (t := 27) (pc' := 11) rfl rfl rfl (fun c3894 => ?_) (fun c3894 => ?_)
                    · have B3895 : sf_B 1 600 (m_3884 10) := sf_leR c3894 B2075 B3893
                      refine pm_R_op pm_M180 (pc' := 28) (st' := [.int (-1)]) rfl rfl rfl ?_
                      refine pm_R_ret pm_M180 (r := some (.int (-1))) rfl rfl ?_
                      show pm_R _ 179 78 [.ref 41, .int z2081, .int x2_3884] [.int (-1)] _ _
                      refine pm_R_op pm_M179 (pc' := 80) (st' := [.int 97, .int (-1)]) rfl rfl rfl ?_
                      refine pm_R_op pm_M179 (pc' := 82) (st' := [.int 122, .int 97, .int (-1)]) rfl rfl rfl ?_
                      refine pm_R_cs pm_M179 (pc' := 85) (ra := [.int 122, .int 97, .int (-1)]) (rest := []) (ls' := [.int (-1), .int 97, .int 122]) rfl rfl (Or.inl rfl) pm_M174 rfl rfl (Nat.le_of_ble_eq_true rfl) rfl rfl ?_
                      refine pm_R_lo pm_M174 (pc' := 1) rfl rfl rfl ?_
                      refine pm_R_lo pm_M174 (pc' := 2) rfl rfl rfl ?_
                      refine pm_R_br pm_M174 (pc' := 14) (st' := []) rfl rfl ?_
                      refine pm_R_op pm_M174 (pc' := 15) (st' := [.int 0]) rfl rfl rfl ?_
                      refine pm_R_ret pm_M174 (r := some (.int 0)) rfl rfl ?_
                      show pm_R _ 179 85 [.ref 41, .int z2081, .int x2_3884] [.int 0] _ _
                      refine pm_R_br pm_M179 (pc' := 121) (st' := []) rfl rfl ?_
                      refine pm_R_lo pm_M179 (pc' := 122) (pm_q179_1 (Nat.le_of_ble_eq_true rfl)) rfl rfl ?_
                      refine pm_R_lo pm_M179 (pc' := 123) (pm_q179_1 (Nat.le_of_ble_eq_true rfl)) rfl rfl ?_
                      refine pm_R_op pm_M179 (pc' := 125) (st' := [.int 8, .int x2_3884, .ref 41]) (pm_q179_1 (Nat.le_of_ble_eq_true rfl)) rfl rfl ?_
                      refine pm_R_icmp pm_M179 (t := 132) (pc' := 128) (pm_q179_1 (Nat.le_of_ble_eq_true rfl)) rfl rfl (fun c3896 => ?_) (fun c3896 => ?_)
                      · have B3897 : sf_B 1 8 x2_3884 := sf_leL c3896 Bx2_3884 sf_k8
                        refine pm_R_lo pm_M179 (pc' := 133) (pm_q179_1 (Nat.le_of_ble_eq_true rfl)) rfl rfl ?_
                        refine rf_R_get pm_M179 T_3884 (pc' := 136) (v := .long w_3884) (pm_q179_1 (Nat.le_of_ble_eq_true rfl)) rfl rfl rfl ?_
                        refine rf_R_putL pm_M179 T_3884 (pc' := 139) (pm_q179_1 (Nat.le_of_ble_eq_true rfl)) rfl rfl (by decide) rfl rfl rfl rfl (fun h3898 T3899 F3900 => ?_)
                        have F3901 := F_3884.trans F3900 (by decide)
                        refine pm_R_lo pm_M179 (pc' := 140) (pm_q179_1 (Nat.le_of_ble_eq_true rfl)) rfl rfl ?_
                        refine pm_R_op pm_M179 (pc' := 141) (st' := [.int 2, .ref 41]) (pm_q179_1 (Nat.le_of_ble_eq_true rfl)) rfl rfl ?_
                        refine rf_R_put pm_M179 T3899 (pc' := 144) (pm_q179_1 (Nat.le_of_ble_eq_true rfl)) rfl rfl (by decide) rfl rfl (sf_weak sf_k2 (by decide) (by decide)) rfl rfl (fun h3902 m3905 em3906 T3903 F3904 => ?_)
                        have F3907 := F3901.trans F3904 (by decide)
                        have B3908 : sf_B 0 600 (m3905 11) := by rw [em3906]; exact B3888
                        have ek3909 : (m3905 11).toInt = ((m 11)).toInt := by rw [em3906]; exact ek3889
                        have B3910 : sf_B 0 599 (m3905 12) := by rw [em3906]; exact B3890
                        have ek3911 : (m3905 12).toInt = ((m_2034 10)).toInt := by rw [em3906]; exact ek3891
                        have B3912 : sf_B 1 600 (m3905 10) := by rw [em3906]; exact B3895
                        have ek3913 : (m3905 10).toInt = ((m_3884 10)).toInt := by rw [em3906]; rfl
                        have B3914 : sf_B 2 2 (m3905 13) := by rw [em3906]; exact sf_k2
                        have W3916 : rf_W [10, 12, 13, 14] m m3905 := by rw [em3906]; exact W3892.put (by decide)
                        refine pm_R_br pm_M179 (pc' := 266) (pm_q179_1 (Nat.le_of_ble_eq_true rfl)) rfl ?_
                        exact pm_R_ret pm_M179 (r := none) (pm_q179_2 (Nat.le_of_ble_eq_true rfl)) rfl (K m3905 w_3884 h3902 T3903 F3907 W3916 (sf_aux43 _ _ _ ek3913 X_3884) (Or.inl (sf_aux42 _ _ _ ek3913 X_3884)))
                      · have B3917 : sf_B 9 600 x2_3884 := sf_ltR (Int32.not_le.mp c3896) sf_k8 Bx2_3884
                        refine pm_R_op pm_M179 (pc' := 129) (st' := [.long 0, .ref 41]) (pm_q179_1 (Nat.le_of_ble_eq_true rfl)) rfl rfl ?_
                        refine pm_R_br pm_M179 (pc' := 136) (pm_q179_1 (Nat.le_of_ble_eq_true rfl)) rfl ?_
                        refine rf_R_putL pm_M179 T_3884 (pc' := 139) (pm_q179_1 (Nat.le_of_ble_eq_true rfl)) rfl rfl (by decide) rfl rfl rfl rfl (fun h3918 T3919 F3920 => ?_)
                        have F3921 := F_3884.trans F3920 (by decide)
                        refine pm_R_lo pm_M179 (pc' := 140) (pm_q179_1 (Nat.le_of_ble_eq_true rfl)) rfl rfl ?_
                        refine pm_R_op pm_M179 (pc' := 141) (st' := [.int 2, .ref 41]) (pm_q179_1 (Nat.le_of_ble_eq_true rfl)) rfl rfl ?_
                        refine rf_R_put pm_M179 T3919 (pc' := 144) (pm_q179_1 (Nat.le_of_ble_eq_true rfl)) rfl rfl (by decide) rfl rfl (sf_weak sf_k2 (by decide) (by decide)) rfl rfl (fun h3922 m3925 em3926 T3923 F3924 => ?_)
                        have F3927 := F3921.trans F3924 (by decide)
                        have B3928 : sf_B 0 600 (m3925 11) := by rw [em3926]; exact B3888
                        have ek3929 : (m3925 11).toInt = ((m 11)).toInt := by rw [em3926]; exact ek3889
                        have B3930 : sf_B 0 599 (m3925 12) := by rw [em3926]; exact B3890
                        have ek3931 : (m3925 12).toInt = ((m_2034 10)).toInt := by rw [em3926]; exact ek3891
                        have B3932 : sf_B 1 600 (m3925 10) := by rw [em3926]; exact B3895
                        have ek3933 : (m3925 10).toInt = ((m_3884 10)).toInt := by rw [em3926]; rfl
                        have B3934 : sf_B 2 2 (m3925 13) := by rw [em3926]; exact sf_k2
                        have W3936 : rf_W [10, 12, 13, 14] m m3925 := by rw [em3926]; exact W3892.put (by decide)
                        refine pm_R_br pm_M179 (pc' := 266) (pm_q179_1 (Nat.le_of_ble_eq_true rfl)) rfl ?_
                        exact pm_R_ret pm_M179 (r := none) (pm_q179_2 (Nat.le_of_ble_eq_true rfl)) rfl (K m3925 0 h3922 T3923 F3927 W3936 (sf_aux43 _ _ _ ek3933 X_3884) (Or.inl (sf_aux42 _ _ _ ek3933 X_3884)))
                    · have B3937 : sf_B 0 599 (m_3884 10) := sf_ltL (Int32.not_le.mp c3894) B3893 B2075
                      have B3938 : sf_B 1 599 x2_3884 := sf_leT R0_3884 Bx2_3884 B3937
                      refine pm_R_lo pm_M180 (pc' := 12) rfl rfl rfl ?_
                      refine rf_R_get pm_M180 T_3884 (pc' := 15) (v := .ref 42) rfl rfl rfl rfl ?_
                      refine pm_R_lo pm_M180 (pc' := 16) rfl rfl rfl ?_
                      refine rf_R_get pm_M180 T_3884 (pc' := 19) (v := .int (m_3884 10)) rfl rfl rfl rfl ?_
                      obtain ⟨f3939, e3940⟩ := T_3884.2.2.2.1 42 (by decide) (by decide)
                      refine rf_R_bld pm_M180 T_3884 (pc' := 20) rfl e3940 (Or.inl rfl) (by decide) (by decide) (sf_in B3937 (by decide) (by decide)) rfl (fun z3942 ez3943 => ?_)
                      refine pm_R_op pm_M180 (pc' := 23) (st' := [.int 255, .int z3942]) rfl rfl rfl ?_
                      refine sf_R_iandE pm_M180 (pc' := 24) rfl rfl sf_k255 (by decide) (fun z3944 e3945 B3946 => ?_)
                      refine pm_R_br pm_M180 (pc' := 28) rfl rfl ?_
                      refine pm_R_ret pm_M180 (r := some (.int z3944)) rfl (pm_ret_i _) ?_
                      show pm_R _ 179 78 [.ref 41, .int z2081, .int x2_3884] [.int z3944] _ _
                      refine pm_R_op pm_M179 (pc' := 80) (st' := [.int 97, .int z3944]) rfl rfl rfl ?_
                      refine pm_R_op pm_M179 (pc' := 82) (st' := [.int 122, .int 97, .int z3944]) rfl rfl rfl ?_
                      refine pm_R_cs pm_M179 (pc' := 85) (ra := [.int 122, .int 97, .int z3944]) (rest := []) (ls' := [.int z3944, .int 97, .int 122]) rfl rfl (Or.inl rfl) pm_M174 rfl rfl (Nat.le_of_ble_eq_true rfl) rfl rfl ?_
                      refine pm_R_lo pm_M174 (pc' := 1) rfl rfl rfl ?_
                      refine pm_R_lo pm_M174 (pc' := 2) rfl rfl rfl ?_
                      refine pm_R_icmp pm_M174 (t := 14) (pc' := 5) rfl rfl rfl (fun c3947 => ?_) (fun c3947 => ?_)
                      · have B3948 : sf_B 0 96 z3944 := sf_ltL c3947 B3946 sf_k97
                        refine pm_R_op pm_M174 (pc' := 15) (st' := [.int 0]) rfl rfl rfl ?_
                        refine pm_R_ret pm_M174 (r := some (.int 0)) rfl rfl ?_
                        show pm_R _ 179 85 [.ref 41, .int z2081, .int x2_3884] [.int 0] _ _
                        refine pm_R_br pm_M179 (pc' := 121) (st' := []) rfl rfl ?_
                        refine pm_R_lo pm_M179 (pc' := 122) (pm_q179_1 (Nat.le_of_ble_eq_true rfl)) rfl rfl ?_
                        refine pm_R_lo pm_M179 (pc' := 123) (pm_q179_1 (Nat.le_of_ble_eq_true rfl)) rfl rfl ?_
                        refine pm_R_op pm_M179 (pc' := 125) (st' := [.int 8, .int x2_3884, .ref 41]) (pm_q179_1 (Nat.le_of_ble_eq_true rfl)) rfl rfl ?_
                        refine pm_R_icmp pm_M179 (t := 132) (pc' := 128) (pm_q179_1 (Nat.le_of_ble_eq_true rfl)) rfl rfl (fun c3949 => ?_) (fun c3949 => ?_)
                        · have B3950 : sf_B 1 8 x2_3884 := sf_leL c3949 B3938 sf_k8
                          refine pm_R_lo pm_M179 (pc' := 133) (pm_q179_1 (Nat.le_of_ble_eq_true rfl)) rfl rfl ?_
                          refine rf_R_get pm_M179 T_3884 (pc' := 136) (v := .long w_3884) (pm_q179_1 (Nat.le_of_ble_eq_true rfl)) rfl rfl rfl ?_
                          refine rf_R_putL pm_M179 T_3884 (pc' := 139) (pm_q179_1 (Nat.le_of_ble_eq_true rfl)) rfl rfl (by decide) rfl rfl rfl rfl (fun h3951 T3952 F3953 => ?_)
                          have F3954 := F_3884.trans F3953 (by decide)
                          refine pm_R_lo pm_M179 (pc' := 140) (pm_q179_1 (Nat.le_of_ble_eq_true rfl)) rfl rfl ?_
                          refine pm_R_op pm_M179 (pc' := 141) (st' := [.int 2, .ref 41]) (pm_q179_1 (Nat.le_of_ble_eq_true rfl)) rfl rfl ?_
                          refine rf_R_put pm_M179 T3952 (pc' := 144) (pm_q179_1 (Nat.le_of_ble_eq_true rfl)) rfl rfl (by decide) rfl rfl (sf_weak sf_k2 (by decide) (by decide)) rfl rfl (fun h3955 m3958 em3959 T3956 F3957 => ?_)
                          have F3960 := F3954.trans F3957 (by decide)
                          have B3961 : sf_B 0 600 (m3958 11) := by rw [em3959]; exact B3888
                          have ek3962 : (m3958 11).toInt = ((m 11)).toInt := by rw [em3959]; exact ek3889
                          have B3963 : sf_B 0 599 (m3958 12) := by rw [em3959]; exact B3890
                          have ek3964 : (m3958 12).toInt = ((m_2034 10)).toInt := by rw [em3959]; exact ek3891
                          have B3965 : sf_B 0 599 (m3958 10) := by rw [em3959]; exact B3937
                          have ek3966 : (m3958 10).toInt = ((m_3884 10)).toInt := by rw [em3959]; rfl
                          have B3967 : sf_B 2 2 (m3958 13) := by rw [em3959]; exact sf_k2
                          have W3969 : rf_W [10, 12, 13, 14] m m3958 := by rw [em3959]; exact W3892.put (by decide)
                          refine pm_R_br pm_M179 (pc' := 266) (pm_q179_1 (Nat.le_of_ble_eq_true rfl)) rfl ?_
                          exact pm_R_ret pm_M179 (r := none) (pm_q179_2 (Nat.le_of_ble_eq_true rfl)) rfl (K m3958 w_3884 h3955 T3956 F3960 W3969 (sf_aux43 _ _ _ ek3966 X_3884) (Or.inl (sf_aux42 _ _ _ ek3966 X_3884)))
                        · have B3970 : sf_B 9 599 x2_3884 := sf_ltR (Int32.not_le.mp c3949) sf_k8 B3938
                          refine pm_R_op pm_M179 (pc' := 129) (st' := [.long 0, .ref 41]) (pm_q179_1 (Nat.le_of_ble_eq_true rfl)) rfl rfl ?_
                          refine pm_R_br pm_M179 (pc' := 136) (pm_q179_1 (Nat.le_of_ble_eq_true rfl)) rfl ?_
                          refine rf_R_putL pm_M179 T_3884 (pc' := 139) (pm_q179_1 (Nat.le_of_ble_eq_true rfl)) rfl rfl (by decide) rfl rfl rfl rfl (fun h3971 T3972 F3973 => ?_)
                          have F3974 := F_3884.trans F3973 (by decide)
                          refine pm_R_lo pm_M179 (pc' := 140) (pm_q179_1 (Nat.le_of_ble_eq_true rfl)) rfl rfl ?_
                          refine pm_R_op pm_M179 (pc' := 141) (st' := [.int 2, .ref 41]) (pm_q179_1 (Nat.le_of_ble_eq_true rfl)) rfl rfl ?_
                          refine rf_R_put pm_M179 T3972 (pc' := 144) (pm_q179_1 (Nat.le_of_ble_eq_true rfl)) rfl rfl (by decide) rfl rfl (sf_weak sf_k2 (by decide) (by decide)) rfl rfl (fun h3975 m3978 em3979 T3976 F3977 => ?_)
                          have F3980 := F3974.trans F3977 (by decide)
                          have B3981 : sf_B 0 600 (m3978 11) := by rw [em3979]; exact B3888
                          have ek3982 : (m3978 11).toInt = ((m 11)).toInt := by rw [em3979]; exact ek3889
                          have B3983 : sf_B 0 599 (m3978 12) := by rw [em3979]; exact B3890
                          have ek3984 : (m3978 12).toInt = ((m_2034 10)).toInt := by rw [em3979]; exact ek3891
                          have B3985 : sf_B 0 599 (m3978 10) := by rw [em3979]; exact B3937
                          have ek3986 : (m3978 10).toInt = ((m_3884 10)).toInt := by rw [em3979]; rfl
                          have B3987 : sf_B 2 2 (m3978 13) := by rw [em3979]; exact sf_k2
                          have W3989 : rf_W [10, 12, 13, 14] m m3978 := by rw [em3979]; exact W3892.put (by decide)
                          refine pm_R_br pm_M179 (pc' := 266) (pm_q179_1 (Nat.le_of_ble_eq_true rfl)) rfl ?_
                          exact pm_R_ret pm_M179 (r := none) (pm_q179_2 (Nat.le_of_ble_eq_true rfl)) rfl (K m3978 0 h3975 T3976 F3980 W3989 (sf_aux43 _ _ _ ek3986 X_3884) (Or.inl (sf_aux42 _ _ _ ek3986 X_3884)))
                      · have B3990 : sf_B 97 255 z3944 := sf_leR (Int32.not_lt.mp c3947) sf_k97 B3946
                        refine pm_R_lo pm_M174 (pc' := 6) rfl rfl rfl ?_
                        refine pm_R_lo pm_M174 (pc' := 7) rfl rfl rfl ?_
                        refine pm_R_icmp pm_M174 (t := 14) (pc' := 10) rfl rfl rfl (fun c3991 => ?_) (fun c3991 => ?_)
                        · have B3992 : sf_B 123 255 z3944 := sf_ltR c3991 sf_k122 B3990
                          refine pm_R_op pm_M174 (pc' := 15) (st' := [.int 0]) rfl rfl rfl ?_
                          refine pm_R_ret pm_M174 (r := some (.int 0)) rfl rfl ?_
                          show pm_R _ 179 85 [.ref 41, .int z2081, .int x2_3884] [.int 0] _ _
                          refine pm_R_br pm_M179 (pc' := 121) (st' := []) rfl rfl ?_
                          refine pm_R_lo pm_M179 (pc' := 122) (pm_q179_1 (Nat.le_of_ble_eq_true rfl)) rfl rfl ?_
                          refine pm_R_lo pm_M179 (pc' := 123) (pm_q179_1 (Nat.le_of_ble_eq_true rfl)) rfl rfl ?_
                          refine pm_R_op pm_M179 (pc' := 125) (st' := [.int 8, .int x2_3884, .ref 41]) (pm_q179_1 (Nat.le_of_ble_eq_true rfl)) rfl rfl ?_
                          refine pm_R_icmp pm_M179 (t := 132) (pc' := 128) (pm_q179_1 (Nat.le_of_ble_eq_true rfl)) rfl rfl (fun c3993 => ?_) (fun c3993 => ?_)
                          · have B3994 : sf_B 1 8 x2_3884 := sf_leL c3993 B3938 sf_k8
                            refine pm_R_lo pm_M179 (pc' := 133) (pm_q179_1 (Nat.le_of_ble_eq_true rfl)) rfl rfl ?_
                            refine rf_R_get pm_M179 T_3884 (pc' := 136) (v := .long w_3884) (pm_q179_1 (Nat.le_of_ble_eq_true rfl)) rfl rfl rfl ?_
                            refine rf_R_putL pm_M179 T_3884 (pc' := 139) (pm_q179_1 (Nat.le_of_ble_eq_true rfl)) rfl rfl (by decide) rfl rfl rfl rfl (fun h3995 T3996 F3997 => ?_)
                            have F3998 := F_3884.trans F3997 (by decide)
                            refine pm_R_lo pm_M179 (pc' := 140) (pm_q179_1 (Nat.le_of_ble_eq_true rfl)) rfl rfl ?_
                            refine pm_R_op pm_M179 (pc' := 141) (st' := [.int 2, .ref 41]) (pm_q179_1 (Nat.le_of_ble_eq_true rfl)) rfl rfl ?_
                            refine rf_R_put pm_M179 T3996 (pc' := 144) (pm_q179_1 (Nat.le_of_ble_eq_true rfl)) rfl rfl (by decide) rfl rfl (sf_weak sf_k2 (by decide) (by decide)) rfl rfl (fun h3999 m4002 em4003 T4000 F4001 => ?_)
                            have F4004 := F3998.trans F4001 (by decide)
                            have B4005 : sf_B 0 600 (m4002 11) := by rw [em4003]; exact B3888
                            have ek4006 : (m4002 11).toInt = ((m 11)).toInt := by rw [em4003]; exact ek3889
                            have B4007 : sf_B 0 599 (m4002 12) := by rw [em4003]; exact B3890
                            have ek4008 : (m4002 12).toInt = ((m_2034 10)).toInt := by rw [em4003]; exact ek3891
                            have B4009 : sf_B 0 599 (m4002 10) := by rw [em4003]; exact B3937
                            have ek4010 : (m4002 10).toInt = ((m_3884 10)).toInt := by rw [em4003]; rfl
                            have B4011 : sf_B 2 2 (m4002 13) := by rw [em4003]; exact sf_k2
                            have W4013 : rf_W [10, 12, 13, 14] m m4002 := by rw [em4003]; exact W3892.put (by decide)
                            refine pm_R_br pm_M179 (pc' := 266) (pm_q179_1 (Nat.le_of_ble_eq_true rfl)) rfl ?_
                            exact pm_R_ret pm_M179 (r := none) (pm_q179_2 (Nat.le_of_ble_eq_true rfl)) rfl (K m4002 w_3884 h3999 T4000 F4004 W4013 (sf_aux43 _ _ _ ek4010 X_3884) (Or.inl (sf_aux42 _ _ _ ek4010 X_3884)))
                          · have B4014 : sf_B 9 599 x2_3884 := sf_ltR (Int32.not_le.mp c3993) sf_k8 B3938
                            refine pm_R_op pm_M179 (pc' := 129) (st' := [.long 0, .ref 41]) (pm_q179_1 (Nat.le_of_ble_eq_true rfl)) rfl rfl ?_
                            refine pm_R_br pm_M179 (pc' := 136) (pm_q179_1 (Nat.le_of_ble_eq_true rfl)) rfl ?_
                            refine rf_R_putL pm_M179 T_3884 (pc' := 139) (pm_q179_1 (Nat.le_of_ble_eq_true rfl)) rfl rfl (by decide) rfl rfl rfl rfl (fun h4015 T4016 F4017 => ?_)
                            have F4018 := F_3884.trans F4017 (by decide)
                            refine pm_R_lo pm_M179 (pc' := 140) (pm_q179_1 (Nat.le_of_ble_eq_true rfl)) rfl rfl ?_
                            refine pm_R_op pm_M179 (pc' := 141) (st' := [.int 2, .ref 41]) (pm_q179_1 (Nat.le_of_ble_eq_true rfl)) rfl rfl ?_
                            refine rf_R_put pm_M179 T4016 (pc' := 144) (pm_q179_1 (Nat.le_of_ble_eq_true rfl)) rfl rfl (by decide) rfl rfl (sf_weak sf_k2 (by decide) (by decide)) rfl rfl (fun h4019 m4022 em4023 T4020 F4021 => ?_)
                            have F4024 := F4018.trans F4021 (by decide)
                            have B4025 : sf_B 0 600 (m4022 11) := by rw [em4023]; exact B3888
                            have ek4026 : (m4022 11).toInt = ((m 11)).toInt := by rw [em4023]; exact ek3889
                            have B4027 : sf_B 0 599 (m4022 12) := by rw [em4023]; exact B3890
                            have ek4028 : (m4022 12).toInt = ((m_2034 10)).toInt := by rw [em4023]; exact ek3891
                            have B4029 : sf_B 0 599 (m4022 10) := by rw [em4023]; exact B3937
                            have ek4030 : (m4022 10).toInt = ((m_3884 10)).toInt := by rw [em4023]; rfl
                            have B4031 : sf_B 2 2 (m4022 13) := by rw [em4023]; exact sf_k2
                            have W4033 : rf_W [10, 12, 13, 14] m m4022 := by rw [em4023]; exact W3892.put (by decide)
                            refine pm_R_br pm_M179 (pc' := 266) (pm_q179_1 (Nat.le_of_ble_eq_true rfl)) rfl ?_
                            exact pm_R_ret pm_M179 (r := none) (pm_q179_2 (Nat.le_of_ble_eq_true rfl)) rfl (K m4022 0 h4019 T4020 F4024 W4033 (sf_aux43 _ _ _ ek4030 X_3884) (Or.inl (sf_aux42 _ _ _ ek4030 X_3884)))
                        · have B4034 : sf_B 97 122 z3944 := sf_leL (Int32.not_lt.mp c3991) B3990 sf_k122
                          refine pm_R_op pm_M174 (pc' := 11) (st' := [.int 1]) rfl rfl rfl ?_
                          refine pm_R_br pm_M174 (pc' := 15) rfl rfl ?_
                          refine pm_R_ret pm_M174 (r := some (.int 1)) rfl rfl ?_
                          show pm_R _ 179 85 [.ref 41, .int z2081, .int x2_3884] [.int 1] _ _
                          refine pm_R_br pm_M179 (pc' := 88) (st' := []) rfl rfl ?_
                          refine pm_R_lo pm_M179 (pc' := 89) rfl rfl rfl ?_
                          refine pm_R_lo pm_M179 (pc' := 90) rfl rfl rfl ?_
                          refine rf_R_get pm_M179 T_3884 (pc' := 93) (v := .long w_3884) rfl rfl rfl rfl ?_
                          refine pm_R_op pm_M179 (pc' := 95) (st' := [.int 8, .long w_3884, .ref 41]) rfl rfl rfl ?_
                          refine sf_R_lany pm_M179 (pc' := 96) (st := [.ref 41]) rfl rfl rfl (fun z4035 => ?_)
                          refine pm_R_lo pm_M179 (pc' := 97) rfl rfl rfl ?_
                          refine pm_R_cv pm_M179 (pc' := 100) (a := 41) (ra := []) (rest := [.long z4035, .ref 41]) (ls' := [.ref 41]) rfl rfl (Or.inl rfl) pm_M180 T_3884.2.1 rfl (by decide) (Nat.lt_of_lt_of_le (by decide) T_3884.1) rfl rfl (Nat.le_of_ble_eq_true rfl) rfl rfl ?_
                          refine pm_R_lo pm_M180 (pc' := 1) rfl rfl rfl ?_
                          refine rf_R_get pm_M180 T_3884 (pc' := 4) (v := .int (m_3884 10)) rfl rfl rfl rfl ?_
                          refine pm_R_lo pm_M180 (pc' := 5) rfl rfl rfl ?_
                          refine rf_R_get pm_M180 T_3884 (pc' := 8) (v := .int (m 11)) rfl rfl (congrArg (fun z => some (Value.int z)) (Int32.toInt_inj.mp (sf_aux37 _ _ ek3889))) rfl ?_
                          refine pm_R_icmp pm_M180 (t := 27) (pc' := 11) rfl rfl rfl (fun c4036 => absurd c4036 (Int32.not_le.mpr (Int32.not_le.mp c3894))) (fun c4036 => ?_)
                          skip
                          refine pm_R_lo pm_M180 (pc' := 12) rfl rfl rfl ?_
                          refine rf_R_get pm_M180 T_3884 (pc' := 15) (v := .ref 42) rfl rfl rfl rfl ?_
                          refine pm_R_lo pm_M180 (pc' := 16) rfl rfl rfl ?_
                          refine rf_R_get pm_M180 T_3884 (pc' := 19) (v := .int (m_3884 10)) rfl rfl rfl rfl ?_
                          refine pm_R_bald pm_M180 (pc' := 20) (v := z3942) rfl e3940 (Or.inl rfl) (by decide) (Nat.lt_of_lt_of_le (by decide) T_3884.1) (sf_in B3937 (by decide) (by decide)) ez3943 rfl ?_
                          refine pm_R_op pm_M180 (pc' := 23) (st' := [.int 255, .int z3942]) rfl rfl rfl ?_
                          refine pm_R_op pm_M180 (pc' := 24) (st' := [.int z3944]) rfl (by show some (Value.int (z3942 &&& 255) :: _) = _; rw [← e3945]) rfl ?_
                          refine pm_R_br pm_M180 (pc' := 28) rfl rfl ?_
                          refine pm_R_ret pm_M180 (r := some (.int z3944)) rfl (pm_ret_i _) ?_
                          show pm_R _ 179 100 [.ref 41, .int z2081, .int x2_3884] [.int z3944, .long z4035, .ref 41] _ _
                          refine sf_R_i2l pm_M179 (pc' := 101) rfl rfl B4034 (fun z4042 e4043 B4044 => ?_)
                          refine sf_R_lany pm_M179 (pc' := 102) (st := [.ref 41]) rfl rfl rfl (fun z4045 => ?_)
                          refine rf_R_putL pm_M179 T_3884 (pc' := 105) rfl rfl rfl (by decide) rfl rfl rfl rfl (fun h4046 T4047 F4048 => ?_)
                          have F4049 := F_3884.trans F4048 (by decide)
                          refine pm_R_lo pm_M179 (pc' := 106) rfl rfl rfl ?_
                          refine pm_R_op pm_M179 (pc' := 107) (st' := [.ref 41, .ref 41]) rfl rfl rfl ?_
                          refine rf_R_get pm_M179 T4047 (pc' := 110) (v := .int (m_3884 10)) rfl rfl rfl rfl ?_
                          refine pm_R_op pm_M179 (pc' := 111) (st' := [.int 1, .int (m_3884 10), .ref 41]) rfl rfl rfl ?_
                          refine sf_R_iadd pm_M179 (pc' := 112) rfl rfl B3937 sf_k1 (by decide) (by decide) (fun z4050 e4051 B4052 => ?_)
                          refine rf_R_put pm_M179 T4047 (pc' := 115) rfl rfl rfl (by decide) rfl rfl (sf_weak B4052 (by decide) (by decide)) rfl rfl (fun h4053 m4056 em4057 T4054 F4055 => ?_)
                          have F4058 := F4049.trans F4055 (by decide)
                          have B4059 : sf_B 0 600 (m4056 11) := by rw [em4057]; exact B3888
                          have ek4060 : (m4056 11).toInt = ((m 11)).toInt := by rw [em4057]; exact ek3889
                          have B4061 : sf_B 0 599 (m4056 12) := by rw [em4057]; exact B3890
                          have ek4062 : (m4056 12).toInt = ((m_2034 10)).toInt := by rw [em4057]; exact ek3891
                          have B4063 : sf_B 1 600 (m4056 10) := by rw [em4057]; exact B4052
                          have ek4064 : (m4056 10).toInt = (z4050).toInt := by rw [em4057]; rfl
                          have W4065 : rf_W [10, 12, 13, 14] m m4056 := by rw [em4057]; exact W3892.put (by decide)
                          have W4066 : rf_W [10] m3057 m4056 := by rw [em4057]; exact W_3884.put (by decide)
                          refine sf_R_iinc pm_M179 (pc' := 118) (ls' := fun z => [.ref 41, .int z2081, .int z]) (pm_q179_1 (Nat.le_of_ble_eq_true rfl)) B3938 rfl (by decide) (by decide) (by decide) (fun _ => rfl) rfl (fun z4067 e4068 B4069 => ?_)
                          show pm_R _ 179 118 [.ref 41, .int z2081, .int z4067] [] _ _
                          refine pm_R_br pm_M179 (pc' := 74) (pm_q179_1 (Nat.le_of_ble_eq_true rfl)) rfl ?_
                          exact ih_3884 _ (sf_up hN_3884 (sf_aux32 _ _ _ e4051 ek4064) B3937 (by decide) (by decide)) h4053 m4056 z4045 z4067 T4054 F4058 W4066 (sf_weak B4069 (by decide) (by decide)) (sf_aux48 _ _ _ _ _ e4068 e4051 ek4064 B3938.1 B3938.2 B3937.1 B3937.2 R0_3884) (sf_aux45 _ _ _ _ e4051 ek4064 X_3884) rfl
                exact L_3884 _ h3054 m3057 z3046 1 T3055 F3059 (rf_W.refl _ _) (sf_weak sf_k1 (by decide) (by decide)) (sf_aux49 _ _ _ e3052 ek3065 B2074.1 B2074.2) (sf_aux41 _ _ _ _ e3052 ek3065 X_2034) rfl
          · have B4070 : sf_B 32 32 z2081 := sf_eqL (Classical.not_not.mp c2107) sf_k32
            refine pm_R_lo pm_M179 (pc' := 19) rfl rfl rfl ?_
            refine pm_R_op pm_M179 (pc' := 20) (st' := [.ref 41, .ref 41]) rfl rfl rfl ?_
            refine rf_R_get pm_M179 T_2034 (pc' := 23) (v := .int (m_2034 10)) rfl rfl rfl rfl ?_
            refine pm_R_op pm_M179 (pc' := 24) (st' := [.int 1, .int (m_2034 10), .ref 41]) rfl rfl rfl ?_
            refine sf_R_iadd pm_M179 (pc' := 25) rfl rfl B2074 sf_k1 (by decide) (by decide) (fun z4071 e4072 B4073 => ?_)
            refine rf_R_put pm_M179 T_2034 (pc' := 28) rfl rfl rfl (by decide) rfl rfl (sf_weak B4073 (by decide) (by decide)) rfl rfl (fun h4074 m4077 em4078 T4075 F4076 => ?_)
            have F4079 := F_2034.trans F4076 (by decide)
            have B4080 : sf_B 0 600 (m4077 11) := by rw [em4078]; exact B2037
            have ek4081 : (m4077 11).toInt = ((m 11)).toInt := by rw [em4078]; exact ek2038
            have B4082 : sf_B 1 600 (m4077 10) := by rw [em4078]; exact B4073
            have ek4083 : (m4077 10).toInt = (z4071).toInt := by rw [em4078]; rfl
            have W4084 : rf_W [10, 12, 13, 14] m m4077 := by rw [em4078]; exact W2039.put (by decide)
            have W4085 : rf_W [10] m m4077 := by rw [em4078]; exact W_2034.put (by decide)
            refine pm_R_br pm_M179 (pc' := 0) rfl rfl ?_
            exact ih_2034 _ (sf_up hN_2034 (sf_aux32 _ _ _ e4072 ek4083) B2074 (by decide) (by decide)) h4074 m4077 w_2034  T4075 F4079 W4085  (sf_aux40 _ _ _ _ e4072 ek4083 X_2034) rfl
  exact L_2034 _ h m w  T (rf_G.refl [41] h) (rf_W.refl _ _)  (sf_aux50 _ ) rfl

theorem sf_aux51 (v0 v1 : Int) (q0 : v0 = v1) : v1 ≤ v0 := by omega
theorem sf_aux52 (v0 v1 : Int) (q0 : v0 ≤ v1) : v0 ≤ v1 := by omega
set_option maxRecDepth 100000 in
set_option maxHeartbeats 4000000 in
/-- SilentTableModel.actWord -/
theorem rf_c188 {d : Nat} {m : Nat → Int32} {w : Int64} {h : pm_H} {Q : Option Value → pm_H → Prop}  (T : rf_T m w h)  (K0 : ∀ (m' : Nat → Int32) (w' : Int64) (h' : pm_H), rf_T m' w' h' → rf_G [41, 52] h h' → rf_W [10, 12, 13, 14, 16] m m' → (m 10).toInt ≤ (m' 10).toInt → Q (some (.int 0)) h') (K1 : ∀ (m' : Nat → Int32) (w' : Int64) (h' : pm_H), rf_T m' w' h' → rf_G [41, 52] h h' → rf_W [10, 12, 13, 14, 16] m m' → (∀ g : Nat → Int32, h.2.2 52 = .inl (0, 4, .inl g) → ∃ v, sf_B 0 4 v ∧ h'.2.2 52 = .inl (0, 4, .inl (upd g (Int32.toNatClampNeg 3) v))) → (m 10).toInt ≤ (m' 10).toInt → Q (some (.int 1)) h') : pm_R (d + 2) 188 0 [.ref 41, pm_no, pm_no] [] h Q := by
  have B1 : sf_B 0 600 (m 10) := T.2.2.1 10
  refine pm_R_lo pm_M188 (pc' := 1) rfl rfl rfl ?_
  have B2 : sf_B 0 4 (m 13) := T.2.2.1 13
  refine rf_R_get pm_M188 T (pc' := 4) (v := .int (m 13)) rfl rfl rfl rfl ?_
  refine pm_R_op pm_M188 (pc' := 5) (st' := [.int 2, .int (m 13)]) rfl rfl rfl ?_
  refine pm_R_icmp pm_M188 (t := 15) (pc' := 8) rfl rfl rfl (fun c3 => ?_) (fun c3 => ?_)
  · skip
    refine pm_R_op pm_M188 (pc' := 16) (st' := [.long 0]) rfl rfl rfl ?_
    refine pm_R_lo pm_M188 (pc' := 17) (ls' := [.ref 41, .long 0, pm_no]) (st' := []) rfl rfl rfl ?_
    refine pm_R_lo pm_M188 (pc' := 18) rfl rfl rfl ?_
    refine rf_R_get pm_M188 T (pc' := 21) (v := .ref 52) rfl rfl rfl rfl ?_
    refine pm_R_op pm_M188 (pc' := 22) (st' := [.int 3, .ref 52]) rfl rfl rfl ?_
    refine pm_R_lo pm_M188 (pc' := 23) rfl rfl rfl ?_
    refine pm_R_ldc2 pm_M188 (pc' := 26) rfl rfl rfl ?_
    refine sf_R_lcmp pm_M188 (pc' := 27) rfl rfl (fun z4 e5 => ?_)
    have B6 : sf_B (-2147483648) (-1) z4 := lf_cmpLt e5 (⟨by decide, by decide⟩ : lf_B 0 0 0) (⟨by decide, by decide⟩ : lf_B 1751474532 1751474532 1751474532) (by decide)
    refine pm_R_ifc pm_M188 (t := 34) (pc' := 30) rfl rfl rfl (fun c7 => ?_) (fun c7 => absurd (Classical.not_not.mp c7) (sf_neq2 B6 sf_k0 (by decide)))
    have k8 := sf_lneC e5 c7
    refine pm_R_lo pm_M188 (pc' := 35) rfl rfl rfl ?_
    refine pm_R_ldc2 pm_M188 (pc' := 38) rfl rfl rfl ?_
    refine sf_R_lcmp pm_M188 (pc' := 39) rfl rfl (fun z9 e10 => ?_)
    have B11 : sf_B (-2147483648) (-1) z9 := lf_cmpLt e10 (⟨by decide, by decide⟩ : lf_B 0 0 0) (⟨by decide, by decide⟩ : lf_B 1952541036 1952541036 1952541036) (by decide)
    refine pm_R_ifc pm_M188 (t := 46) (pc' := 42) rfl rfl rfl (fun c12 => ?_) (fun c12 => absurd (Classical.not_not.mp c12) (sf_neq2 B11 sf_k0 (by decide)))
    have k13 := sf_lneC e10 c12
    refine pm_R_lo pm_M188 (pc' := 47) rfl rfl rfl ?_
    refine pm_R_ldc2 pm_M188 (pc' := 50) rfl rfl rfl ?_
    refine sf_R_lcmp pm_M188 (pc' := 51) rfl rfl (fun z14 e15 => ?_)
    have B16 : sf_B (-2147483648) (-1) z14 := lf_cmpLt e15 (⟨by decide, by decide⟩ : lf_B 0 0 0) (⟨by decide, by decide⟩ : lf_B 1886156147 1886156147 1886156147) (by decide)
    refine pm_R_ifc pm_M188 (t := 58) (pc' := 54) rfl rfl rfl (fun c17 => ?_) (fun c17 => absurd (Classical.not_not.mp c17) (sf_neq2 B16 sf_k0 (by decide)))
    have k18 := sf_lneC e15 c17
    refine pm_R_lo pm_M188 (pc' := 59) rfl rfl rfl ?_
    refine pm_R_ldc2 pm_M188 (pc' := 62) rfl rfl rfl ?_
    refine sf_R_lcmp pm_M188 (pc' := 63) rfl rfl (fun z19 e20 => ?_)
    have B21 : sf_B (-2147483648) (-1) z19 := lf_cmpLt e20 (⟨by decide, by decide⟩ : lf_B 0 0 0) (⟨by decide, by decide⟩ : lf_B 1818588019 1818588019 1818588019) (by decide)
    refine pm_R_ifc pm_M188 (t := 70) (pc' := 66) rfl rfl rfl (fun c22 => ?_) (fun c22 => absurd (Classical.not_not.mp c22) (sf_neq2 B21 sf_k0 (by decide)))
    have k23 := sf_lneC e20 c22
    refine pm_R_lo pm_M188 (pc' := 71) rfl rfl rfl ?_
    refine pm_R_ldc2 pm_M188 (pc' := 74) rfl rfl rfl ?_
    refine sf_R_lcmp pm_M188 (pc' := 75) rfl rfl (fun z24 e25 => ?_)
    have B26 : sf_B (-2147483648) (-1) z24 := lf_cmpLt e25 (⟨by decide, by decide⟩ : lf_B 0 0 0) (⟨by decide, by decide⟩ : lf_B 7237492 7237492 7237492) (by decide)
    refine pm_R_ifc pm_M188 (t := 82) (pc' := 78) rfl rfl rfl (fun c27 => ?_) (fun c27 => absurd (Classical.not_not.mp c27) (sf_neq2 B26 sf_k0 (by decide)))
    have k28 := sf_lneC e25 c27
    refine pm_R_op pm_M188 (pc' := 83) (st' := [.int (-1), .int 3, .ref 52]) rfl rfl rfl ?_
    obtain ⟨f29, e30, b31⟩ := T.2.2.2.1 52 (by decide) (by decide)
    refine rf_R_ist pm_M188 T (pc' := 84) rfl e30 (by decide) (by decide) rfl ⟨_, rfl, sf_upd b31 (sf_weak sf_kn1 (by decide) (by decide)) _⟩ rfl (fun h32 T33 F34 e35 => ?_)
    have F36 := (rf_G.refl [41, 52] h).trans F34 (by decide)
    refine pm_R_lo pm_M188 (pc' := 85) rfl rfl rfl ?_
    refine rf_R_get pm_M188 T33 (pc' := 88) (v := .ref 52) rfl rfl rfl rfl ?_
    refine pm_R_op pm_M188 (pc' := 89) (st' := [.int 3, .ref 52]) rfl rfl rfl ?_
    refine pm_R_iald pm_M188 (pc' := 90) (v := (-1)) rfl e35 (Nat.lt_of_lt_of_le (by decide) T33.1) rfl rfl rfl ?_
    refine pm_R_op pm_M188 (pc' := 91) (st' := [.int (-1), .int (-1)]) rfl rfl rfl ?_
    refine pm_R_br pm_M188 (pc' := 94) (st' := []) rfl rfl ?_
    refine pm_R_lo pm_M188 (pc' := 95) rfl rfl rfl ?_
    refine pm_R_cv pm_M188 (pc' := 98) (a := 41) (ra := []) (rest := []) (ls' := [.ref 41]) rfl rfl (Or.inl rfl) pm_M184 T33.2.1 rfl (by decide) (Nat.lt_of_lt_of_le (by decide) T33.1) rfl rfl (Nat.le_of_ble_eq_true rfl) rfl rfl ?_
    refine pm_R_lo pm_M184 (pc' := 1) rfl rfl rfl ?_
    refine pm_R_lo pm_M184 (pc' := 2) rfl rfl rfl ?_
    have B39 : sf_B 0 600 (m 12) := T33.2.2.1 12
    refine rf_R_get pm_M184 T33 (pc' := 5) (v := .int (m 12)) rfl rfl rfl rfl ?_
    refine rf_R_put pm_M184 T33 (pc' := 8) rfl rfl rfl (by decide) rfl rfl B39 rfl rfl (fun h40 m43 em44 T41 F42 => ?_)
    have F45 := F36.trans F42 (by decide)
    have B46 : sf_B 0 600 (m43 10) := by rw [em44]; exact B1
    have ek47 : (m43 10).toInt = ((m 10)).toInt := by rw [em44]; rfl
    have B48 : sf_B 0 600 (m43 16) := by rw [em44]; exact B39
    have ek49 : (m43 16).toInt = ((m 12)).toInt := by rw [em44]; rfl
    have W50 : rf_W [10, 12, 13, 14, 16] m m43 := by rw [em44]; exact (rf_W.refl [10, 12, 13, 14, 16] m).put (by decide)
    refine pm_R_op pm_M184 (pc' := 9) (st' := [.int 0]) rfl rfl rfl ?_
    refine pm_R_ret pm_M184 (r := some (.int 0)) rfl rfl ?_
    show pm_R _ 188 98 [.ref 41, .long 0, pm_no] [.int 0] _ _
    exact pm_R_ret pm_M188 (r := some (.int 0)) rfl rfl (K0 m43 w h40 T41 F45 W50 (sf_aux51 _ _ ek47))
  · have B51 : sf_B 2 2 (m 13) := sf_eqL (Classical.not_not.mp c3) sf_k2
    refine pm_R_lo pm_M188 (pc' := 9) rfl rfl rfl ?_
    refine rf_R_get pm_M188 T (pc' := 12) (v := .long w) rfl rfl rfl rfl ?_
    refine pm_R_br pm_M188 (pc' := 16) rfl rfl ?_
    refine pm_R_lo pm_M188 (pc' := 17) (ls' := [.ref 41, .long w, pm_no]) (st' := []) rfl rfl rfl ?_
    refine pm_R_lo pm_M188 (pc' := 18) rfl rfl rfl ?_
    refine rf_R_get pm_M188 T (pc' := 21) (v := .ref 52) rfl rfl rfl rfl ?_
    refine pm_R_op pm_M188 (pc' := 22) (st' := [.int 3, .ref 52]) rfl rfl rfl ?_
    refine pm_R_lo pm_M188 (pc' := 23) rfl rfl rfl ?_
    refine pm_R_ldc2 pm_M188 (pc' := 26) rfl rfl rfl ?_
    refine sf_R_lcmp pm_M188 (pc' := 27) rfl rfl (fun z52 e53 => ?_)
    refine pm_R_ifc pm_M188 (t := 34) (pc' := 30) rfl rfl rfl (fun c54 => ?_) (fun c54 => ?_)
    · have k55 := sf_lneC e53 c54
      refine pm_R_lo pm_M188 (pc' := 35) rfl rfl rfl ?_
      refine pm_R_ldc2 pm_M188 (pc' := 38) rfl rfl rfl ?_
      refine sf_R_lcmp pm_M188 (pc' := 39) rfl rfl (fun z56 e57 => ?_)
      refine pm_R_ifc pm_M188 (t := 46) (pc' := 42) rfl rfl rfl (fun c58 => ?_) (fun c58 => ?_)
      · have k59 := sf_lneC e57 c58
        refine pm_R_lo pm_M188 (pc' := 47) rfl rfl rfl ?_
        refine pm_R_ldc2 pm_M188 (pc' := 50) rfl rfl rfl ?_
        refine sf_R_lcmp pm_M188 (pc' := 51) rfl rfl (fun z60 e61 => ?_)
        refine pm_R_ifc pm_M188 (t := 58) (pc' := 54) rfl rfl rfl (fun c62 => ?_) (fun c62 => ?_)
        · have k63 := sf_lneC e61 c62
          refine pm_R_lo pm_M188 (pc' := 59) rfl rfl rfl ?_
          refine pm_R_ldc2 pm_M188 (pc' := 62) rfl rfl rfl ?_
          refine sf_R_lcmp pm_M188 (pc' := 63) rfl rfl (fun z64 e65 => ?_)
          refine pm_R_ifc pm_M188 (t := 70) (pc' := 66) rfl rfl rfl (fun c66 => ?_) (fun c66 => ?_)
          · have k67 := sf_lneC e65 c66
            refine pm_R_lo pm_M188 (pc' := 71) rfl rfl rfl ?_
            refine pm_R_ldc2 pm_M188 (pc' := 74) rfl rfl rfl ?_
            refine sf_R_lcmp pm_M188 (pc' := 75) rfl rfl (fun z68 e69 => ?_)
            refine pm_R_ifc pm_M188 (t := 82) (pc' := 78) rfl rfl rfl (fun c70 => ?_) (fun c70 => ?_)
            · have k71 := sf_lneC e69 c70
              refine pm_R_op pm_M188 (pc' := 83) (st' := [.int (-1), .int 3, .ref 52]) rfl rfl rfl ?_
              obtain ⟨f72, e73, b74⟩ := T.2.2.2.1 52 (by decide) (by decide)
              refine rf_R_ist pm_M188 T (pc' := 84) rfl e73 (by decide) (by decide) rfl ⟨_, rfl, sf_upd b74 (sf_weak sf_kn1 (by decide) (by decide)) _⟩ rfl (fun h75 T76 F77 e78 => ?_)
              have F79 := (rf_G.refl [41, 52] h).trans F77 (by decide)
              refine pm_R_lo pm_M188 (pc' := 85) rfl rfl rfl ?_
              refine rf_R_get pm_M188 T76 (pc' := 88) (v := .ref 52) rfl rfl rfl rfl ?_
              refine pm_R_op pm_M188 (pc' := 89) (st' := [.int 3, .ref 52]) rfl rfl rfl ?_
              refine pm_R_iald pm_M188 (pc' := 90) (v := (-1)) rfl e78 (Nat.lt_of_lt_of_le (by decide) T76.1) rfl rfl rfl ?_
              refine pm_R_op pm_M188 (pc' := 91) (st' := [.int (-1), .int (-1)]) rfl rfl rfl ?_
              refine pm_R_br pm_M188 (pc' := 94) (st' := []) rfl rfl ?_
              refine pm_R_lo pm_M188 (pc' := 95) rfl rfl rfl ?_
              refine pm_R_cv pm_M188 (pc' := 98) (a := 41) (ra := []) (rest := []) (ls' := [.ref 41]) rfl rfl (Or.inl rfl) pm_M184 T76.2.1 rfl (by decide) (Nat.lt_of_lt_of_le (by decide) T76.1) rfl rfl (Nat.le_of_ble_eq_true rfl) rfl rfl ?_
              refine pm_R_lo pm_M184 (pc' := 1) rfl rfl rfl ?_
              refine pm_R_lo pm_M184 (pc' := 2) rfl rfl rfl ?_
              have B82 : sf_B 0 600 (m 12) := T76.2.2.1 12
              refine rf_R_get pm_M184 T76 (pc' := 5) (v := .int (m 12)) rfl rfl rfl rfl ?_
              refine rf_R_put pm_M184 T76 (pc' := 8) rfl rfl rfl (by decide) rfl rfl B82 rfl rfl (fun h83 m86 em87 T84 F85 => ?_)
              have F88 := F79.trans F85 (by decide)
              have B89 : sf_B 0 600 (m86 10) := by rw [em87]; exact B1
              have ek90 : (m86 10).toInt = ((m 10)).toInt := by rw [em87]; rfl
              have B91 : sf_B 2 2 (m86 13) := by rw [em87]; exact B51
              have B92 : sf_B 0 600 (m86 16) := by rw [em87]; exact B82
              have ek93 : (m86 16).toInt = ((m 12)).toInt := by rw [em87]; rfl
              have W94 : rf_W [10, 12, 13, 14, 16] m m86 := by rw [em87]; exact (rf_W.refl [10, 12, 13, 14, 16] m).put (by decide)
              refine pm_R_op pm_M184 (pc' := 9) (st' := [.int 0]) rfl rfl rfl ?_
              refine pm_R_ret pm_M184 (r := some (.int 0)) rfl rfl ?_
              show pm_R _ 188 98 [.ref 41, .long w, pm_no] [.int 0] _ _
              exact pm_R_ret pm_M188 (r := some (.int 0)) rfl rfl (K0 m86 w h83 T84 F88 W94 (sf_aux51 _ _ ek90))
            · have B95 : sf_B 0 0 z68 := sf_eqL (Classical.not_not.mp c70) sf_k0
              have B96 : lf_B 7237492 7237492 w := lf_eqB e69 B95 (⟨by decide, by decide⟩ : lf_B 7237492 7237492 7237492)
              refine pm_R_op pm_M188 (pc' := 79) (st' := [.int 4, .int 3, .ref 52]) rfl rfl rfl ?_
              refine pm_R_br pm_M188 (pc' := 83) rfl rfl ?_
              obtain ⟨f97, e98, b99⟩ := T.2.2.2.1 52 (by decide) (by decide)
              refine rf_R_ist pm_M188 T (pc' := 84) rfl e98 (by decide) (by decide) rfl ⟨_, rfl, sf_upd b99 (sf_weak sf_k4 (by decide) (by decide)) _⟩ rfl (fun h100 T101 F102 e103 => ?_)
              have F104 := (rf_G.refl [41, 52] h).trans F102 (by decide)
              refine pm_R_lo pm_M188 (pc' := 85) rfl rfl rfl ?_
              refine rf_R_get pm_M188 T101 (pc' := 88) (v := .ref 52) rfl rfl rfl rfl ?_
              refine pm_R_op pm_M188 (pc' := 89) (st' := [.int 3, .ref 52]) rfl rfl rfl ?_
              refine pm_R_iald pm_M188 (pc' := 90) (v := 4) rfl e103 (Nat.lt_of_lt_of_le (by decide) T101.1) rfl rfl rfl ?_
              refine pm_R_op pm_M188 (pc' := 91) (st' := [.int (-1), .int 4]) rfl rfl rfl ?_
              refine pm_R_br pm_M188 (pc' := 99) (st' := []) rfl rfl ?_
              refine pm_R_lo pm_M188 (pc' := 100) rfl rfl rfl ?_
              refine pm_R_cv pm_M188 (pc' := 103) (a := 41) (ra := []) (rest := []) (ls' := [.ref 41, pm_no, pm_no]) rfl rfl (Or.inl rfl) pm_M179 T101.2.1 rfl (by decide) (Nat.lt_of_lt_of_le (by decide) T101.1) rfl rfl (Nat.le_of_ble_eq_true rfl) rfl rfl ?_
              refine rf_c179 (d := d + 0) T101  (fun m109 w110 h111 T112 F113 W114 X115 X116 => ?_)
              have F117 := F104.trans F113 (by decide)
              have W118 : rf_W [10, 12, 13, 14, 16] m m109 := (rf_W.refl [10, 12, 13, 14, 16] m).trans W114 (by decide)
              show pm_R _ 188 103 [.ref 41, .long w, pm_no] [] _ _
              refine pm_R_op pm_M188 (pc' := 104) (st' := [.int 1]) rfl rfl rfl ?_
              have e119 := (F113.cell (by decide) e103)
              have B120 : sf_B 0 600 (m109 10) := T112.2.2.1 10
              exact pm_R_ret pm_M188 (r := some (.int 1)) rfl rfl (K1 m109 w110 h111 T112 F117 W118 (fun g eg => by rw [e98] at eg; cases eg; exact ⟨4, (sf_weak sf_k4 (by decide) (by decide)), e119⟩) (sf_aux52 _ _ X115))
          · have B121 : sf_B 0 0 z64 := sf_eqL (Classical.not_not.mp c66) sf_k0
            have B122 : lf_B 1818588019 1818588019 w := lf_eqB e65 B121 (⟨by decide, by decide⟩ : lf_B 1818588019 1818588019 1818588019)
            refine pm_R_op pm_M188 (pc' := 67) (st' := [.int 3, .int 3, .ref 52]) rfl rfl rfl ?_
            refine pm_R_br pm_M188 (pc' := 83) rfl rfl ?_
            obtain ⟨f123, e124, b125⟩ := T.2.2.2.1 52 (by decide) (by decide)
            refine rf_R_ist pm_M188 T (pc' := 84) rfl e124 (by decide) (by decide) rfl ⟨_, rfl, sf_upd b125 (sf_weak sf_k3 (by decide) (by decide)) _⟩ rfl (fun h126 T127 F128 e129 => ?_)
            have F130 := (rf_G.refl [41, 52] h).trans F128 (by decide)
            refine pm_R_lo pm_M188 (pc' := 85) rfl rfl rfl ?_
            refine rf_R_get pm_M188 T127 (pc' := 88) (v := .ref 52) rfl rfl rfl rfl ?_
            refine pm_R_op pm_M188 (pc' := 89) (st' := [.int 3, .ref 52]) rfl rfl rfl ?_
            refine pm_R_iald pm_M188 (pc' := 90) (v := 3) rfl e129 (Nat.lt_of_lt_of_le (by decide) T127.1) rfl rfl rfl ?_
            refine pm_R_op pm_M188 (pc' := 91) (st' := [.int (-1), .int 3]) rfl rfl rfl ?_
            refine pm_R_br pm_M188 (pc' := 99) (st' := []) rfl rfl ?_
            refine pm_R_lo pm_M188 (pc' := 100) rfl rfl rfl ?_
            refine pm_R_cv pm_M188 (pc' := 103) (a := 41) (ra := []) (rest := []) (ls' := [.ref 41, pm_no, pm_no]) rfl rfl (Or.inl rfl) pm_M179 T127.2.1 rfl (by decide) (Nat.lt_of_lt_of_le (by decide) T127.1) rfl rfl (Nat.le_of_ble_eq_true rfl) rfl rfl ?_
            refine rf_c179 (d := d + 0) T127  (fun m135 w136 h137 T138 F139 W140 X141 X142 => ?_)
            have F143 := F130.trans F139 (by decide)
            have W144 : rf_W [10, 12, 13, 14, 16] m m135 := (rf_W.refl [10, 12, 13, 14, 16] m).trans W140 (by decide)
            show pm_R _ 188 103 [.ref 41, .long w, pm_no] [] _ _
            refine pm_R_op pm_M188 (pc' := 104) (st' := [.int 1]) rfl rfl rfl ?_
            have e145 := (F139.cell (by decide) e129)
            have B146 : sf_B 0 600 (m135 10) := T138.2.2.1 10
            exact pm_R_ret pm_M188 (r := some (.int 1)) rfl rfl (K1 m135 w136 h137 T138 F143 W144 (fun g eg => by rw [e124] at eg; cases eg; exact ⟨3, (sf_weak sf_k3 (by decide) (by decide)), e145⟩) (sf_aux52 _ _ X141))
        · have B147 : sf_B 0 0 z60 := sf_eqL (Classical.not_not.mp c62) sf_k0
          have B148 : lf_B 1886156147 1886156147 w := lf_eqB e61 B147 (⟨by decide, by decide⟩ : lf_B 1886156147 1886156147 1886156147)
          refine pm_R_op pm_M188 (pc' := 55) (st' := [.int 2, .int 3, .ref 52]) rfl rfl rfl ?_
          refine pm_R_br pm_M188 (pc' := 83) rfl rfl ?_
          obtain ⟨f149, e150, b151⟩ := T.2.2.2.1 52 (by decide) (by decide)
          refine rf_R_ist pm_M188 T (pc' := 84) rfl e150 (by decide) (by decide) rfl ⟨_, rfl, sf_upd b151 (sf_weak sf_k2 (by decide) (by decide)) _⟩ rfl (fun h152 T153 F154 e155 => ?_)
          have F156 := (rf_G.refl [41, 52] h).trans F154 (by decide)
          refine pm_R_lo pm_M188 (pc' := 85) rfl rfl rfl ?_
          refine rf_R_get pm_M188 T153 (pc' := 88) (v := .ref 52) rfl rfl rfl rfl ?_
          refine pm_R_op pm_M188 (pc' := 89) (st' := [.int 3, .ref 52]) rfl rfl rfl ?_
          refine pm_R_iald pm_M188 (pc' := 90) (v := 2) rfl e155 (Nat.lt_of_lt_of_le (by decide) T153.1) rfl rfl rfl ?_
          refine pm_R_op pm_M188 (pc' := 91) (st' := [.int (-1), .int 2]) rfl rfl rfl ?_
          refine pm_R_br pm_M188 (pc' := 99) (st' := []) rfl rfl ?_
          refine pm_R_lo pm_M188 (pc' := 100) rfl rfl rfl ?_
          refine pm_R_cv pm_M188 (pc' := 103) (a := 41) (ra := []) (rest := []) (ls' := [.ref 41, pm_no, pm_no]) rfl rfl (Or.inl rfl) pm_M179 T153.2.1 rfl (by decide) (Nat.lt_of_lt_of_le (by decide) T153.1) rfl rfl (Nat.le_of_ble_eq_true rfl) rfl rfl ?_
          refine rf_c179 (d := d + 0) T153  (fun m161 w162 h163 T164 F165 W166 X167 X168 => ?_)
          have F169 := F156.trans F165 (by decide)
          have W170 : rf_W [10, 12, 13, 14, 16] m m161 := (rf_W.refl [10, 12, 13, 14, 16] m).trans W166 (by decide)
          show pm_R _ 188 103 [.ref 41, .long w, pm_no] [] _ _
          refine pm_R_op pm_M188 (pc' := 104) (st' := [.int 1]) rfl rfl rfl ?_
          have e171 := (F165.cell (by decide) e155)
          have B172 : sf_B 0 600 (m161 10) := T164.2.2.1 10
          exact pm_R_ret pm_M188 (r := some (.int 1)) rfl rfl (K1 m161 w162 h163 T164 F169 W170 (fun g eg => by rw [e150] at eg; cases eg; exact ⟨2, (sf_weak sf_k2 (by decide) (by decide)), e171⟩) (sf_aux52 _ _ X167))
      · have B173 : sf_B 0 0 z56 := sf_eqL (Classical.not_not.mp c58) sf_k0
        have B174 : lf_B 1952541036 1952541036 w := lf_eqB e57 B173 (⟨by decide, by decide⟩ : lf_B 1952541036 1952541036 1952541036)
        refine pm_R_op pm_M188 (pc' := 43) (st' := [.int 1, .int 3, .ref 52]) rfl rfl rfl ?_
        refine pm_R_br pm_M188 (pc' := 83) rfl rfl ?_
        obtain ⟨f175, e176, b177⟩ := T.2.2.2.1 52 (by decide) (by decide)
        refine rf_R_ist pm_M188 T (pc' := 84) rfl e176 (by decide) (by decide) rfl ⟨_, rfl, sf_upd b177 (sf_weak sf_k1 (by decide) (by decide)) _⟩ rfl (fun h178 T179 F180 e181 => ?_)
        have F182 := (rf_G.refl [41, 52] h).trans F180 (by decide)
        refine pm_R_lo pm_M188 (pc' := 85) rfl rfl rfl ?_
        refine rf_R_get pm_M188 T179 (pc' := 88) (v := .ref 52) rfl rfl rfl rfl ?_
        refine pm_R_op pm_M188 (pc' := 89) (st' := [.int 3, .ref 52]) rfl rfl rfl ?_
        refine pm_R_iald pm_M188 (pc' := 90) (v := 1) rfl e181 (Nat.lt_of_lt_of_le (by decide) T179.1) rfl rfl rfl ?_
        refine pm_R_op pm_M188 (pc' := 91) (st' := [.int (-1), .int 1]) rfl rfl rfl ?_
        refine pm_R_br pm_M188 (pc' := 99) (st' := []) rfl rfl ?_
        refine pm_R_lo pm_M188 (pc' := 100) rfl rfl rfl ?_
        refine pm_R_cv pm_M188 (pc' := 103) (a := 41) (ra := []) (rest := []) (ls' := [.ref 41, pm_no, pm_no]) rfl rfl (Or.inl rfl) pm_M179 T179.2.1 rfl (by decide) (Nat.lt_of_lt_of_le (by decide) T179.1) rfl rfl (Nat.le_of_ble_eq_true rfl) rfl rfl ?_
        refine rf_c179 (d := d + 0) T179  (fun m187 w188 h189 T190 F191 W192 X193 X194 => ?_)
        have F195 := F182.trans F191 (by decide)
        have W196 : rf_W [10, 12, 13, 14, 16] m m187 := (rf_W.refl [10, 12, 13, 14, 16] m).trans W192 (by decide)
        show pm_R _ 188 103 [.ref 41, .long w, pm_no] [] _ _
        refine pm_R_op pm_M188 (pc' := 104) (st' := [.int 1]) rfl rfl rfl ?_
        have e197 := (F191.cell (by decide) e181)
        have B198 : sf_B 0 600 (m187 10) := T190.2.2.1 10
        exact pm_R_ret pm_M188 (r := some (.int 1)) rfl rfl (K1 m187 w188 h189 T190 F195 W196 (fun g eg => by rw [e176] at eg; cases eg; exact ⟨1, (sf_weak sf_k1 (by decide) (by decide)), e197⟩) (sf_aux52 _ _ X193))
    · have B199 : sf_B 0 0 z52 := sf_eqL (Classical.not_not.mp c54) sf_k0
      have B200 : lf_B 1751474532 1751474532 w := lf_eqB e53 B199 (⟨by decide, by decide⟩ : lf_B 1751474532 1751474532 1751474532)
      refine pm_R_op pm_M188 (pc' := 31) (st' := [.int 0, .int 3, .ref 52]) rfl rfl rfl ?_
      refine pm_R_br pm_M188 (pc' := 83) rfl rfl ?_
      obtain ⟨f201, e202, b203⟩ := T.2.2.2.1 52 (by decide) (by decide)
      refine rf_R_ist pm_M188 T (pc' := 84) rfl e202 (by decide) (by decide) rfl ⟨_, rfl, sf_upd b203 (sf_weak sf_k0 (by decide) (by decide)) _⟩ rfl (fun h204 T205 F206 e207 => ?_)
      have F208 := (rf_G.refl [41, 52] h).trans F206 (by decide)
      refine pm_R_lo pm_M188 (pc' := 85) rfl rfl rfl ?_
      refine rf_R_get pm_M188 T205 (pc' := 88) (v := .ref 52) rfl rfl rfl rfl ?_
      refine pm_R_op pm_M188 (pc' := 89) (st' := [.int 3, .ref 52]) rfl rfl rfl ?_
      refine pm_R_iald pm_M188 (pc' := 90) (v := 0) rfl e207 (Nat.lt_of_lt_of_le (by decide) T205.1) rfl rfl rfl ?_
      refine pm_R_op pm_M188 (pc' := 91) (st' := [.int (-1), .int 0]) rfl rfl rfl ?_
      refine pm_R_br pm_M188 (pc' := 99) (st' := []) rfl rfl ?_
      refine pm_R_lo pm_M188 (pc' := 100) rfl rfl rfl ?_
      refine pm_R_cv pm_M188 (pc' := 103) (a := 41) (ra := []) (rest := []) (ls' := [.ref 41, pm_no, pm_no]) rfl rfl (Or.inl rfl) pm_M179 T205.2.1 rfl (by decide) (Nat.lt_of_lt_of_le (by decide) T205.1) rfl rfl (Nat.le_of_ble_eq_true rfl) rfl rfl ?_
      refine rf_c179 (d := d + 0) T205  (fun m213 w214 h215 T216 F217 W218 X219 X220 => ?_)
      have F221 := F208.trans F217 (by decide)
      have W222 : rf_W [10, 12, 13, 14, 16] m m213 := (rf_W.refl [10, 12, 13, 14, 16] m).trans W218 (by decide)
      show pm_R _ 188 103 [.ref 41, .long w, pm_no] [] _ _
      refine pm_R_op pm_M188 (pc' := 104) (st' := [.int 1]) rfl rfl rfl ?_
      have e223 := (F217.cell (by decide) e207)
      have B224 : sf_B 0 600 (m213 10) := T216.2.2.1 10
      exact pm_R_ret pm_M188 (r := some (.int 1)) rfl rfl (K1 m213 w214 h215 T216 F221 W222 (fun g eg => by rw [e202] at eg; cases eg; exact ⟨0, (sf_weak sf_k0 (by decide) (by decide)), e223⟩) (sf_aux52 _ _ X219))

theorem sf_aux53 (v0 v1 : Int) (q0 : v0 = v1) (q1 : v0 = 0) : v1 = 0 := by omega
theorem sf_aux54 (v0 v1 v2 v3 : Int) (q0 : v0 = 4 * v1) (q1 : v2 = 2 + v0) (q2 : v3 = v2 + 0) : v3 = 2 + 4 * v1 + 0 := by omega
theorem sf_aux55 (v0 v1 v2 v3 : Int) (q0 : v0 = 4 * v1) (q1 : v2 = 2 + v0) (q2 : v3 = v2 + 1) : v3 = 2 + 4 * v1 + 1 := by omega
theorem sf_aux56 (v0 v1 v2 v3 : Int) (q0 : v0 = 4 * v1) (q1 : v2 = 2 + v0) (q2 : v3 = v2 + 2) : v3 = 2 + 4 * v1 + 2 := by omega
theorem sf_aux57 (v0 v1 v2 v3 : Int) (q0 : v0 = 4 * v1) (q1 : v2 = 2 + v0) (q2 : v3 = v2 + 3) : v3 = 2 + 4 * v1 + 3 := by omega
theorem sf_aux58 (v0 v1 v2 v3 : Int) (q0 : v0 = 3 * v1) (q1 : v2 = 42 + v0) (q2 : v3 = v2 + 0) : v3 = 42 + 3 * v1 + 0 := by omega
theorem sf_aux59 (v0 v1 v2 v3 : Int) (q0 : v0 = 3 * v1) (q1 : v2 = 42 + v0) (q2 : v3 = v2 + 1) : v3 = 42 + 3 * v1 + 1 := by omega
theorem sf_aux60 (v0 v1 v2 v3 : Int) (q0 : v0 = 3 * v1) (q1 : v2 = 42 + v0) (q2 : v3 = v2 + 2) : v3 = 42 + 3 * v1 + 2 := by omega
theorem sf_aux61 (v0 v1 : Int) (q0 : v0 = 90 + v1) : v0 = 90 + v1 := by omega
theorem sf_aux62 (v0 v1 v2 v3 v4 v5 v6 v7 v8 v9 : Int) (q0 : v0 ≤ v1) (q1 : v2 ≤ v3) (q2 : v4 ≤ v5) (q3 : v6 ≤ v7) (q4 : v7 ≤ v8) : v9 ≤ v8 := by omega
theorem sf_aux63 (v0 v1 v2 v3 v4 v5 v6 v7 v8 : Int) (q0 : v0 ≤ v1) (q1 : v2 ≤ v3) (q2 : v4 ≤ v5) (q3 : v5 ≤ v6) (q4 : v6 ≤ v7) : v8 ≤ v7 := by omega
theorem sf_aux64 (v0 v1 v2 v3 v4 v5 v6 v7 : Int) (q0 : v0 ≤ v1) (q1 : v2 ≤ v3) (q2 : v4 ≤ v5) : v6 ≤ v7 := by omega
theorem sf_aux65 (v0 v1 v2 v3 v4 v5 v6 v7 v8 : Int) (q0 : v0 ≤ v1) (q1 : v2 ≤ v3) (q2 : v3 ≤ v4) (q3 : v5 ≤ v6) (q4 : v6 ≤ v7) : v8 ≤ v7 := by omega
theorem sf_aux66 (v0 v1 v2 v3 v4 v5 v6 v7 : Int) (q0 : v0 ≤ v1) (q1 : v2 ≤ v3) (q2 : v3 ≤ v4) (q3 : v4 ≤ v5) (q4 : v5 ≤ v6) : v7 ≤ v6 := by omega
theorem sf_aux67 (v0 v1 v2 v3 v4 v5 v6 : Int) (q0 : v0 ≤ v1) (q1 : v2 ≤ v3) (q2 : v3 ≤ v4) : v5 ≤ v6 := by omega
theorem sf_aux68 (v0 v1 v2 v3 v4 v5 : Int) (q0 : v0 ≤ v1) (q1 : v2 ≤ v3) : v4 ≤ v5 := by omega
theorem sf_aux69 (v0 v1 v2 v3 v4 v5 v6 v7 v8 : Int) (q0 : v0 ≤ v1) (q1 : v1 ≤ v2) (q2 : v3 ≤ v4) (q3 : v5 ≤ v6) (q4 : v6 ≤ v7) : v8 ≤ v7 := by omega
theorem sf_aux70 (v0 v1 v2 v3 v4 v5 v6 v7 : Int) (q0 : v0 ≤ v1) (q1 : v1 ≤ v2) (q2 : v3 ≤ v4) (q3 : v4 ≤ v5) (q4 : v5 ≤ v6) : v7 ≤ v6 := by omega
theorem sf_aux71 (v0 v1 v2 v3 v4 v5 v6 : Int) (q0 : v0 ≤ v1) (q1 : v1 ≤ v2) (q2 : v3 ≤ v4) : v5 ≤ v6 := by omega
theorem sf_aux72 (v0 v1 v2 v3 v4 v5 v6 v7 : Int) (q0 : v0 ≤ v1) (q1 : v1 ≤ v2) (q2 : v2 ≤ v3) (q3 : v4 ≤ v5) (q4 : v5 ≤ v6) : v7 ≤ v6 := by omega
theorem sf_aux73 (v0 v1 v2 v3 v4 v5 v6 : Int) (q0 : v0 ≤ v1) (q1 : v1 ≤ v2) (q2 : v2 ≤ v3) (q3 : v3 ≤ v4) (q4 : v4 ≤ v5) : v6 ≤ v5 := by omega
theorem sf_aux74 (v0 v1 v2 v3 v4 v5 : Int) (q0 : v0 ≤ v1) (q1 : v1 ≤ v2) (q2 : v2 ≤ v3) : v4 ≤ v5 := by omega
theorem sf_aux75 (v0 v1 v2 v3 v4 : Int) (q0 : v0 ≤ v1) (q1 : v1 ≤ v2) : v3 ≤ v4 := by omega
theorem sf_aux76 (v0 v1 v2 v3 : Int) (q0 : v0 ≤ v1) : v2 ≤ v3 := by omega
theorem sf_aux77 (v0 v1 v2 v3 v4 v5 v6 v7 v8 : Int) (q0 : v0 ≤ v1) (q1 : v2 ≤ v3) (q2 : v4 ≤ v5) (q3 : v6 ≤ v7) (q4 : v7 ≤ v8) : v0 ≤ v8 := by omega
theorem sf_aux78 (v0 v1 v2 v3 v4 v5 v6 v7 : Int) (q0 : v0 ≤ v1) (q1 : v2 ≤ v3) (q2 : v4 ≤ v5) (q3 : v5 ≤ v6) (q4 : v6 ≤ v7) : v0 ≤ v7 := by omega
theorem sf_aux79 (v0 v1 v2 v3 v4 v5 v6 : Int) (q0 : v0 ≤ v1) (q1 : v2 ≤ v3) (q2 : v4 ≤ v5) : v0 ≤ v6 := by omega
theorem sf_aux80 (v0 v1 v2 v3 v4 v5 v6 v7 : Int) (q0 : v0 ≤ v1) (q1 : v2 ≤ v3) (q2 : v3 ≤ v4) (q3 : v5 ≤ v6) (q4 : v6 ≤ v7) : v0 ≤ v7 := by omega
theorem sf_aux81 (v0 v1 v2 v3 v4 v5 v6 : Int) (q0 : v0 ≤ v1) (q1 : v2 ≤ v3) (q2 : v3 ≤ v4) (q3 : v4 ≤ v5) (q4 : v5 ≤ v6) : v0 ≤ v6 := by omega
theorem sf_aux82 (v0 v1 v2 v3 v4 v5 : Int) (q0 : v0 ≤ v1) (q1 : v2 ≤ v3) (q2 : v3 ≤ v4) : v0 ≤ v5 := by omega
theorem sf_aux83 (v0 v1 v2 v3 v4 : Int) (q0 : v0 ≤ v1) (q1 : v2 ≤ v3) : v0 ≤ v4 := by omega
theorem sf_aux84 (v0 v1 v2 v3 v4 v5 v6 v7 : Int) (q0 : v0 ≤ v1) (q1 : v1 ≤ v2) (q2 : v3 ≤ v4) (q3 : v5 ≤ v6) (q4 : v6 ≤ v7) : v0 ≤ v7 := by omega
theorem sf_aux85 (v0 v1 v2 v3 v4 v5 v6 : Int) (q0 : v0 ≤ v1) (q1 : v1 ≤ v2) (q2 : v3 ≤ v4) (q3 : v4 ≤ v5) (q4 : v5 ≤ v6) : v0 ≤ v6 := by omega
theorem sf_aux86 (v0 v1 v2 v3 v4 v5 : Int) (q0 : v0 ≤ v1) (q1 : v1 ≤ v2) (q2 : v3 ≤ v4) : v0 ≤ v5 := by omega
theorem sf_aux87 (v0 v1 v2 v3 v4 v5 v6 : Int) (q0 : v0 ≤ v1) (q1 : v1 ≤ v2) (q2 : v2 ≤ v3) (q3 : v4 ≤ v5) (q4 : v5 ≤ v6) : v0 ≤ v6 := by omega
theorem sf_aux88 (v0 v1 v2 v3 v4 v5 : Int) (q0 : v0 ≤ v1) (q1 : v1 ≤ v2) (q2 : v2 ≤ v3) (q3 : v3 ≤ v4) (q4 : v4 ≤ v5) : v0 ≤ v5 := by omega
theorem sf_aux89 (v0 v1 v2 v3 v4 : Int) (q0 : v0 ≤ v1) (q1 : v1 ≤ v2) (q2 : v2 ≤ v3) : v0 ≤ v4 := by omega
theorem sf_aux90 (v0 v1 v2 v3 : Int) (q0 : v0 ≤ v1) (q1 : v1 ≤ v2) : v0 ≤ v3 := by omega
theorem sf_aux91 (v0 v1 v2 : Int) (q0 : v0 ≤ v1) : v0 ≤ v2 := by omega
theorem sf_aux92 (v0 v1 v2 v3 v4 v5 v6 v7 : Int) (q0 : v0 ≤ v1) (q1 : v2 ≤ v3) (q2 : v4 ≤ v5) (q3 : v6 ≤ v7) : v0 ≤ v7 := by omega
theorem sf_aux93 (v0 v1 v2 v3 v4 v5 v6 : Int) (q0 : v0 ≤ v1) (q1 : v2 ≤ v3) (q2 : v4 ≤ v5) (q3 : v5 ≤ v6) : v0 ≤ v6 := by omega
theorem sf_aux94 (v0 v1 v2 v3 v4 v5 v6 : Int) (q0 : v0 ≤ v1) (q1 : v2 ≤ v3) (q2 : v3 ≤ v4) (q3 : v5 ≤ v6) : v0 ≤ v6 := by omega
theorem sf_aux95 (v0 v1 v2 v3 v4 v5 : Int) (q0 : v0 ≤ v1) (q1 : v2 ≤ v3) (q2 : v3 ≤ v4) (q3 : v4 ≤ v5) : v0 ≤ v5 := by omega
theorem sf_aux96 (v0 v1 v2 v3 v4 v5 v6 : Int) (q0 : v0 ≤ v1) (q1 : v1 ≤ v2) (q2 : v3 ≤ v4) (q3 : v5 ≤ v6) : v0 ≤ v6 := by omega
theorem sf_aux97 (v0 v1 v2 v3 v4 v5 : Int) (q0 : v0 ≤ v1) (q1 : v1 ≤ v2) (q2 : v3 ≤ v4) (q3 : v4 ≤ v5) : v0 ≤ v5 := by omega
theorem sf_aux98 (v0 v1 v2 v3 v4 v5 : Int) (q0 : v0 ≤ v1) (q1 : v1 ≤ v2) (q2 : v2 ≤ v3) (q3 : v4 ≤ v5) : v0 ≤ v5 := by omega
theorem sf_aux99 (v0 v1 v2 v3 v4 : Int) (q0 : v0 ≤ v1) (q1 : v1 ≤ v2) (q2 : v2 ≤ v3) (q3 : v3 ≤ v4) : v0 ≤ v4 := by omega
theorem sf_aux100 (v0 v1 v2 v3 v4 v5 v6 v7 v8 : Int) (q0 : v0 ≤ v1) (q1 : v2 ≤ v3) (q2 : v4 ≤ v5) (q3 : v6 ≤ v7) : v8 ≤ v7 := by omega
theorem sf_aux101 (v0 v1 v2 v3 v4 v5 v6 v7 : Int) (q0 : v0 ≤ v1) (q1 : v2 ≤ v3) (q2 : v4 ≤ v5) (q3 : v5 ≤ v6) : v7 ≤ v6 := by omega
theorem sf_aux102 (v0 v1 v2 v3 v4 v5 v6 v7 : Int) (q0 : v0 ≤ v1) (q1 : v2 ≤ v3) (q2 : v3 ≤ v4) (q3 : v5 ≤ v6) : v7 ≤ v6 := by omega
theorem sf_aux103 (v0 v1 v2 v3 v4 v5 v6 : Int) (q0 : v0 ≤ v1) (q1 : v2 ≤ v3) (q2 : v3 ≤ v4) (q3 : v4 ≤ v5) : v6 ≤ v5 := by omega
theorem sf_aux104 (v0 v1 v2 v3 v4 v5 v6 v7 : Int) (q0 : v0 ≤ v1) (q1 : v1 ≤ v2) (q2 : v3 ≤ v4) (q3 : v5 ≤ v6) : v7 ≤ v6 := by omega
theorem sf_aux105 (v0 v1 v2 v3 v4 v5 v6 : Int) (q0 : v0 ≤ v1) (q1 : v1 ≤ v2) (q2 : v3 ≤ v4) (q3 : v4 ≤ v5) : v6 ≤ v5 := by omega
theorem sf_aux106 (v0 v1 v2 v3 v4 v5 v6 : Int) (q0 : v0 ≤ v1) (q1 : v1 ≤ v2) (q2 : v2 ≤ v3) (q3 : v4 ≤ v5) : v6 ≤ v5 := by omega
theorem sf_aux107 (v0 v1 v2 v3 v4 v5 : Int) (q0 : v0 ≤ v1) (q1 : v1 ≤ v2) (q2 : v2 ≤ v3) (q3 : v3 ≤ v4) : v5 ≤ v4 := by omega
theorem sf_aux108 (v0 v1 v2 v3 v4 v5 : Int) (q0 : v0 ≤ v1) (q1 : v2 ≤ v3) (q2 : v4 ≤ v5) : v0 ≤ v5 := by omega
theorem sf_aux109 (v0 v1 v2 v3 v4 : Int) (q0 : v0 ≤ v1) (q1 : v2 ≤ v3) (q2 : v3 ≤ v4) : v0 ≤ v4 := by omega
theorem sf_aux110 (v0 v1 v2 v3 v4 : Int) (q0 : v0 ≤ v1) (q1 : v1 ≤ v2) (q2 : v3 ≤ v4) : v0 ≤ v4 := by omega
theorem sf_aux111 (v0 v1 v2 v3 : Int) (q0 : v0 ≤ v1) (q1 : v1 ≤ v2) (q2 : v2 ≤ v3) : v0 ≤ v3 := by omega
set_option maxRecDepth 100000 in
set_option maxHeartbeats 4000000 in
/-- SilentTableModel.listLine -/
theorem rf_c187 {d : Nat} {m : Nat → Int32} {w : Int64} {h : pm_H} {Q : Option Value → pm_H → Prop} {a0 : Int64} {a1 : Int32} (T : rf_T m w h) (Ba1 : sf_B 0 600 a1) (X : rf_I 0 (m 17) h) (K0 : ∀ (m' : Nat → Int32) (w' : Int64) (h' : pm_H), rf_T m' w' h' → rf_G [41, 51, 52] h h' → rf_W [10, 12, 13, 14, 16, 17, 18, 22] m m' → (m 10).toInt ≤ (m' 10).toInt → Q (some (.int 0)) h') (K1 : ∀ (m' : Nat → Int32) (w' : Int64) (h' : pm_H), rf_T m' w' h' → rf_G [41, 51, 52] h h' → rf_W [10, 12, 13, 14, 16, 17, 18, 22] m m' → rf_I 0 (m' 17) h' → (m 10).toInt ≤ (m' 10).toInt → Q (some (.int 1)) h') : pm_R (d + 3) 187 0 [.ref 41, .long a0, pm_no, .int a1] [] h Q := by
  have B1 : sf_B 0 600 (m 10) := T.2.2.1 10
  obtain ⟨f2, e3, ct4, bd5⟩ := X
  have B6 : sf_B 0 4 (m 17) := T.2.2.1 17
  refine pm_R_lo pm_M187 (pc' := 1) rfl rfl rfl ?_
  refine pm_R_ldc2 pm_M187 (pc' := 4) rfl rfl rfl ?_
  refine sf_R_lcmp pm_M187 (pc' := 5) rfl rfl (fun z7 e8 => ?_)
  refine pm_R_ifc pm_M187 (t := 29) (pc' := 8) rfl rfl rfl (fun c9 => ?_) (fun c9 => ?_)
  · have B10 : sf_B 0 0 z7 := sf_eqL c9 sf_k0
    have B11 : lf_B 1920298085 1920298085 a0 := lf_eqB e8 B10 (⟨by decide, by decide⟩ : lf_B 1920298085 1920298085 1920298085)
    refine pm_R_lo pm_M187 (pc' := 30) rfl rfl rfl ?_
    refine pm_R_ldc2 pm_M187 (pc' := 33) rfl rfl rfl ?_
    refine pm_R_op pm_M187 (pc' := 34) (st' := [.int z7]) rfl (by show some (Value.int (lg_cmp a0 1920298085) :: _) = _; rw [← e8]) rfl ?_
    refine pm_R_ifc pm_M187 (t := 48) (pc' := 37) rfl rfl rfl (fun c14 => absurd (sf_pt2 B10 sf_k0) c14) (fun c14 => ?_)
    refine pm_R_lo pm_M187 (pc' := 38) rfl rfl rfl ?_
    refine rf_R_get pm_M187 T (pc' := 41) (v := .ref 51) rfl rfl rfl rfl ?_
    refine pm_R_op pm_M187 (pc' := 42) (st' := [.int 0, .ref 51]) rfl rfl rfl ?_
    refine pm_R_iald pm_M187 (pc' := 43) (v := (f2 0)) rfl e3 (Nat.lt_of_lt_of_le (by decide) T.1) rfl rfl rfl ?_
    refine pm_R_op pm_M187 (pc' := 45) (st' := [.int 10, .int (f2 0)]) rfl rfl rfl ?_
    refine pm_R_icmp pm_M187 (t := 67) (pc' := 48) rfl rfl rfl (fun c17 => ?_) (fun c17 => ?_)
    · have B18 : sf_B 10 10 (f2 0) := sf_eqL c17 sf_k10
      refine pm_R_lo pm_M187 (pc' := 68) rfl rfl rfl ?_
      refine pm_R_op pm_M187 (pc' := 69) (st' := [.int 3, .ref 41]) rfl rfl rfl ?_
      refine pm_R_lo pm_M187 (pc' := 70) rfl rfl rfl ?_
      refine pm_R_cv pm_M187 (pc' := 73) (a := 41) (ra := [.int a1, .int 3]) (rest := []) (ls' := [.ref 41, .int 3, .int a1]) rfl rfl (Or.inl rfl) pm_M182 T.2.1 rfl (by decide) (Nat.lt_of_lt_of_le (by decide) T.1) rfl rfl (Nat.le_of_ble_eq_true rfl) rfl rfl ?_
      refine rf_c182 (d := d + 2) T (sf_weak sf_k3 (by decide) (by decide)) Ba1 (fun m21 w22 h23 T24 F25 W26 B27 => ?_)
      have F28 := (rf_G.refl [41, 51, 52] h).trans F25 (by decide)
      have B29 : sf_B 0 600 (m21 10) := by rw [W26 10 (by decide)]; exact B1
      have ek30 : (m21 10).toInt = ((m 10)).toInt := by rw [W26 10 (by decide)]
      have W31 : rf_W [10, 12, 13, 14, 16, 17, 18, 22] m m21 := (rf_W.refl [10, 12, 13, 14, 16, 17, 18, 22] m).trans W26 (by decide)
      show pm_R _ 187 73 [.ref 41, .long a0, pm_no, .int a1] [] _ _
      refine pm_R_lo pm_M187 (pc' := 74) rfl rfl rfl ?_
      refine pm_R_cv pm_M187 (pc' := 77) (a := 41) (ra := []) (rest := []) (ls' := [.ref 41, pm_no, pm_no]) rfl rfl (Or.inl rfl) pm_M179 T24.2.1 rfl (by decide) (Nat.lt_of_lt_of_le (by decide) T24.1) rfl rfl (Nat.le_of_ble_eq_true rfl) rfl rfl ?_
      refine rf_c179 (d := d + 1) T24  (fun m34 w35 h36 T37 F38 W39 X40 X41 => ?_)
      have F42 := F28.trans F38 (by decide)
      have B43 : sf_B 1 4 (m34 17) := by rw [W39 17 (by decide)]; exact B27
      have ek44 : (m34 17).toInt = ((m21 17)).toInt := by rw [W39 17 (by decide)]
      have W45 : rf_W [10, 12, 13, 14, 16, 17, 18, 22] m m34 := W31.trans W39 (by decide)
      show pm_R _ 187 77 [.ref 41, .long a0, pm_no, .int a1] [] _ _
      refine pm_R_lo pm_M187 (pc' := 78) rfl rfl rfl ?_
      refine pm_R_ldc2 pm_M187 (pc' := 81) rfl rfl rfl ?_
      refine pm_R_op pm_M187 (pc' := 82) (st' := [.int z7]) rfl (by show some (Value.int (lg_cmp a0 1920298085) :: _) = _; rw [← e8]) rfl ?_
      refine pm_R_ifc pm_M187 (t := 136) (pc' := 85) rfl rfl rfl (fun c48 => absurd (sf_pt2 B10 sf_k0) c48) (fun c48 => ?_)
      refine pm_R_lo pm_M187 (pc' := 86) rfl rfl rfl ?_
      refine pm_R_op pm_M187 (pc' := 87) (st' := [.int 0, .ref 41]) rfl rfl rfl ?_
      refine pm_R_op pm_M187 (pc' := 88) (st' := [.int 5, .int 0, .ref 41]) rfl rfl rfl ?_
      refine pm_R_op pm_M187 (pc' := 89) (st' := [.int (-1), .int 5, .int 0, .ref 41]) rfl rfl rfl ?_
      refine pm_R_cv pm_M187 (pc' := 92) (a := 41) (ra := [.int (-1), .int 5, .int 0]) (rest := []) (ls' := [.ref 41, .int 0, .int 5, .int (-1)]) rfl rfl (Or.inl rfl) pm_M183 T37.2.1 rfl (by decide) (Nat.lt_of_lt_of_le (by decide) T37.1) rfl rfl (Nat.le_of_ble_eq_true rfl) rfl rfl ?_
      refine pm_R_lo pm_M183 (pc' := 1) rfl rfl rfl ?_
      have B49 : sf_B 0 4 (m34 13) := T37.2.2.1 13
      refine rf_R_get pm_M183 T37 (pc' := 4) (v := .int (m34 13)) rfl rfl rfl rfl ?_
      refine pm_R_op pm_M183 (pc' := 5) (st' := [.int 3, .int (m34 13)]) rfl rfl rfl ?_
      refine pm_R_icmp pm_M183 (t := 13) (pc' := 8) rfl rfl rfl (fun c50 => ?_) (fun c50 => ?_)
      · have B51 : sf_B 3 3 (m34 13) := sf_eqL c50 sf_k3
        refine pm_R_lo pm_M183 (pc' := 14) rfl rfl rfl ?_
        refine rf_R_get pm_M183 T37 (pc' := 17) (v := .ref 52) rfl rfl rfl rfl ?_
        refine pm_R_lo pm_M183 (pc' := 18) rfl rfl rfl ?_
        refine pm_R_lo pm_M183 (pc' := 19) rfl rfl rfl ?_
        have B52 : sf_B 0 99 (m34 14) := T37.2.2.1 14
        refine rf_R_get pm_M183 T37 (pc' := 22) (v := .int (m34 14)) rfl rfl rfl rfl ?_
        obtain ⟨f53, e54, b55⟩ := T37.2.2.2.1 52 (by decide) (by decide)
        refine rf_R_ist pm_M183 T37 (pc' := 23) rfl e54 (by decide) (by decide) rfl ⟨_, rfl, sf_upd b55 (sf_weak B52 (by decide) (by decide)) _⟩ rfl (fun h56 T57 F58 e59 => ?_)
        have F60 := F42.trans F58 (by decide)
        refine pm_R_lo pm_M183 (pc' := 24) rfl rfl rfl ?_
        refine rf_R_get pm_M183 T57 (pc' := 27) (v := .int (m34 14)) rfl rfl rfl rfl ?_
        refine pm_R_lo pm_M183 (pc' := 28) rfl rfl rfl ?_
        refine pm_R_icmp pm_M183 (t := 39) (pc' := 31) rfl rfl rfl (fun c61 => ?_) (fun c61 => ?_)
        · have B62 : sf_B 6 99 (m34 14) := sf_ltR c61 sf_k5 B52
          refine pm_R_lo pm_M183 (pc' := 40) rfl rfl rfl ?_
          refine pm_R_op pm_M183 (pc' := 41) (st' := [.int 2, .ref 41]) rfl rfl rfl ?_
          refine pm_R_lo pm_M183 (pc' := 42) rfl rfl rfl ?_
          have B63 : sf_B 0 600 (m34 12) := T57.2.2.1 12
          refine rf_R_get pm_M183 T57 (pc' := 45) (v := .int (m34 12)) rfl rfl rfl rfl ?_
          refine pm_R_cv pm_M183 (pc' := 48) (a := 41) (ra := [.int (m34 12), .int 2]) (rest := []) (ls' := [.ref 41, .int 2, .int (m34 12)]) rfl rfl (Or.inl rfl) pm_M182 T57.2.1 rfl (by decide) (Nat.lt_of_lt_of_le (by decide) T57.1) rfl rfl (Nat.le_of_ble_eq_true rfl) rfl rfl ?_
          refine rf_c182 (d := d + 1) T57 (sf_weak sf_k2 (by decide) (by decide)) B63 (fun m66 w67 h68 T69 F70 W71 B72 => ?_)
          have F73 := F60.trans F70 (by decide)
          have B74 : sf_B 3 3 (m66 13) := by rw [W71 13 (by decide)]; exact B51
          have B75 : sf_B 6 99 (m66 14) := by rw [W71 14 (by decide)]; exact B62
          have W76 : rf_W [10, 12, 13, 14, 16, 17, 18, 22] m m66 := W45.trans W71 (by decide)
          show pm_R _ 183 48 [.ref 41, .int 0, .int 5, .int (-1)] [] _ _
          refine pm_R_lo pm_M183 (pc' := 49) rfl rfl rfl ?_
          refine pm_R_op pm_M183 (pc' := 50) (st' := [.int 0, .ref 41]) rfl rfl rfl ?_
          refine rf_R_put pm_M183 T69 (pc' := 53) rfl rfl rfl (by decide) rfl rfl (sf_weak sf_k0 (by decide) (by decide)) rfl rfl (fun h77 m80 em81 T78 F79 => ?_)
          have F82 := F73.trans F79 (by decide)
          have B83 : sf_B 3 3 (m80 13) := by rw [em81]; exact B74
          have B84 : sf_B 6 99 (m80 14) := by rw [em81]; exact B75
          have B85 : sf_B 1 4 (m80 17) := by rw [em81]; exact B72
          have ek86 : (m80 17).toInt = ((m66 17)).toInt := by rw [em81]; rfl
          have B87 : sf_B 0 0 (m80 22) := by rw [em81]; exact sf_k0
          have W89 : rf_W [10, 12, 13, 14, 16, 17, 18, 22] m m80 := by rw [em81]; exact W76.put (by decide)
          refine pm_R_lo pm_M183 (pc' := 54) rfl rfl rfl ?_
          refine pm_R_cv pm_M183 (pc' := 57) (a := 41) (ra := []) (rest := []) (ls' := [.ref 41, pm_no, pm_no]) rfl rfl (Or.inl rfl) pm_M179 T78.2.1 rfl (by decide) (Nat.lt_of_lt_of_le (by decide) T78.1) rfl rfl (Nat.le_of_ble_eq_true rfl) rfl rfl ?_
          have B90 : sf_B 0 600 (m80 10) := T78.2.2.1 10
          refine rf_c179 (d := d + 0) T78  (fun m93 w94 h95 T96 F97 W98 X99 X100 => ?_)
          have F101 := F82.trans F97 (by decide)
          have B102 : sf_B 1 4 (m93 17) := by rw [W98 17 (by decide)]; exact B85
          have ek103 : (m93 17).toInt = ((m66 17)).toInt := by rw [W98 17 (by decide)]; exact ek86
          have B104 : sf_B 0 0 (m93 22) := by rw [W98 22 (by decide)]; exact B87
          have W105 : rf_W [10, 12, 13, 14, 16, 17, 18, 22] m m93 := W89.trans W98 (by decide)
          show pm_R _ 183 57 [.ref 41, .int 0, .int 5, .int (-1)] [] _ _
          refine pm_R_op pm_M183 (pc' := 58) (st' := [.int 1]) rfl rfl rfl ?_
          refine pm_R_ret pm_M183 (r := some (.int 1)) rfl rfl ?_
          show pm_R _ 187 92 [.ref 41, .long a0, pm_no, .int a1] [.int 1] _ _
          refine pm_R_br pm_M187 (pc' := 95) (st' := []) rfl rfl ?_
          refine pm_R_lo pm_M187 (pc' := 96) rfl rfl rfl ?_
          refine pm_R_op pm_M187 (pc' := 97) (st' := [.int 1, .ref 41]) rfl rfl rfl ?_
          refine pm_R_op pm_M187 (pc' := 98) (st' := [.int 5, .int 1, .ref 41]) rfl rfl rfl ?_
          refine pm_R_op pm_M187 (pc' := 99) (st' := [.int (-1), .int 5, .int 1, .ref 41]) rfl rfl rfl ?_
          refine pm_R_cv pm_M187 (pc' := 102) (a := 41) (ra := [.int (-1), .int 5, .int 1]) (rest := []) (ls' := [.ref 41, .int 1, .int 5, .int (-1)]) rfl rfl (Or.inl rfl) pm_M183 T96.2.1 rfl (by decide) (Nat.lt_of_lt_of_le (by decide) T96.1) rfl rfl (Nat.le_of_ble_eq_true rfl) rfl rfl ?_
          refine pm_R_lo pm_M183 (pc' := 1) rfl rfl rfl ?_
          have B106 : sf_B 0 4 (m93 13) := T96.2.2.1 13
          refine rf_R_get pm_M183 T96 (pc' := 4) (v := .int (m93 13)) rfl rfl rfl rfl ?_
          refine pm_R_op pm_M183 (pc' := 5) (st' := [.int 3, .int (m93 13)]) rfl rfl rfl ?_
          refine pm_R_icmp pm_M183 (t := 13) (pc' := 8) rfl rfl rfl (fun c107 => ?_) (fun c107 => ?_)
          · have B108 : sf_B 3 3 (m93 13) := sf_eqL c107 sf_k3
            refine pm_R_lo pm_M183 (pc' := 14) rfl rfl rfl ?_
            refine rf_R_get pm_M183 T96 (pc' := 17) (v := .ref 52) rfl rfl rfl rfl ?_
            refine pm_R_lo pm_M183 (pc' := 18) rfl rfl rfl ?_
            refine pm_R_lo pm_M183 (pc' := 19) rfl rfl rfl ?_
            have B109 : sf_B 0 99 (m93 14) := T96.2.2.1 14
            refine rf_R_get pm_M183 T96 (pc' := 22) (v := .int (m93 14)) rfl rfl rfl rfl ?_
            have e110 := (F97.cell (by decide) (F79.cell (by decide) (F70.cell (by decide) e59)))
            refine rf_R_ist pm_M183 T96 (pc' := 23) rfl e110 (by decide) (by decide) rfl ⟨_, rfl, sf_upd (sf_upd b55 (sf_weak B52 (by decide) (by decide)) _) (sf_weak B109 (by decide) (by decide)) _⟩ rfl (fun h111 T112 F113 e114 => ?_)
            have F115 := F101.trans F113 (by decide)
            refine pm_R_lo pm_M183 (pc' := 24) rfl rfl rfl ?_
            refine rf_R_get pm_M183 T112 (pc' := 27) (v := .int (m93 14)) rfl rfl rfl rfl ?_
            refine pm_R_lo pm_M183 (pc' := 28) rfl rfl rfl ?_
            refine pm_R_icmp pm_M183 (t := 39) (pc' := 31) rfl rfl rfl (fun c116 => ?_) (fun c116 => ?_)
            · have B117 : sf_B 6 99 (m93 14) := sf_ltR c116 sf_k5 B109
              refine pm_R_lo pm_M183 (pc' := 40) rfl rfl rfl ?_
              refine pm_R_op pm_M183 (pc' := 41) (st' := [.int 2, .ref 41]) rfl rfl rfl ?_
              refine pm_R_lo pm_M183 (pc' := 42) rfl rfl rfl ?_
              have B118 : sf_B 0 600 (m93 12) := T112.2.2.1 12
              refine rf_R_get pm_M183 T112 (pc' := 45) (v := .int (m93 12)) rfl rfl rfl rfl ?_
              refine pm_R_cv pm_M183 (pc' := 48) (a := 41) (ra := [.int (m93 12), .int 2]) (rest := []) (ls' := [.ref 41, .int 2, .int (m93 12)]) rfl rfl (Or.inl rfl) pm_M182 T112.2.1 rfl (by decide) (Nat.lt_of_lt_of_le (by decide) T112.1) rfl rfl (Nat.le_of_ble_eq_true rfl) rfl rfl ?_
              refine rf_c182 (d := d + 1) T112 (sf_weak sf_k2 (by decide) (by decide)) B118 (fun m121 w122 h123 T124 F125 W126 B127 => ?_)
              have F128 := F115.trans F125 (by decide)
              have B129 : sf_B 0 0 (m121 22) := by rw [W126 22 (by decide)]; exact B104
              have B130 : sf_B 3 3 (m121 13) := by rw [W126 13 (by decide)]; exact B108
              have B131 : sf_B 6 99 (m121 14) := by rw [W126 14 (by decide)]; exact B117
              have W132 : rf_W [10, 12, 13, 14, 16, 17, 18, 22] m m121 := W105.trans W126 (by decide)
              show pm_R _ 183 48 [.ref 41, .int 1, .int 5, .int (-1)] [] _ _
              refine pm_R_lo pm_M183 (pc' := 49) rfl rfl rfl ?_
              refine pm_R_op pm_M183 (pc' := 50) (st' := [.int 0, .ref 41]) rfl rfl rfl ?_
              refine rf_R_put pm_M183 T124 (pc' := 53) rfl rfl rfl (by decide) rfl rfl (sf_weak sf_k0 (by decide) (by decide)) rfl rfl (fun h133 m136 em137 T134 F135 => ?_)
              have F138 := F128.trans F135 (by decide)
              have B139 : sf_B 3 3 (m136 13) := by rw [em137]; exact B130
              have B140 : sf_B 6 99 (m136 14) := by rw [em137]; exact B131
              have B141 : sf_B 1 4 (m136 17) := by rw [em137]; exact B127
              have ek142 : (m136 17).toInt = ((m121 17)).toInt := by rw [em137]; rfl
              have B143 : sf_B 0 0 (m136 22) := by rw [em137]; exact sf_k0
              have W145 : rf_W [10, 12, 13, 14, 16, 17, 18, 22] m m136 := by rw [em137]; exact W132.put (by decide)
              refine pm_R_lo pm_M183 (pc' := 54) rfl rfl rfl ?_
              refine pm_R_cv pm_M183 (pc' := 57) (a := 41) (ra := []) (rest := []) (ls' := [.ref 41, pm_no, pm_no]) rfl rfl (Or.inl rfl) pm_M179 T134.2.1 rfl (by decide) (Nat.lt_of_lt_of_le (by decide) T134.1) rfl rfl (Nat.le_of_ble_eq_true rfl) rfl rfl ?_
              have B146 : sf_B 0 600 (m136 10) := T134.2.2.1 10
              refine rf_c179 (d := d + 0) T134  (fun m149 w150 h151 T152 F153 W154 X155 X156 => ?_)
              have F157 := F138.trans F153 (by decide)
              have B158 : sf_B 1 4 (m149 17) := by rw [W154 17 (by decide)]; exact B141
              have ek159 : (m149 17).toInt = ((m121 17)).toInt := by rw [W154 17 (by decide)]; exact ek142
              have B160 : sf_B 0 0 (m149 22) := by rw [W154 22 (by decide)]; exact B143
              have W161 : rf_W [10, 12, 13, 14, 16, 17, 18, 22] m m149 := W145.trans W154 (by decide)
              show pm_R _ 183 57 [.ref 41, .int 1, .int 5, .int (-1)] [] _ _
              refine pm_R_op pm_M183 (pc' := 58) (st' := [.int 1]) rfl rfl rfl ?_
              refine pm_R_ret pm_M183 (r := some (.int 1)) rfl rfl ?_
              show pm_R _ 187 102 [.ref 41, .long a0, pm_no, .int a1] [.int 1] _ _
              refine pm_R_br pm_M187 (pc' := 105) (st' := []) rfl rfl ?_
              refine pm_R_lo pm_M187 (pc' := 106) rfl rfl rfl ?_
              refine pm_R_op pm_M187 (pc' := 107) (st' := [.int 2, .ref 41]) rfl rfl rfl ?_
              refine pm_R_op pm_M187 (pc' := 108) (st' := [.int 5, .int 2, .ref 41]) rfl rfl rfl ?_
              refine pm_R_op pm_M187 (pc' := 109) (st' := [.int (-1), .int 5, .int 2, .ref 41]) (pm_q187_1 (Nat.le_of_ble_eq_true rfl)) rfl rfl ?_
              refine pm_R_cv pm_M187 (pc' := 112) (a := 41) (ra := [.int (-1), .int 5, .int 2]) (rest := []) (ls' := [.ref 41, .int 2, .int 5, .int (-1)]) (pm_q187_1 (Nat.le_of_ble_eq_true rfl)) rfl (Or.inl rfl) pm_M183 T152.2.1 rfl (by decide) (Nat.lt_of_lt_of_le (by decide) T152.1) rfl rfl (Nat.le_of_ble_eq_true rfl) rfl rfl ?_
              refine pm_R_lo pm_M183 (pc' := 1) rfl rfl rfl ?_
              have B162 : sf_B 0 4 (m149 13) := T152.2.2.1 13
              refine rf_R_get pm_M183 T152 (pc' := 4) (v := .int (m149 13)) rfl rfl rfl rfl ?_
              refine pm_R_op pm_M183 (pc' := 5) (st' := [.int 3, .int (m149 13)]) rfl rfl rfl ?_
              refine pm_R_icmp pm_M183 (t := 13) (pc' := 8) rfl rfl rfl (fun c163 => ?_) (fun c163 => ?_)
              · have B164 : sf_B 3 3 (m149 13) := sf_eqL c163 sf_k3
                refine pm_R_lo pm_M183 (pc' := 14) rfl rfl rfl ?_
                refine rf_R_get pm_M183 T152 (pc' := 17) (v := .ref 52) rfl rfl rfl rfl ?_
                refine pm_R_lo pm_M183 (pc' := 18) rfl rfl rfl ?_
                refine pm_R_lo pm_M183 (pc' := 19) rfl rfl rfl ?_
                have B165 : sf_B 0 99 (m149 14) := T152.2.2.1 14
                refine rf_R_get pm_M183 T152 (pc' := 22) (v := .int (m149 14)) rfl rfl rfl rfl ?_
                have e166 := (F153.cell (by decide) (F135.cell (by decide) (F125.cell (by decide) e114)))
                refine rf_R_ist pm_M183 T152 (pc' := 23) rfl e166 (by decide) (by decide) rfl ⟨_, rfl, sf_upd (sf_upd (sf_upd b55 (sf_weak B52 (by decide) (by decide)) _) (sf_weak B109 (by decide) (by decide)) _) (sf_weak B165 (by decide) (by decide)) _⟩ rfl (fun h167 T168 F169 e170 => ?_)
                have F171 := F157.trans F169 (by decide)
                refine pm_R_lo pm_M183 (pc' := 24) rfl rfl rfl ?_
                refine rf_R_get pm_M183 T168 (pc' := 27) (v := .int (m149 14)) rfl rfl rfl rfl ?_
                refine pm_R_lo pm_M183 (pc' := 28) rfl rfl rfl ?_
                refine pm_R_icmp pm_M183 (t := 39) (pc' := 31) rfl rfl rfl (fun c172 => ?_) (fun c172 => ?_)
                · have B173 : sf_B 6 99 (m149 14) := sf_ltR c172 sf_k5 B165
                  refine pm_R_lo pm_M183 (pc' := 40) rfl rfl rfl ?_
                  refine pm_R_op pm_M183 (pc' := 41) (st' := [.int 2, .ref 41]) rfl rfl rfl ?_
                  refine pm_R_lo pm_M183 (pc' := 42) rfl rfl rfl ?_
                  have B174 : sf_B 0 600 (m149 12) := T168.2.2.1 12
                  refine rf_R_get pm_M183 T168 (pc' := 45) (v := .int (m149 12)) rfl rfl rfl rfl ?_
                  refine pm_R_cv pm_M183 (pc' := 48) (a := 41) (ra := [.int (m149 12), .int 2]) (rest := []) (ls' := [.ref 41, .int 2, .int (m149 12)]) rfl rfl (Or.inl rfl) pm_M182 T168.2.1 rfl (by decide) (Nat.lt_of_lt_of_le (by decide) T168.1) rfl rfl (Nat.le_of_ble_eq_true rfl) rfl rfl ?_
                  refine rf_c182 (d := d + 1) T168 (sf_weak sf_k2 (by decide) (by decide)) B174 (fun m177 w178 h179 T180 F181 W182 B183 => ?_)
                  have F184 := F171.trans F181 (by decide)
                  have B185 : sf_B 0 0 (m177 22) := by rw [W182 22 (by decide)]; exact B160
                  have B186 : sf_B 3 3 (m177 13) := by rw [W182 13 (by decide)]; exact B164
                  have B187 : sf_B 6 99 (m177 14) := by rw [W182 14 (by decide)]; exact B173
                  have W188 : rf_W [10, 12, 13, 14, 16, 17, 18, 22] m m177 := W161.trans W182 (by decide)
                  show pm_R _ 183 48 [.ref 41, .int 2, .int 5, .int (-1)] [] _ _
                  refine pm_R_lo pm_M183 (pc' := 49) rfl rfl rfl ?_
                  refine pm_R_op pm_M183 (pc' := 50) (st' := [.int 0, .ref 41]) rfl rfl rfl ?_
                  refine rf_R_put pm_M183 T180 (pc' := 53) rfl rfl rfl (by decide) rfl rfl (sf_weak sf_k0 (by decide) (by decide)) rfl rfl (fun h189 m192 em193 T190 F191 => ?_)
                  have F194 := F184.trans F191 (by decide)
                  have B195 : sf_B 3 3 (m192 13) := by rw [em193]; exact B186
                  have B196 : sf_B 6 99 (m192 14) := by rw [em193]; exact B187
                  have B197 : sf_B 1 4 (m192 17) := by rw [em193]; exact B183
                  have ek198 : (m192 17).toInt = ((m177 17)).toInt := by rw [em193]; rfl
                  have B199 : sf_B 0 0 (m192 22) := by rw [em193]; exact sf_k0
                  have W201 : rf_W [10, 12, 13, 14, 16, 17, 18, 22] m m192 := by rw [em193]; exact W188.put (by decide)
                  refine pm_R_lo pm_M183 (pc' := 54) rfl rfl rfl ?_
                  refine pm_R_cv pm_M183 (pc' := 57) (a := 41) (ra := []) (rest := []) (ls' := [.ref 41, pm_no, pm_no]) rfl rfl (Or.inl rfl) pm_M179 T190.2.1 rfl (by decide) (Nat.lt_of_lt_of_le (by decide) T190.1) rfl rfl (Nat.le_of_ble_eq_true rfl) rfl rfl ?_
                  have B202 : sf_B 0 600 (m192 10) := T190.2.2.1 10
                  refine rf_c179 (d := d + 0) T190  (fun m205 w206 h207 T208 F209 W210 X211 X212 => ?_)
                  have F213 := F194.trans F209 (by decide)
                  have B214 : sf_B 1 4 (m205 17) := by rw [W210 17 (by decide)]; exact B197
                  have ek215 : (m205 17).toInt = ((m177 17)).toInt := by rw [W210 17 (by decide)]; exact ek198
                  have B216 : sf_B 0 0 (m205 22) := by rw [W210 22 (by decide)]; exact B199
                  have W217 : rf_W [10, 12, 13, 14, 16, 17, 18, 22] m m205 := W201.trans W210 (by decide)
                  show pm_R _ 183 57 [.ref 41, .int 2, .int 5, .int (-1)] [] _ _
                  refine pm_R_op pm_M183 (pc' := 58) (st' := [.int 1]) rfl rfl rfl ?_
                  refine pm_R_ret pm_M183 (r := some (.int 1)) rfl rfl ?_
                  show pm_R _ 187 112 [.ref 41, .long a0, pm_no, .int a1] [.int 1] _ _
                  refine pm_R_br pm_M187 (pc' := 115) (st' := []) (pm_q187_1 (Nat.le_of_ble_eq_true rfl)) rfl ?_
                  refine pm_R_lo pm_M187 (pc' := 116) (pm_q187_1 (Nat.le_of_ble_eq_true rfl)) rfl rfl ?_
                  refine pm_R_cv pm_M187 (pc' := 119) (a := 41) (ra := []) (rest := []) (ls' := [.ref 41, pm_no, pm_no]) (pm_q187_1 (Nat.le_of_ble_eq_true rfl)) rfl (Or.inl rfl) pm_M188 T208.2.1 rfl (by decide) (Nat.lt_of_lt_of_le (by decide) T208.1) rfl rfl (Nat.le_of_ble_eq_true rfl) rfl rfl ?_
                  have e218 := (F209.cell (by decide) (F191.cell (by decide) (F181.cell (by decide) e170)))
                  refine rf_c188 (d := d + 0) T208  (fun m221 w222 h223 T224 F225 W226 X227 => ?_) (fun m230 w231 h232 T233 F234 W235 X236 X237 => ?_)
                  · have F238 := F213.trans F225 (by decide)
                    have B239 : sf_B 1 4 (m221 17) := by rw [W226 17 (by decide)]; exact B214
                    have ek240 : (m221 17).toInt = ((m177 17)).toInt := by rw [W226 17 (by decide)]; exact ek215
                    have B241 : sf_B 0 0 (m221 22) := by rw [W226 22 (by decide)]; exact B216
                    have W242 : rf_W [10, 12, 13, 14, 16, 17, 18, 22] m m221 := W217.trans W226 (by decide)
                    show pm_R _ 187 119 [.ref 41, .long a0, pm_no, .int a1] [.int 0] _ _
                    refine pm_R_br pm_M187 (pc' := 122) (st' := []) (pm_q187_1 (Nat.le_of_ble_eq_true rfl)) rfl ?_
                    refine pm_R_op pm_M187 (pc' := 123) (st' := [.int 0]) (pm_q187_1 (Nat.le_of_ble_eq_true rfl)) rfl rfl ?_
                    have B243 : sf_B 0 600 (m221 10) := T224.2.2.1 10
                    exact pm_R_ret pm_M187 (r := some (.int 0)) (pm_q187_1 (Nat.le_of_ble_eq_true rfl)) rfl (K0 m221 w222 h223 T224 F238 W242 (sf_aux62 _ _ _ _ _ _ _ _ _ _ X40 X99 X155 X211 X227))
                  · have F244 := F213.trans F234 (by decide)
                    have B245 : sf_B 1 4 (m230 17) := by rw [W235 17 (by decide)]; exact B214
                    have ek246 : (m230 17).toInt = ((m177 17)).toInt := by rw [W235 17 (by decide)]; exact ek215
                    have B247 : sf_B 0 0 (m230 22) := by rw [W235 22 (by decide)]; exact B216
                    have W248 : rf_W [10, 12, 13, 14, 16, 17, 18, 22] m m230 := W217.trans W235 (by decide)
                    show pm_R _ 187 119 [.ref 41, .long a0, pm_no, .int a1] [.int 1] _ _
                    obtain ⟨v249, B250, e251⟩ := X236 _ e218
                    refine pm_R_br pm_M187 (pc' := 124) (st' := []) (pm_q187_1 (Nat.le_of_ble_eq_true rfl)) rfl ?_
                    refine pm_R_lo pm_M187 (pc' := 125) (pm_q187_1 (Nat.le_of_ble_eq_true rfl)) rfl rfl ?_
                    refine pm_R_op pm_M187 (pc' := 126) (st' := [.int 0, .ref 41]) (pm_q187_1 (Nat.le_of_ble_eq_true rfl)) rfl rfl ?_
                    refine pm_R_op pm_M187 (pc' := 127) (st' := [.int 2, .int 0, .ref 41]) (pm_q187_1 (Nat.le_of_ble_eq_true rfl)) rfl rfl ?_
                    refine pm_R_op pm_M187 (pc' := 128) (st' := [.int 4, .int 2, .int 0, .ref 41]) (pm_q187_1 (Nat.le_of_ble_eq_true rfl)) rfl rfl ?_
                    refine pm_R_op pm_M187 (pc' := 130) (st' := [.int 10, .int 4, .int 2, .int 0, .ref 41]) (pm_q187_1 (Nat.le_of_ble_eq_true rfl)) rfl rfl ?_
                    refine pm_R_op pm_M187 (pc' := 131) (st' := [.int 0, .int 10, .int 4, .int 2, .int 0, .ref 41]) (pm_q187_1 (Nat.le_of_ble_eq_true rfl)) rfl rfl ?_
                    refine pm_R_cv pm_M187 (pc' := 134) (a := 41) (ra := [.int 0, .int 10, .int 4, .int 2, .int 0]) (rest := []) (ls' := [.ref 41, .int 0, .int 2, .int 4, .int 10, .int 0, pm_no, pm_no]) (pm_q187_1 (Nat.le_of_ble_eq_true rfl)) rfl (Or.inl rfl) pm_M185 T233.2.1 rfl (by decide) (Nat.lt_of_lt_of_le (by decide) T233.1) rfl rfl (Nat.le_of_ble_eq_true rfl) rfl rfl ?_
                    refine pm_R_lo pm_M185 (pc' := 1) rfl rfl rfl ?_
                    refine rf_R_get pm_M185 T233 (pc' := 4) (v := .ref 51) rfl rfl rfl rfl ?_
                    refine pm_R_lo pm_M185 (pc' := 5) rfl rfl rfl ?_
                    have e252 := (F234.cell (by decide) (F209.cell (by decide) (F191.cell (by decide) (F181.cell (by decide) (F169.cell (by decide) (F153.cell (by decide) (F135.cell (by decide) (F125.cell (by decide) (F113.cell (by decide) (F97.cell (by decide) (F79.cell (by decide) (F70.cell (by decide) (F58.cell (by decide) (F38.cell (by decide) (F25.cell (by decide) e3)))))))))))))))
                    refine pm_R_iald pm_M185 (pc' := 6) (v := (f2 0)) rfl e252 (Nat.lt_of_lt_of_le (by decide) T233.1) rfl rfl rfl ?_
                    refine pm_R_lo pm_M185 (pc' := 8) (ls' := [.ref 41, .int 0, .int 2, .int 4, .int 10, .int 0, .int (f2 0), pm_no]) (st' := []) rfl rfl rfl ?_
                    refine pm_R_lo pm_M185 (pc' := 10) rfl rfl rfl ?_
                    refine pm_R_lo pm_M185 (pc' := 12) rfl rfl rfl ?_
                    refine pm_R_icmp pm_M185 (t := 16) (pc' := 15) rfl rfl rfl (fun c255 => absurd (sf_pt2 B18 sf_k10) c255) (fun c255 => ?_)
                    refine pm_R_ret pm_M185 (r := none) rfl rfl ?_
                    show pm_R _ 187 134 [.ref 41, .long a0, pm_no, .int a1] [] _ _
                    refine pm_R_op pm_M187 (pc' := 135) (st' := [.int 1]) (pm_q187_1 (Nat.le_of_ble_eq_true rfl)) rfl rfl ?_
                    have B256 : sf_B 0 600 (m230 10) := T233.2.2.1 10
                    exact pm_R_ret pm_M187 (r := some (.int 1)) (pm_q187_1 (Nat.le_of_ble_eq_true rfl)) rfl (K1 m230 w231 h232 T233 F244 W248 (⟨f2, e252, ct4, fun z => (sf_pos B245 (by decide) z)⟩) (sf_aux62 _ _ _ _ _ _ _ _ _ _ X40 X99 X155 X211 X237))
                · have B257 : sf_B 0 5 (m149 14) := sf_leL (Int32.not_lt.mp c172) B165 sf_k5
                  refine pm_R_lo pm_M183 (pc' := 32) rfl rfl rfl ?_
                  refine rf_R_get pm_M183 T168 (pc' := 35) (v := .int (m149 14)) rfl rfl rfl rfl ?_
                  refine pm_R_lo pm_M183 (pc' := 36) rfl rfl rfl ?_
                  refine pm_R_icmp pm_M183 (t := 53) (pc' := 39) rfl rfl rfl (fun c258 => ?_) (fun c258 => absurd (Classical.not_not.mp c258) (sf_neq1 B257 sf_kn1 (by decide)))
                  skip
                  refine pm_R_lo pm_M183 (pc' := 54) rfl rfl rfl ?_
                  refine pm_R_cv pm_M183 (pc' := 57) (a := 41) (ra := []) (rest := []) (ls' := [.ref 41, pm_no, pm_no]) rfl rfl (Or.inl rfl) pm_M179 T168.2.1 rfl (by decide) (Nat.lt_of_lt_of_le (by decide) T168.1) rfl rfl (Nat.le_of_ble_eq_true rfl) rfl rfl ?_
                  have B259 : sf_B 0 600 (m149 10) := T168.2.2.1 10
                  refine rf_c179 (d := d + 0) T168  (fun m262 w263 h264 T265 F266 W267 X268 X269 => ?_)
                  have F270 := F171.trans F266 (by decide)
                  have B271 : sf_B 1 4 (m262 17) := by rw [W267 17 (by decide)]; exact B158
                  have ek272 : (m262 17).toInt = ((m121 17)).toInt := by rw [W267 17 (by decide)]; exact ek159
                  have B273 : sf_B 0 0 (m262 22) := by rw [W267 22 (by decide)]; exact B160
                  have W274 : rf_W [10, 12, 13, 14, 16, 17, 18, 22] m m262 := W161.trans W267 (by decide)
                  show pm_R _ 183 57 [.ref 41, .int 2, .int 5, .int (-1)] [] _ _
                  refine pm_R_op pm_M183 (pc' := 58) (st' := [.int 1]) rfl rfl rfl ?_
                  refine pm_R_ret pm_M183 (r := some (.int 1)) rfl rfl ?_
                  show pm_R _ 187 112 [.ref 41, .long a0, pm_no, .int a1] [.int 1] _ _
                  refine pm_R_br pm_M187 (pc' := 115) (st' := []) (pm_q187_1 (Nat.le_of_ble_eq_true rfl)) rfl ?_
                  refine pm_R_lo pm_M187 (pc' := 116) (pm_q187_1 (Nat.le_of_ble_eq_true rfl)) rfl rfl ?_
                  refine pm_R_cv pm_M187 (pc' := 119) (a := 41) (ra := []) (rest := []) (ls' := [.ref 41, pm_no, pm_no]) (pm_q187_1 (Nat.le_of_ble_eq_true rfl)) rfl (Or.inl rfl) pm_M188 T265.2.1 rfl (by decide) (Nat.lt_of_lt_of_le (by decide) T265.1) rfl rfl (Nat.le_of_ble_eq_true rfl) rfl rfl ?_
                  have e275 := (F266.cell (by decide) e170)
                  refine rf_c188 (d := d + 0) T265  (fun m278 w279 h280 T281 F282 W283 X284 => ?_) (fun m287 w288 h289 T290 F291 W292 X293 X294 => ?_)
                  · have F295 := F270.trans F282 (by decide)
                    have B296 : sf_B 1 4 (m278 17) := by rw [W283 17 (by decide)]; exact B271
                    have ek297 : (m278 17).toInt = ((m121 17)).toInt := by rw [W283 17 (by decide)]; exact ek272
                    have B298 : sf_B 0 0 (m278 22) := by rw [W283 22 (by decide)]; exact B273
                    have W299 : rf_W [10, 12, 13, 14, 16, 17, 18, 22] m m278 := W274.trans W283 (by decide)
                    show pm_R _ 187 119 [.ref 41, .long a0, pm_no, .int a1] [.int 0] _ _
                    refine pm_R_br pm_M187 (pc' := 122) (st' := []) (pm_q187_1 (Nat.le_of_ble_eq_true rfl)) rfl ?_
                    refine pm_R_op pm_M187 (pc' := 123) (st' := [.int 0]) (pm_q187_1 (Nat.le_of_ble_eq_true rfl)) rfl rfl ?_
                    have B300 : sf_B 0 600 (m278 10) := T281.2.2.1 10
                    exact pm_R_ret pm_M187 (r := some (.int 0)) (pm_q187_1 (Nat.le_of_ble_eq_true rfl)) rfl (K0 m278 w279 h280 T281 F295 W299 (sf_aux63 _ _ _ _ _ _ _ _ _ X40 X99 X155 X268 X284))
                  · have F301 := F270.trans F291 (by decide)
                    have B302 : sf_B 1 4 (m287 17) := by rw [W292 17 (by decide)]; exact B271
                    have ek303 : (m287 17).toInt = ((m121 17)).toInt := by rw [W292 17 (by decide)]; exact ek272
                    have B304 : sf_B 0 0 (m287 22) := by rw [W292 22 (by decide)]; exact B273
                    have W305 : rf_W [10, 12, 13, 14, 16, 17, 18, 22] m m287 := W274.trans W292 (by decide)
                    show pm_R _ 187 119 [.ref 41, .long a0, pm_no, .int a1] [.int 1] _ _
                    obtain ⟨v306, B307, e308⟩ := X293 _ e275
                    refine pm_R_br pm_M187 (pc' := 124) (st' := []) (pm_q187_1 (Nat.le_of_ble_eq_true rfl)) rfl ?_
                    refine pm_R_lo pm_M187 (pc' := 125) (pm_q187_1 (Nat.le_of_ble_eq_true rfl)) rfl rfl ?_
                    refine pm_R_op pm_M187 (pc' := 126) (st' := [.int 0, .ref 41]) (pm_q187_1 (Nat.le_of_ble_eq_true rfl)) rfl rfl ?_
                    refine pm_R_op pm_M187 (pc' := 127) (st' := [.int 2, .int 0, .ref 41]) (pm_q187_1 (Nat.le_of_ble_eq_true rfl)) rfl rfl ?_
                    refine pm_R_op pm_M187 (pc' := 128) (st' := [.int 4, .int 2, .int 0, .ref 41]) (pm_q187_1 (Nat.le_of_ble_eq_true rfl)) rfl rfl ?_
                    refine pm_R_op pm_M187 (pc' := 130) (st' := [.int 10, .int 4, .int 2, .int 0, .ref 41]) (pm_q187_1 (Nat.le_of_ble_eq_true rfl)) rfl rfl ?_
                    refine pm_R_op pm_M187 (pc' := 131) (st' := [.int 0, .int 10, .int 4, .int 2, .int 0, .ref 41]) (pm_q187_1 (Nat.le_of_ble_eq_true rfl)) rfl rfl ?_
                    refine pm_R_cv pm_M187 (pc' := 134) (a := 41) (ra := [.int 0, .int 10, .int 4, .int 2, .int 0]) (rest := []) (ls' := [.ref 41, .int 0, .int 2, .int 4, .int 10, .int 0, pm_no, pm_no]) (pm_q187_1 (Nat.le_of_ble_eq_true rfl)) rfl (Or.inl rfl) pm_M185 T290.2.1 rfl (by decide) (Nat.lt_of_lt_of_le (by decide) T290.1) rfl rfl (Nat.le_of_ble_eq_true rfl) rfl rfl ?_
                    refine pm_R_lo pm_M185 (pc' := 1) rfl rfl rfl ?_
                    refine rf_R_get pm_M185 T290 (pc' := 4) (v := .ref 51) rfl rfl rfl rfl ?_
                    refine pm_R_lo pm_M185 (pc' := 5) rfl rfl rfl ?_
                    have e309 := (F291.cell (by decide) (F266.cell (by decide) (F169.cell (by decide) (F153.cell (by decide) (F135.cell (by decide) (F125.cell (by decide) (F113.cell (by decide) (F97.cell (by decide) (F79.cell (by decide) (F70.cell (by decide) (F58.cell (by decide) (F38.cell (by decide) (F25.cell (by decide) e3)))))))))))))
                    refine pm_R_iald pm_M185 (pc' := 6) (v := (f2 0)) rfl e309 (Nat.lt_of_lt_of_le (by decide) T290.1) rfl rfl rfl ?_
                    refine pm_R_lo pm_M185 (pc' := 8) (ls' := [.ref 41, .int 0, .int 2, .int 4, .int 10, .int 0, .int (f2 0), pm_no]) (st' := []) rfl rfl rfl ?_
                    refine pm_R_lo pm_M185 (pc' := 10) rfl rfl rfl ?_
                    refine pm_R_lo pm_M185 (pc' := 12) rfl rfl rfl ?_
                    refine pm_R_icmp pm_M185 (t := 16) (pc' := 15) rfl rfl rfl (fun c312 => absurd (sf_pt2 B18 sf_k10) c312) (fun c312 => ?_)
                    refine pm_R_ret pm_M185 (r := none) rfl rfl ?_
                    show pm_R _ 187 134 [.ref 41, .long a0, pm_no, .int a1] [] _ _
                    refine pm_R_op pm_M187 (pc' := 135) (st' := [.int 1]) (pm_q187_1 (Nat.le_of_ble_eq_true rfl)) rfl rfl ?_
                    have B313 : sf_B 0 600 (m287 10) := T290.2.2.1 10
                    exact pm_R_ret pm_M187 (r := some (.int 1)) (pm_q187_1 (Nat.le_of_ble_eq_true rfl)) rfl (K1 m287 w288 h289 T290 F301 W305 (⟨f2, e309, ct4, fun z => (sf_pos B302 (by decide) z)⟩) (sf_aux63 _ _ _ _ _ _ _ _ _ X40 X99 X155 X268 X294))
              · skip
                refine pm_R_lo pm_M183 (pc' := 9) rfl rfl rfl ?_
                refine pm_R_cv pm_M183 (pc' := 12) (a := 41) (ra := []) (rest := []) (ls' := [.ref 41]) rfl rfl (Or.inl rfl) pm_M184 T152.2.1 rfl (by decide) (Nat.lt_of_lt_of_le (by decide) T152.1) rfl rfl (Nat.le_of_ble_eq_true rfl) rfl rfl ?_
                refine pm_R_lo pm_M184 (pc' := 1) rfl rfl rfl ?_
                refine pm_R_lo pm_M184 (pc' := 2) rfl rfl rfl ?_
                have B314 : sf_B 0 600 (m149 12) := T152.2.2.1 12
                refine rf_R_get pm_M184 T152 (pc' := 5) (v := .int (m149 12)) rfl rfl rfl rfl ?_
                refine rf_R_put pm_M184 T152 (pc' := 8) rfl rfl rfl (by decide) rfl rfl B314 rfl rfl (fun h315 m318 em319 T316 F317 => ?_)
                have F320 := F157.trans F317 (by decide)
                have B321 : sf_B 1 4 (m318 17) := by rw [em319]; exact B158
                have ek322 : (m318 17).toInt = ((m121 17)).toInt := by rw [em319]; exact ek159
                have B323 : sf_B 0 0 (m318 22) := by rw [em319]; exact B160
                have B324 : sf_B 0 600 (m318 16) := by rw [em319]; exact B314
                have ek325 : (m318 16).toInt = ((m149 12)).toInt := by rw [em319]; rfl
                have W326 : rf_W [10, 12, 13, 14, 16, 17, 18, 22] m m318 := by rw [em319]; exact W161.put (by decide)
                refine pm_R_op pm_M184 (pc' := 9) (st' := [.int 0]) rfl rfl rfl ?_
                refine pm_R_ret pm_M184 (r := some (.int 0)) rfl rfl ?_
                show pm_R _ 183 12 [.ref 41, .int 2, .int 5, .int (-1)] [.int 0] _ _
                refine pm_R_ret pm_M183 (r := some (.int 0)) rfl rfl ?_
                show pm_R _ 187 112 [.ref 41, .long a0, pm_no, .int a1] [.int 0] _ _
                refine pm_R_br pm_M187 (pc' := 122) (st' := []) (pm_q187_1 (Nat.le_of_ble_eq_true rfl)) rfl ?_
                refine pm_R_op pm_M187 (pc' := 123) (st' := [.int 0]) (pm_q187_1 (Nat.le_of_ble_eq_true rfl)) rfl rfl ?_
                have B327 : sf_B 0 600 (m318 10) := T316.2.2.1 10
                exact pm_R_ret pm_M187 (r := some (.int 0)) (pm_q187_1 (Nat.le_of_ble_eq_true rfl)) rfl (K0 m318 w150 h315 T316 F320 W326 (sf_aux64 _ _ _ _ _ _ _ _ X40 X99 X155))
            · have B328 : sf_B 0 5 (m93 14) := sf_leL (Int32.not_lt.mp c116) B109 sf_k5
              refine pm_R_lo pm_M183 (pc' := 32) rfl rfl rfl ?_
              refine rf_R_get pm_M183 T112 (pc' := 35) (v := .int (m93 14)) rfl rfl rfl rfl ?_
              refine pm_R_lo pm_M183 (pc' := 36) rfl rfl rfl ?_
              refine pm_R_icmp pm_M183 (t := 53) (pc' := 39) rfl rfl rfl (fun c329 => ?_) (fun c329 => absurd (Classical.not_not.mp c329) (sf_neq1 B328 sf_kn1 (by decide)))
              skip
              refine pm_R_lo pm_M183 (pc' := 54) rfl rfl rfl ?_
              refine pm_R_cv pm_M183 (pc' := 57) (a := 41) (ra := []) (rest := []) (ls' := [.ref 41, pm_no, pm_no]) rfl rfl (Or.inl rfl) pm_M179 T112.2.1 rfl (by decide) (Nat.lt_of_lt_of_le (by decide) T112.1) rfl rfl (Nat.le_of_ble_eq_true rfl) rfl rfl ?_
              have B330 : sf_B 0 600 (m93 10) := T112.2.2.1 10
              refine rf_c179 (d := d + 0) T112  (fun m333 w334 h335 T336 F337 W338 X339 X340 => ?_)
              have F341 := F115.trans F337 (by decide)
              have B342 : sf_B 1 4 (m333 17) := by rw [W338 17 (by decide)]; exact B102
              have ek343 : (m333 17).toInt = ((m66 17)).toInt := by rw [W338 17 (by decide)]; exact ek103
              have B344 : sf_B 0 0 (m333 22) := by rw [W338 22 (by decide)]; exact B104
              have W345 : rf_W [10, 12, 13, 14, 16, 17, 18, 22] m m333 := W105.trans W338 (by decide)
              show pm_R _ 183 57 [.ref 41, .int 1, .int 5, .int (-1)] [] _ _
              refine pm_R_op pm_M183 (pc' := 58) (st' := [.int 1]) rfl rfl rfl ?_
              refine pm_R_ret pm_M183 (r := some (.int 1)) rfl rfl ?_
              show pm_R _ 187 102 [.ref 41, .long a0, pm_no, .int a1] [.int 1] _ _
              refine pm_R_br pm_M187 (pc' := 105) (st' := []) rfl rfl ?_
              refine pm_R_lo pm_M187 (pc' := 106) rfl rfl rfl ?_
              refine pm_R_op pm_M187 (pc' := 107) (st' := [.int 2, .ref 41]) rfl rfl rfl ?_
              refine pm_R_op pm_M187 (pc' := 108) (st' := [.int 5, .int 2, .ref 41]) rfl rfl rfl ?_
              refine pm_R_op pm_M187 (pc' := 109) (st' := [.int (-1), .int 5, .int 2, .ref 41]) (pm_q187_1 (Nat.le_of_ble_eq_true rfl)) rfl rfl ?_
              refine pm_R_cv pm_M187 (pc' := 112) (a := 41) (ra := [.int (-1), .int 5, .int 2]) (rest := []) (ls' := [.ref 41, .int 2, .int 5, .int (-1)]) (pm_q187_1 (Nat.le_of_ble_eq_true rfl)) rfl (Or.inl rfl) pm_M183 T336.2.1 rfl (by decide) (Nat.lt_of_lt_of_le (by decide) T336.1) rfl rfl (Nat.le_of_ble_eq_true rfl) rfl rfl ?_
              refine pm_R_lo pm_M183 (pc' := 1) rfl rfl rfl ?_
              have B346 : sf_B 0 4 (m333 13) := T336.2.2.1 13
              refine rf_R_get pm_M183 T336 (pc' := 4) (v := .int (m333 13)) rfl rfl rfl rfl ?_
              refine pm_R_op pm_M183 (pc' := 5) (st' := [.int 3, .int (m333 13)]) rfl rfl rfl ?_
              refine pm_R_icmp pm_M183 (t := 13) (pc' := 8) rfl rfl rfl (fun c347 => ?_) (fun c347 => ?_)
              · have B348 : sf_B 3 3 (m333 13) := sf_eqL c347 sf_k3
                refine pm_R_lo pm_M183 (pc' := 14) rfl rfl rfl ?_
                refine rf_R_get pm_M183 T336 (pc' := 17) (v := .ref 52) rfl rfl rfl rfl ?_
                refine pm_R_lo pm_M183 (pc' := 18) rfl rfl rfl ?_
                refine pm_R_lo pm_M183 (pc' := 19) rfl rfl rfl ?_
                have B349 : sf_B 0 99 (m333 14) := T336.2.2.1 14
                refine rf_R_get pm_M183 T336 (pc' := 22) (v := .int (m333 14)) rfl rfl rfl rfl ?_
                have e350 := (F337.cell (by decide) e114)
                refine rf_R_ist pm_M183 T336 (pc' := 23) rfl e350 (by decide) (by decide) rfl ⟨_, rfl, sf_upd (sf_upd (sf_upd b55 (sf_weak B52 (by decide) (by decide)) _) (sf_weak B109 (by decide) (by decide)) _) (sf_weak B349 (by decide) (by decide)) _⟩ rfl (fun h351 T352 F353 e354 => ?_)
                have F355 := F341.trans F353 (by decide)
                refine pm_R_lo pm_M183 (pc' := 24) rfl rfl rfl ?_
                refine rf_R_get pm_M183 T352 (pc' := 27) (v := .int (m333 14)) rfl rfl rfl rfl ?_
                refine pm_R_lo pm_M183 (pc' := 28) rfl rfl rfl ?_
                refine pm_R_icmp pm_M183 (t := 39) (pc' := 31) rfl rfl rfl (fun c356 => ?_) (fun c356 => ?_)
                · have B357 : sf_B 6 99 (m333 14) := sf_ltR c356 sf_k5 B349
                  refine pm_R_lo pm_M183 (pc' := 40) rfl rfl rfl ?_
                  refine pm_R_op pm_M183 (pc' := 41) (st' := [.int 2, .ref 41]) rfl rfl rfl ?_
                  refine pm_R_lo pm_M183 (pc' := 42) rfl rfl rfl ?_
                  have B358 : sf_B 0 600 (m333 12) := T352.2.2.1 12
                  refine rf_R_get pm_M183 T352 (pc' := 45) (v := .int (m333 12)) rfl rfl rfl rfl ?_
                  refine pm_R_cv pm_M183 (pc' := 48) (a := 41) (ra := [.int (m333 12), .int 2]) (rest := []) (ls' := [.ref 41, .int 2, .int (m333 12)]) rfl rfl (Or.inl rfl) pm_M182 T352.2.1 rfl (by decide) (Nat.lt_of_lt_of_le (by decide) T352.1) rfl rfl (Nat.le_of_ble_eq_true rfl) rfl rfl ?_
                  refine rf_c182 (d := d + 1) T352 (sf_weak sf_k2 (by decide) (by decide)) B358 (fun m361 w362 h363 T364 F365 W366 B367 => ?_)
                  have F368 := F355.trans F365 (by decide)
                  have B369 : sf_B 0 0 (m361 22) := by rw [W366 22 (by decide)]; exact B344
                  have B370 : sf_B 3 3 (m361 13) := by rw [W366 13 (by decide)]; exact B348
                  have B371 : sf_B 6 99 (m361 14) := by rw [W366 14 (by decide)]; exact B357
                  have W372 : rf_W [10, 12, 13, 14, 16, 17, 18, 22] m m361 := W345.trans W366 (by decide)
                  show pm_R _ 183 48 [.ref 41, .int 2, .int 5, .int (-1)] [] _ _
                  refine pm_R_lo pm_M183 (pc' := 49) rfl rfl rfl ?_
                  refine pm_R_op pm_M183 (pc' := 50) (st' := [.int 0, .ref 41]) rfl rfl rfl ?_
                  refine rf_R_put pm_M183 T364 (pc' := 53) rfl rfl rfl (by decide) rfl rfl (sf_weak sf_k0 (by decide) (by decide)) rfl rfl (fun h373 m376 em377 T374 F375 => ?_)
                  have F378 := F368.trans F375 (by decide)
                  have B379 : sf_B 3 3 (m376 13) := by rw [em377]; exact B370
                  have B380 : sf_B 6 99 (m376 14) := by rw [em377]; exact B371
                  have B381 : sf_B 1 4 (m376 17) := by rw [em377]; exact B367
                  have ek382 : (m376 17).toInt = ((m361 17)).toInt := by rw [em377]; rfl
                  have B383 : sf_B 0 0 (m376 22) := by rw [em377]; exact sf_k0
                  have W385 : rf_W [10, 12, 13, 14, 16, 17, 18, 22] m m376 := by rw [em377]; exact W372.put (by decide)
                  refine pm_R_lo pm_M183 (pc' := 54) rfl rfl rfl ?_
                  refine pm_R_cv pm_M183 (pc' := 57) (a := 41) (ra := []) (rest := []) (ls' := [.ref 41, pm_no, pm_no]) rfl rfl (Or.inl rfl) pm_M179 T374.2.1 rfl (by decide) (Nat.lt_of_lt_of_le (by decide) T374.1) rfl rfl (Nat.le_of_ble_eq_true rfl) rfl rfl ?_
                  have B386 : sf_B 0 600 (m376 10) := T374.2.2.1 10
                  refine rf_c179 (d := d + 0) T374  (fun m389 w390 h391 T392 F393 W394 X395 X396 => ?_)
                  have F397 := F378.trans F393 (by decide)
                  have B398 : sf_B 1 4 (m389 17) := by rw [W394 17 (by decide)]; exact B381
                  have ek399 : (m389 17).toInt = ((m361 17)).toInt := by rw [W394 17 (by decide)]; exact ek382
                  have B400 : sf_B 0 0 (m389 22) := by rw [W394 22 (by decide)]; exact B383
                  have W401 : rf_W [10, 12, 13, 14, 16, 17, 18, 22] m m389 := W385.trans W394 (by decide)
                  show pm_R _ 183 57 [.ref 41, .int 2, .int 5, .int (-1)] [] _ _
                  refine pm_R_op pm_M183 (pc' := 58) (st' := [.int 1]) rfl rfl rfl ?_
                  refine pm_R_ret pm_M183 (r := some (.int 1)) rfl rfl ?_
                  show pm_R _ 187 112 [.ref 41, .long a0, pm_no, .int a1] [.int 1] _ _
                  refine pm_R_br pm_M187 (pc' := 115) (st' := []) (pm_q187_1 (Nat.le_of_ble_eq_true rfl)) rfl ?_
                  refine pm_R_lo pm_M187 (pc' := 116) (pm_q187_1 (Nat.le_of_ble_eq_true rfl)) rfl rfl ?_
                  refine pm_R_cv pm_M187 (pc' := 119) (a := 41) (ra := []) (rest := []) (ls' := [.ref 41, pm_no, pm_no]) (pm_q187_1 (Nat.le_of_ble_eq_true rfl)) rfl (Or.inl rfl) pm_M188 T392.2.1 rfl (by decide) (Nat.lt_of_lt_of_le (by decide) T392.1) rfl rfl (Nat.le_of_ble_eq_true rfl) rfl rfl ?_
                  have e402 := (F393.cell (by decide) (F375.cell (by decide) (F365.cell (by decide) e354)))
                  refine rf_c188 (d := d + 0) T392  (fun m405 w406 h407 T408 F409 W410 X411 => ?_) (fun m414 w415 h416 T417 F418 W419 X420 X421 => ?_)
                  · have F422 := F397.trans F409 (by decide)
                    have B423 : sf_B 1 4 (m405 17) := by rw [W410 17 (by decide)]; exact B398
                    have ek424 : (m405 17).toInt = ((m361 17)).toInt := by rw [W410 17 (by decide)]; exact ek399
                    have B425 : sf_B 0 0 (m405 22) := by rw [W410 22 (by decide)]; exact B400
                    have W426 : rf_W [10, 12, 13, 14, 16, 17, 18, 22] m m405 := W401.trans W410 (by decide)
                    show pm_R _ 187 119 [.ref 41, .long a0, pm_no, .int a1] [.int 0] _ _
                    refine pm_R_br pm_M187 (pc' := 122) (st' := []) (pm_q187_1 (Nat.le_of_ble_eq_true rfl)) rfl ?_
                    refine pm_R_op pm_M187 (pc' := 123) (st' := [.int 0]) (pm_q187_1 (Nat.le_of_ble_eq_true rfl)) rfl rfl ?_
                    have B427 : sf_B 0 600 (m405 10) := T408.2.2.1 10
                    exact pm_R_ret pm_M187 (r := some (.int 0)) (pm_q187_1 (Nat.le_of_ble_eq_true rfl)) rfl (K0 m405 w406 h407 T408 F422 W426 (sf_aux65 _ _ _ _ _ _ _ _ _ X40 X99 X339 X395 X411))
                  · have F428 := F397.trans F418 (by decide)
                    have B429 : sf_B 1 4 (m414 17) := by rw [W419 17 (by decide)]; exact B398
                    have ek430 : (m414 17).toInt = ((m361 17)).toInt := by rw [W419 17 (by decide)]; exact ek399
                    have B431 : sf_B 0 0 (m414 22) := by rw [W419 22 (by decide)]; exact B400
                    have W432 : rf_W [10, 12, 13, 14, 16, 17, 18, 22] m m414 := W401.trans W419 (by decide)
                    show pm_R _ 187 119 [.ref 41, .long a0, pm_no, .int a1] [.int 1] _ _
                    obtain ⟨v433, B434, e435⟩ := X420 _ e402
                    refine pm_R_br pm_M187 (pc' := 124) (st' := []) (pm_q187_1 (Nat.le_of_ble_eq_true rfl)) rfl ?_
                    refine pm_R_lo pm_M187 (pc' := 125) (pm_q187_1 (Nat.le_of_ble_eq_true rfl)) rfl rfl ?_
                    refine pm_R_op pm_M187 (pc' := 126) (st' := [.int 0, .ref 41]) (pm_q187_1 (Nat.le_of_ble_eq_true rfl)) rfl rfl ?_
                    refine pm_R_op pm_M187 (pc' := 127) (st' := [.int 2, .int 0, .ref 41]) (pm_q187_1 (Nat.le_of_ble_eq_true rfl)) rfl rfl ?_
                    refine pm_R_op pm_M187 (pc' := 128) (st' := [.int 4, .int 2, .int 0, .ref 41]) (pm_q187_1 (Nat.le_of_ble_eq_true rfl)) rfl rfl ?_
                    refine pm_R_op pm_M187 (pc' := 130) (st' := [.int 10, .int 4, .int 2, .int 0, .ref 41]) (pm_q187_1 (Nat.le_of_ble_eq_true rfl)) rfl rfl ?_
                    refine pm_R_op pm_M187 (pc' := 131) (st' := [.int 0, .int 10, .int 4, .int 2, .int 0, .ref 41]) (pm_q187_1 (Nat.le_of_ble_eq_true rfl)) rfl rfl ?_
                    refine pm_R_cv pm_M187 (pc' := 134) (a := 41) (ra := [.int 0, .int 10, .int 4, .int 2, .int 0]) (rest := []) (ls' := [.ref 41, .int 0, .int 2, .int 4, .int 10, .int 0, pm_no, pm_no]) (pm_q187_1 (Nat.le_of_ble_eq_true rfl)) rfl (Or.inl rfl) pm_M185 T417.2.1 rfl (by decide) (Nat.lt_of_lt_of_le (by decide) T417.1) rfl rfl (Nat.le_of_ble_eq_true rfl) rfl rfl ?_
                    refine pm_R_lo pm_M185 (pc' := 1) rfl rfl rfl ?_
                    refine rf_R_get pm_M185 T417 (pc' := 4) (v := .ref 51) rfl rfl rfl rfl ?_
                    refine pm_R_lo pm_M185 (pc' := 5) rfl rfl rfl ?_
                    have e436 := (F418.cell (by decide) (F393.cell (by decide) (F375.cell (by decide) (F365.cell (by decide) (F353.cell (by decide) (F337.cell (by decide) (F113.cell (by decide) (F97.cell (by decide) (F79.cell (by decide) (F70.cell (by decide) (F58.cell (by decide) (F38.cell (by decide) (F25.cell (by decide) e3)))))))))))))
                    refine pm_R_iald pm_M185 (pc' := 6) (v := (f2 0)) rfl e436 (Nat.lt_of_lt_of_le (by decide) T417.1) rfl rfl rfl ?_
                    refine pm_R_lo pm_M185 (pc' := 8) (ls' := [.ref 41, .int 0, .int 2, .int 4, .int 10, .int 0, .int (f2 0), pm_no]) (st' := []) rfl rfl rfl ?_
                    refine pm_R_lo pm_M185 (pc' := 10) rfl rfl rfl ?_
                    refine pm_R_lo pm_M185 (pc' := 12) rfl rfl rfl ?_
                    refine pm_R_icmp pm_M185 (t := 16) (pc' := 15) rfl rfl rfl (fun c439 => absurd (sf_pt2 B18 sf_k10) c439) (fun c439 => ?_)
                    refine pm_R_ret pm_M185 (r := none) rfl rfl ?_
                    show pm_R _ 187 134 [.ref 41, .long a0, pm_no, .int a1] [] _ _
                    refine pm_R_op pm_M187 (pc' := 135) (st' := [.int 1]) (pm_q187_1 (Nat.le_of_ble_eq_true rfl)) rfl rfl ?_
                    have B440 : sf_B 0 600 (m414 10) := T417.2.2.1 10
                    exact pm_R_ret pm_M187 (r := some (.int 1)) (pm_q187_1 (Nat.le_of_ble_eq_true rfl)) rfl (K1 m414 w415 h416 T417 F428 W432 (⟨f2, e436, ct4, fun z => (sf_pos B429 (by decide) z)⟩) (sf_aux65 _ _ _ _ _ _ _ _ _ X40 X99 X339 X395 X421))
                · have B441 : sf_B 0 5 (m333 14) := sf_leL (Int32.not_lt.mp c356) B349 sf_k5
                  refine pm_R_lo pm_M183 (pc' := 32) rfl rfl rfl ?_
                  refine rf_R_get pm_M183 T352 (pc' := 35) (v := .int (m333 14)) rfl rfl rfl rfl ?_
                  refine pm_R_lo pm_M183 (pc' := 36) rfl rfl rfl ?_
                  refine pm_R_icmp pm_M183 (t := 53) (pc' := 39) rfl rfl rfl (fun c442 => ?_) (fun c442 => absurd (Classical.not_not.mp c442) (sf_neq1 B441 sf_kn1 (by decide)))
                  skip
                  refine pm_R_lo pm_M183 (pc' := 54) rfl rfl rfl ?_
                  refine pm_R_cv pm_M183 (pc' := 57) (a := 41) (ra := []) (rest := []) (ls' := [.ref 41, pm_no, pm_no]) rfl rfl (Or.inl rfl) pm_M179 T352.2.1 rfl (by decide) (Nat.lt_of_lt_of_le (by decide) T352.1) rfl rfl (Nat.le_of_ble_eq_true rfl) rfl rfl ?_
                  have B443 : sf_B 0 600 (m333 10) := T352.2.2.1 10
                  refine rf_c179 (d := d + 0) T352  (fun m446 w447 h448 T449 F450 W451 X452 X453 => ?_)
                  have F454 := F355.trans F450 (by decide)
                  have B455 : sf_B 1 4 (m446 17) := by rw [W451 17 (by decide)]; exact B342
                  have ek456 : (m446 17).toInt = ((m66 17)).toInt := by rw [W451 17 (by decide)]; exact ek343
                  have B457 : sf_B 0 0 (m446 22) := by rw [W451 22 (by decide)]; exact B344
                  have W458 : rf_W [10, 12, 13, 14, 16, 17, 18, 22] m m446 := W345.trans W451 (by decide)
                  show pm_R _ 183 57 [.ref 41, .int 2, .int 5, .int (-1)] [] _ _
                  refine pm_R_op pm_M183 (pc' := 58) (st' := [.int 1]) rfl rfl rfl ?_
                  refine pm_R_ret pm_M183 (r := some (.int 1)) rfl rfl ?_
                  show pm_R _ 187 112 [.ref 41, .long a0, pm_no, .int a1] [.int 1] _ _
                  refine pm_R_br pm_M187 (pc' := 115) (st' := []) (pm_q187_1 (Nat.le_of_ble_eq_true rfl)) rfl ?_
                  refine pm_R_lo pm_M187 (pc' := 116) (pm_q187_1 (Nat.le_of_ble_eq_true rfl)) rfl rfl ?_
                  refine pm_R_cv pm_M187 (pc' := 119) (a := 41) (ra := []) (rest := []) (ls' := [.ref 41, pm_no, pm_no]) (pm_q187_1 (Nat.le_of_ble_eq_true rfl)) rfl (Or.inl rfl) pm_M188 T449.2.1 rfl (by decide) (Nat.lt_of_lt_of_le (by decide) T449.1) rfl rfl (Nat.le_of_ble_eq_true rfl) rfl rfl ?_
                  have e459 := (F450.cell (by decide) e354)
                  refine rf_c188 (d := d + 0) T449  (fun m462 w463 h464 T465 F466 W467 X468 => ?_) (fun m471 w472 h473 T474 F475 W476 X477 X478 => ?_)
                  · have F479 := F454.trans F466 (by decide)
                    have B480 : sf_B 1 4 (m462 17) := by rw [W467 17 (by decide)]; exact B455
                    have ek481 : (m462 17).toInt = ((m66 17)).toInt := by rw [W467 17 (by decide)]; exact ek456
                    have B482 : sf_B 0 0 (m462 22) := by rw [W467 22 (by decide)]; exact B457
                    have W483 : rf_W [10, 12, 13, 14, 16, 17, 18, 22] m m462 := W458.trans W467 (by decide)
                    show pm_R _ 187 119 [.ref 41, .long a0, pm_no, .int a1] [.int 0] _ _
                    refine pm_R_br pm_M187 (pc' := 122) (st' := []) (pm_q187_1 (Nat.le_of_ble_eq_true rfl)) rfl ?_
                    refine pm_R_op pm_M187 (pc' := 123) (st' := [.int 0]) (pm_q187_1 (Nat.le_of_ble_eq_true rfl)) rfl rfl ?_
                    have B484 : sf_B 0 600 (m462 10) := T465.2.2.1 10
                    exact pm_R_ret pm_M187 (r := some (.int 0)) (pm_q187_1 (Nat.le_of_ble_eq_true rfl)) rfl (K0 m462 w463 h464 T465 F479 W483 (sf_aux66 _ _ _ _ _ _ _ _ X40 X99 X339 X452 X468))
                  · have F485 := F454.trans F475 (by decide)
                    have B486 : sf_B 1 4 (m471 17) := by rw [W476 17 (by decide)]; exact B455
                    have ek487 : (m471 17).toInt = ((m66 17)).toInt := by rw [W476 17 (by decide)]; exact ek456
                    have B488 : sf_B 0 0 (m471 22) := by rw [W476 22 (by decide)]; exact B457
                    have W489 : rf_W [10, 12, 13, 14, 16, 17, 18, 22] m m471 := W458.trans W476 (by decide)
                    show pm_R _ 187 119 [.ref 41, .long a0, pm_no, .int a1] [.int 1] _ _
                    obtain ⟨v490, B491, e492⟩ := X477 _ e459
                    refine pm_R_br pm_M187 (pc' := 124) (st' := []) (pm_q187_1 (Nat.le_of_ble_eq_true rfl)) rfl ?_
                    refine pm_R_lo pm_M187 (pc' := 125) (pm_q187_1 (Nat.le_of_ble_eq_true rfl)) rfl rfl ?_
                    refine pm_R_op pm_M187 (pc' := 126) (st' := [.int 0, .ref 41]) (pm_q187_1 (Nat.le_of_ble_eq_true rfl)) rfl rfl ?_
                    refine pm_R_op pm_M187 (pc' := 127) (st' := [.int 2, .int 0, .ref 41]) (pm_q187_1 (Nat.le_of_ble_eq_true rfl)) rfl rfl ?_
                    refine pm_R_op pm_M187 (pc' := 128) (st' := [.int 4, .int 2, .int 0, .ref 41]) (pm_q187_1 (Nat.le_of_ble_eq_true rfl)) rfl rfl ?_
                    refine pm_R_op pm_M187 (pc' := 130) (st' := [.int 10, .int 4, .int 2, .int 0, .ref 41]) (pm_q187_1 (Nat.le_of_ble_eq_true rfl)) rfl rfl ?_
                    refine pm_R_op pm_M187 (pc' := 131) (st' := [.int 0, .int 10, .int 4, .int 2, .int 0, .ref 41]) (pm_q187_1 (Nat.le_of_ble_eq_true rfl)) rfl rfl ?_
                    refine pm_R_cv pm_M187 (pc' := 134) (a := 41) (ra := [.int 0, .int 10, .int 4, .int 2, .int 0]) (rest := []) (ls' := [.ref 41, .int 0, .int 2, .int 4, .int 10, .int 0, pm_no, pm_no]) (pm_q187_1 (Nat.le_of_ble_eq_true rfl)) rfl (Or.inl rfl) pm_M185 T474.2.1 rfl (by decide) (Nat.lt_of_lt_of_le (by decide) T474.1) rfl rfl (Nat.le_of_ble_eq_true rfl) rfl rfl ?_
                    refine pm_R_lo pm_M185 (pc' := 1) rfl rfl rfl ?_
                    refine rf_R_get pm_M185 T474 (pc' := 4) (v := .ref 51) rfl rfl rfl rfl ?_
                    refine pm_R_lo pm_M185 (pc' := 5) rfl rfl rfl ?_
                    have e493 := (F475.cell (by decide) (F450.cell (by decide) (F353.cell (by decide) (F337.cell (by decide) (F113.cell (by decide) (F97.cell (by decide) (F79.cell (by decide) (F70.cell (by decide) (F58.cell (by decide) (F38.cell (by decide) (F25.cell (by decide) e3)))))))))))
                    refine pm_R_iald pm_M185 (pc' := 6) (v := (f2 0)) rfl e493 (Nat.lt_of_lt_of_le (by decide) T474.1) rfl rfl rfl ?_
                    refine pm_R_lo pm_M185 (pc' := 8) (ls' := [.ref 41, .int 0, .int 2, .int 4, .int 10, .int 0, .int (f2 0), pm_no]) (st' := []) rfl rfl rfl ?_
                    refine pm_R_lo pm_M185 (pc' := 10) rfl rfl rfl ?_
                    refine pm_R_lo pm_M185 (pc' := 12) rfl rfl rfl ?_
                    refine pm_R_icmp pm_M185 (t := 16) (pc' := 15) rfl rfl rfl (fun c496 => absurd (sf_pt2 B18 sf_k10) c496) (fun c496 => ?_)
                    refine pm_R_ret pm_M185 (r := none) rfl rfl ?_
                    show pm_R _ 187 134 [.ref 41, .long a0, pm_no, .int a1] [] _ _
                    refine pm_R_op pm_M187 (pc' := 135) (st' := [.int 1]) (pm_q187_1 (Nat.le_of_ble_eq_true rfl)) rfl rfl ?_
                    have B497 : sf_B 0 600 (m471 10) := T474.2.2.1 10
                    exact pm_R_ret pm_M187 (r := some (.int 1)) (pm_q187_1 (Nat.le_of_ble_eq_true rfl)) rfl (K1 m471 w472 h473 T474 F485 W489 (⟨f2, e493, ct4, fun z => (sf_pos B486 (by decide) z)⟩) (sf_aux66 _ _ _ _ _ _ _ _ X40 X99 X339 X452 X478))
              · skip
                refine pm_R_lo pm_M183 (pc' := 9) rfl rfl rfl ?_
                refine pm_R_cv pm_M183 (pc' := 12) (a := 41) (ra := []) (rest := []) (ls' := [.ref 41]) rfl rfl (Or.inl rfl) pm_M184 T336.2.1 rfl (by decide) (Nat.lt_of_lt_of_le (by decide) T336.1) rfl rfl (Nat.le_of_ble_eq_true rfl) rfl rfl ?_
                refine pm_R_lo pm_M184 (pc' := 1) rfl rfl rfl ?_
                refine pm_R_lo pm_M184 (pc' := 2) rfl rfl rfl ?_
                have B498 : sf_B 0 600 (m333 12) := T336.2.2.1 12
                refine rf_R_get pm_M184 T336 (pc' := 5) (v := .int (m333 12)) rfl rfl rfl rfl ?_
                refine rf_R_put pm_M184 T336 (pc' := 8) rfl rfl rfl (by decide) rfl rfl B498 rfl rfl (fun h499 m502 em503 T500 F501 => ?_)
                have F504 := F341.trans F501 (by decide)
                have B505 : sf_B 1 4 (m502 17) := by rw [em503]; exact B342
                have ek506 : (m502 17).toInt = ((m66 17)).toInt := by rw [em503]; exact ek343
                have B507 : sf_B 0 0 (m502 22) := by rw [em503]; exact B344
                have B508 : sf_B 0 600 (m502 16) := by rw [em503]; exact B498
                have ek509 : (m502 16).toInt = ((m333 12)).toInt := by rw [em503]; rfl
                have W510 : rf_W [10, 12, 13, 14, 16, 17, 18, 22] m m502 := by rw [em503]; exact W345.put (by decide)
                refine pm_R_op pm_M184 (pc' := 9) (st' := [.int 0]) rfl rfl rfl ?_
                refine pm_R_ret pm_M184 (r := some (.int 0)) rfl rfl ?_
                show pm_R _ 183 12 [.ref 41, .int 2, .int 5, .int (-1)] [.int 0] _ _
                refine pm_R_ret pm_M183 (r := some (.int 0)) rfl rfl ?_
                show pm_R _ 187 112 [.ref 41, .long a0, pm_no, .int a1] [.int 0] _ _
                refine pm_R_br pm_M187 (pc' := 122) (st' := []) (pm_q187_1 (Nat.le_of_ble_eq_true rfl)) rfl ?_
                refine pm_R_op pm_M187 (pc' := 123) (st' := [.int 0]) (pm_q187_1 (Nat.le_of_ble_eq_true rfl)) rfl rfl ?_
                have B511 : sf_B 0 600 (m502 10) := T500.2.2.1 10
                exact pm_R_ret pm_M187 (r := some (.int 0)) (pm_q187_1 (Nat.le_of_ble_eq_true rfl)) rfl (K0 m502 w334 h499 T500 F504 W510 (sf_aux67 _ _ _ _ _ _ _ X40 X99 X339))
          · skip
            refine pm_R_lo pm_M183 (pc' := 9) rfl rfl rfl ?_
            refine pm_R_cv pm_M183 (pc' := 12) (a := 41) (ra := []) (rest := []) (ls' := [.ref 41]) rfl rfl (Or.inl rfl) pm_M184 T96.2.1 rfl (by decide) (Nat.lt_of_lt_of_le (by decide) T96.1) rfl rfl (Nat.le_of_ble_eq_true rfl) rfl rfl ?_
            refine pm_R_lo pm_M184 (pc' := 1) rfl rfl rfl ?_
            refine pm_R_lo pm_M184 (pc' := 2) rfl rfl rfl ?_
            have B512 : sf_B 0 600 (m93 12) := T96.2.2.1 12
            refine rf_R_get pm_M184 T96 (pc' := 5) (v := .int (m93 12)) rfl rfl rfl rfl ?_
            refine rf_R_put pm_M184 T96 (pc' := 8) rfl rfl rfl (by decide) rfl rfl B512 rfl rfl (fun h513 m516 em517 T514 F515 => ?_)
            have F518 := F101.trans F515 (by decide)
            have B519 : sf_B 1 4 (m516 17) := by rw [em517]; exact B102
            have ek520 : (m516 17).toInt = ((m66 17)).toInt := by rw [em517]; exact ek103
            have B521 : sf_B 0 0 (m516 22) := by rw [em517]; exact B104
            have B522 : sf_B 0 600 (m516 16) := by rw [em517]; exact B512
            have ek523 : (m516 16).toInt = ((m93 12)).toInt := by rw [em517]; rfl
            have W524 : rf_W [10, 12, 13, 14, 16, 17, 18, 22] m m516 := by rw [em517]; exact W105.put (by decide)
            refine pm_R_op pm_M184 (pc' := 9) (st' := [.int 0]) rfl rfl rfl ?_
            refine pm_R_ret pm_M184 (r := some (.int 0)) rfl rfl ?_
            show pm_R _ 183 12 [.ref 41, .int 1, .int 5, .int (-1)] [.int 0] _ _
            refine pm_R_ret pm_M183 (r := some (.int 0)) rfl rfl ?_
            show pm_R _ 187 102 [.ref 41, .long a0, pm_no, .int a1] [.int 0] _ _
            refine pm_R_br pm_M187 (pc' := 122) (st' := []) rfl rfl ?_
            refine pm_R_op pm_M187 (pc' := 123) (st' := [.int 0]) (pm_q187_1 (Nat.le_of_ble_eq_true rfl)) rfl rfl ?_
            have B525 : sf_B 0 600 (m516 10) := T514.2.2.1 10
            exact pm_R_ret pm_M187 (r := some (.int 0)) (pm_q187_1 (Nat.le_of_ble_eq_true rfl)) rfl (K0 m516 w94 h513 T514 F518 W524 (sf_aux68 _ _ _ _ _ _ X40 X99))
        · have B526 : sf_B 0 5 (m34 14) := sf_leL (Int32.not_lt.mp c61) B52 sf_k5
          refine pm_R_lo pm_M183 (pc' := 32) rfl rfl rfl ?_
          refine rf_R_get pm_M183 T57 (pc' := 35) (v := .int (m34 14)) rfl rfl rfl rfl ?_
          refine pm_R_lo pm_M183 (pc' := 36) rfl rfl rfl ?_
          refine pm_R_icmp pm_M183 (t := 53) (pc' := 39) rfl rfl rfl (fun c527 => ?_) (fun c527 => absurd (Classical.not_not.mp c527) (sf_neq1 B526 sf_kn1 (by decide)))
          skip
          refine pm_R_lo pm_M183 (pc' := 54) rfl rfl rfl ?_
          refine pm_R_cv pm_M183 (pc' := 57) (a := 41) (ra := []) (rest := []) (ls' := [.ref 41, pm_no, pm_no]) rfl rfl (Or.inl rfl) pm_M179 T57.2.1 rfl (by decide) (Nat.lt_of_lt_of_le (by decide) T57.1) rfl rfl (Nat.le_of_ble_eq_true rfl) rfl rfl ?_
          have B528 : sf_B 0 600 (m34 10) := T57.2.2.1 10
          refine rf_c179 (d := d + 0) T57  (fun m531 w532 h533 T534 F535 W536 X537 X538 => ?_)
          have F539 := F60.trans F535 (by decide)
          have B540 : sf_B 1 4 (m531 17) := by rw [W536 17 (by decide)]; exact B43
          have ek541 : (m531 17).toInt = ((m21 17)).toInt := by rw [W536 17 (by decide)]; exact ek44
          have W542 : rf_W [10, 12, 13, 14, 16, 17, 18, 22] m m531 := W45.trans W536 (by decide)
          show pm_R _ 183 57 [.ref 41, .int 0, .int 5, .int (-1)] [] _ _
          refine pm_R_op pm_M183 (pc' := 58) (st' := [.int 1]) rfl rfl rfl ?_
          refine pm_R_ret pm_M183 (r := some (.int 1)) rfl rfl ?_
          show pm_R _ 187 92 [.ref 41, .long a0, pm_no, .int a1] [.int 1] _ _
          refine pm_R_br pm_M187 (pc' := 95) (st' := []) rfl rfl ?_
          refine pm_R_lo pm_M187 (pc' := 96) rfl rfl rfl ?_
          refine pm_R_op pm_M187 (pc' := 97) (st' := [.int 1, .ref 41]) rfl rfl rfl ?_
          refine pm_R_op pm_M187 (pc' := 98) (st' := [.int 5, .int 1, .ref 41]) rfl rfl rfl ?_
          refine pm_R_op pm_M187 (pc' := 99) (st' := [.int (-1), .int 5, .int 1, .ref 41]) rfl rfl rfl ?_
          refine pm_R_cv pm_M187 (pc' := 102) (a := 41) (ra := [.int (-1), .int 5, .int 1]) (rest := []) (ls' := [.ref 41, .int 1, .int 5, .int (-1)]) rfl rfl (Or.inl rfl) pm_M183 T534.2.1 rfl (by decide) (Nat.lt_of_lt_of_le (by decide) T534.1) rfl rfl (Nat.le_of_ble_eq_true rfl) rfl rfl ?_
          refine pm_R_lo pm_M183 (pc' := 1) rfl rfl rfl ?_
          have B543 : sf_B 0 4 (m531 13) := T534.2.2.1 13
          refine rf_R_get pm_M183 T534 (pc' := 4) (v := .int (m531 13)) rfl rfl rfl rfl ?_
          refine pm_R_op pm_M183 (pc' := 5) (st' := [.int 3, .int (m531 13)]) rfl rfl rfl ?_
          refine pm_R_icmp pm_M183 (t := 13) (pc' := 8) rfl rfl rfl (fun c544 => ?_) (fun c544 => ?_)
          · have B545 : sf_B 3 3 (m531 13) := sf_eqL c544 sf_k3
            refine pm_R_lo pm_M183 (pc' := 14) rfl rfl rfl ?_
            refine rf_R_get pm_M183 T534 (pc' := 17) (v := .ref 52) rfl rfl rfl rfl ?_
            refine pm_R_lo pm_M183 (pc' := 18) rfl rfl rfl ?_
            refine pm_R_lo pm_M183 (pc' := 19) rfl rfl rfl ?_
            have B546 : sf_B 0 99 (m531 14) := T534.2.2.1 14
            refine rf_R_get pm_M183 T534 (pc' := 22) (v := .int (m531 14)) rfl rfl rfl rfl ?_
            have e547 := (F535.cell (by decide) e59)
            refine rf_R_ist pm_M183 T534 (pc' := 23) rfl e547 (by decide) (by decide) rfl ⟨_, rfl, sf_upd (sf_upd b55 (sf_weak B52 (by decide) (by decide)) _) (sf_weak B546 (by decide) (by decide)) _⟩ rfl (fun h548 T549 F550 e551 => ?_)
            have F552 := F539.trans F550 (by decide)
            refine pm_R_lo pm_M183 (pc' := 24) rfl rfl rfl ?_
            refine rf_R_get pm_M183 T549 (pc' := 27) (v := .int (m531 14)) rfl rfl rfl rfl ?_
            refine pm_R_lo pm_M183 (pc' := 28) rfl rfl rfl ?_
            refine pm_R_icmp pm_M183 (t := 39) (pc' := 31) rfl rfl rfl (fun c553 => ?_) (fun c553 => ?_)
            · have B554 : sf_B 6 99 (m531 14) := sf_ltR c553 sf_k5 B546
              refine pm_R_lo pm_M183 (pc' := 40) rfl rfl rfl ?_
              refine pm_R_op pm_M183 (pc' := 41) (st' := [.int 2, .ref 41]) rfl rfl rfl ?_
              refine pm_R_lo pm_M183 (pc' := 42) rfl rfl rfl ?_
              have B555 : sf_B 0 600 (m531 12) := T549.2.2.1 12
              refine rf_R_get pm_M183 T549 (pc' := 45) (v := .int (m531 12)) rfl rfl rfl rfl ?_
              refine pm_R_cv pm_M183 (pc' := 48) (a := 41) (ra := [.int (m531 12), .int 2]) (rest := []) (ls' := [.ref 41, .int 2, .int (m531 12)]) rfl rfl (Or.inl rfl) pm_M182 T549.2.1 rfl (by decide) (Nat.lt_of_lt_of_le (by decide) T549.1) rfl rfl (Nat.le_of_ble_eq_true rfl) rfl rfl ?_
              refine rf_c182 (d := d + 1) T549 (sf_weak sf_k2 (by decide) (by decide)) B555 (fun m558 w559 h560 T561 F562 W563 B564 => ?_)
              have F565 := F552.trans F562 (by decide)
              have B566 : sf_B 3 3 (m558 13) := by rw [W563 13 (by decide)]; exact B545
              have B567 : sf_B 6 99 (m558 14) := by rw [W563 14 (by decide)]; exact B554
              have W568 : rf_W [10, 12, 13, 14, 16, 17, 18, 22] m m558 := W542.trans W563 (by decide)
              show pm_R _ 183 48 [.ref 41, .int 1, .int 5, .int (-1)] [] _ _
              refine pm_R_lo pm_M183 (pc' := 49) rfl rfl rfl ?_
              refine pm_R_op pm_M183 (pc' := 50) (st' := [.int 0, .ref 41]) rfl rfl rfl ?_
              refine rf_R_put pm_M183 T561 (pc' := 53) rfl rfl rfl (by decide) rfl rfl (sf_weak sf_k0 (by decide) (by decide)) rfl rfl (fun h569 m572 em573 T570 F571 => ?_)
              have F574 := F565.trans F571 (by decide)
              have B575 : sf_B 3 3 (m572 13) := by rw [em573]; exact B566
              have B576 : sf_B 6 99 (m572 14) := by rw [em573]; exact B567
              have B577 : sf_B 1 4 (m572 17) := by rw [em573]; exact B564
              have ek578 : (m572 17).toInt = ((m558 17)).toInt := by rw [em573]; rfl
              have B579 : sf_B 0 0 (m572 22) := by rw [em573]; exact sf_k0
              have W581 : rf_W [10, 12, 13, 14, 16, 17, 18, 22] m m572 := by rw [em573]; exact W568.put (by decide)
              refine pm_R_lo pm_M183 (pc' := 54) rfl rfl rfl ?_
              refine pm_R_cv pm_M183 (pc' := 57) (a := 41) (ra := []) (rest := []) (ls' := [.ref 41, pm_no, pm_no]) rfl rfl (Or.inl rfl) pm_M179 T570.2.1 rfl (by decide) (Nat.lt_of_lt_of_le (by decide) T570.1) rfl rfl (Nat.le_of_ble_eq_true rfl) rfl rfl ?_
              have B582 : sf_B 0 600 (m572 10) := T570.2.2.1 10
              refine rf_c179 (d := d + 0) T570  (fun m585 w586 h587 T588 F589 W590 X591 X592 => ?_)
              have F593 := F574.trans F589 (by decide)
              have B594 : sf_B 1 4 (m585 17) := by rw [W590 17 (by decide)]; exact B577
              have ek595 : (m585 17).toInt = ((m558 17)).toInt := by rw [W590 17 (by decide)]; exact ek578
              have B596 : sf_B 0 0 (m585 22) := by rw [W590 22 (by decide)]; exact B579
              have W597 : rf_W [10, 12, 13, 14, 16, 17, 18, 22] m m585 := W581.trans W590 (by decide)
              show pm_R _ 183 57 [.ref 41, .int 1, .int 5, .int (-1)] [] _ _
              refine pm_R_op pm_M183 (pc' := 58) (st' := [.int 1]) rfl rfl rfl ?_
              refine pm_R_ret pm_M183 (r := some (.int 1)) rfl rfl ?_
              show pm_R _ 187 102 [.ref 41, .long a0, pm_no, .int a1] [.int 1] _ _
              refine pm_R_br pm_M187 (pc' := 105) (st' := []) rfl rfl ?_
              refine pm_R_lo pm_M187 (pc' := 106) rfl rfl rfl ?_
              refine pm_R_op pm_M187 (pc' := 107) (st' := [.int 2, .ref 41]) rfl rfl rfl ?_
              refine pm_R_op pm_M187 (pc' := 108) (st' := [.int 5, .int 2, .ref 41]) rfl rfl rfl ?_
              refine pm_R_op pm_M187 (pc' := 109) (st' := [.int (-1), .int 5, .int 2, .ref 41]) (pm_q187_1 (Nat.le_of_ble_eq_true rfl)) rfl rfl ?_
              refine pm_R_cv pm_M187 (pc' := 112) (a := 41) (ra := [.int (-1), .int 5, .int 2]) (rest := []) (ls' := [.ref 41, .int 2, .int 5, .int (-1)]) (pm_q187_1 (Nat.le_of_ble_eq_true rfl)) rfl (Or.inl rfl) pm_M183 T588.2.1 rfl (by decide) (Nat.lt_of_lt_of_le (by decide) T588.1) rfl rfl (Nat.le_of_ble_eq_true rfl) rfl rfl ?_
              refine pm_R_lo pm_M183 (pc' := 1) rfl rfl rfl ?_
              have B598 : sf_B 0 4 (m585 13) := T588.2.2.1 13
              refine rf_R_get pm_M183 T588 (pc' := 4) (v := .int (m585 13)) rfl rfl rfl rfl ?_
              refine pm_R_op pm_M183 (pc' := 5) (st' := [.int 3, .int (m585 13)]) rfl rfl rfl ?_
              refine pm_R_icmp pm_M183 (t := 13) (pc' := 8) rfl rfl rfl (fun c599 => ?_) (fun c599 => ?_)
              · have B600 : sf_B 3 3 (m585 13) := sf_eqL c599 sf_k3
                refine pm_R_lo pm_M183 (pc' := 14) rfl rfl rfl ?_
                refine rf_R_get pm_M183 T588 (pc' := 17) (v := .ref 52) rfl rfl rfl rfl ?_
                refine pm_R_lo pm_M183 (pc' := 18) rfl rfl rfl ?_
                refine pm_R_lo pm_M183 (pc' := 19) rfl rfl rfl ?_
                have B601 : sf_B 0 99 (m585 14) := T588.2.2.1 14
                refine rf_R_get pm_M183 T588 (pc' := 22) (v := .int (m585 14)) rfl rfl rfl rfl ?_
                have e602 := (F589.cell (by decide) (F571.cell (by decide) (F562.cell (by decide) e551)))
                refine rf_R_ist pm_M183 T588 (pc' := 23) rfl e602 (by decide) (by decide) rfl ⟨_, rfl, sf_upd (sf_upd (sf_upd b55 (sf_weak B52 (by decide) (by decide)) _) (sf_weak B546 (by decide) (by decide)) _) (sf_weak B601 (by decide) (by decide)) _⟩ rfl (fun h603 T604 F605 e606 => ?_)
                have F607 := F593.trans F605 (by decide)
                refine pm_R_lo pm_M183 (pc' := 24) rfl rfl rfl ?_
                refine rf_R_get pm_M183 T604 (pc' := 27) (v := .int (m585 14)) rfl rfl rfl rfl ?_
                refine pm_R_lo pm_M183 (pc' := 28) rfl rfl rfl ?_
                refine pm_R_icmp pm_M183 (t := 39) (pc' := 31) rfl rfl rfl (fun c608 => ?_) (fun c608 => ?_)
                · have B609 : sf_B 6 99 (m585 14) := sf_ltR c608 sf_k5 B601
                  refine pm_R_lo pm_M183 (pc' := 40) rfl rfl rfl ?_
                  refine pm_R_op pm_M183 (pc' := 41) (st' := [.int 2, .ref 41]) rfl rfl rfl ?_
                  refine pm_R_lo pm_M183 (pc' := 42) rfl rfl rfl ?_
                  have B610 : sf_B 0 600 (m585 12) := T604.2.2.1 12
                  refine rf_R_get pm_M183 T604 (pc' := 45) (v := .int (m585 12)) rfl rfl rfl rfl ?_
                  refine pm_R_cv pm_M183 (pc' := 48) (a := 41) (ra := [.int (m585 12), .int 2]) (rest := []) (ls' := [.ref 41, .int 2, .int (m585 12)]) rfl rfl (Or.inl rfl) pm_M182 T604.2.1 rfl (by decide) (Nat.lt_of_lt_of_le (by decide) T604.1) rfl rfl (Nat.le_of_ble_eq_true rfl) rfl rfl ?_
                  refine rf_c182 (d := d + 1) T604 (sf_weak sf_k2 (by decide) (by decide)) B610 (fun m613 w614 h615 T616 F617 W618 B619 => ?_)
                  have F620 := F607.trans F617 (by decide)
                  have B621 : sf_B 0 0 (m613 22) := by rw [W618 22 (by decide)]; exact B596
                  have B622 : sf_B 3 3 (m613 13) := by rw [W618 13 (by decide)]; exact B600
                  have B623 : sf_B 6 99 (m613 14) := by rw [W618 14 (by decide)]; exact B609
                  have W624 : rf_W [10, 12, 13, 14, 16, 17, 18, 22] m m613 := W597.trans W618 (by decide)
                  show pm_R _ 183 48 [.ref 41, .int 2, .int 5, .int (-1)] [] _ _
                  refine pm_R_lo pm_M183 (pc' := 49) rfl rfl rfl ?_
                  refine pm_R_op pm_M183 (pc' := 50) (st' := [.int 0, .ref 41]) rfl rfl rfl ?_
                  refine rf_R_put pm_M183 T616 (pc' := 53) rfl rfl rfl (by decide) rfl rfl (sf_weak sf_k0 (by decide) (by decide)) rfl rfl (fun h625 m628 em629 T626 F627 => ?_)
                  have F630 := F620.trans F627 (by decide)
                  have B631 : sf_B 3 3 (m628 13) := by rw [em629]; exact B622
                  have B632 : sf_B 6 99 (m628 14) := by rw [em629]; exact B623
                  have B633 : sf_B 1 4 (m628 17) := by rw [em629]; exact B619
                  have ek634 : (m628 17).toInt = ((m613 17)).toInt := by rw [em629]; rfl
                  have B635 : sf_B 0 0 (m628 22) := by rw [em629]; exact sf_k0
                  have W637 : rf_W [10, 12, 13, 14, 16, 17, 18, 22] m m628 := by rw [em629]; exact W624.put (by decide)
                  refine pm_R_lo pm_M183 (pc' := 54) rfl rfl rfl ?_
                  refine pm_R_cv pm_M183 (pc' := 57) (a := 41) (ra := []) (rest := []) (ls' := [.ref 41, pm_no, pm_no]) rfl rfl (Or.inl rfl) pm_M179 T626.2.1 rfl (by decide) (Nat.lt_of_lt_of_le (by decide) T626.1) rfl rfl (Nat.le_of_ble_eq_true rfl) rfl rfl ?_
                  have B638 : sf_B 0 600 (m628 10) := T626.2.2.1 10
                  refine rf_c179 (d := d + 0) T626  (fun m641 w642 h643 T644 F645 W646 X647 X648 => ?_)
                  have F649 := F630.trans F645 (by decide)
                  have B650 : sf_B 1 4 (m641 17) := by rw [W646 17 (by decide)]; exact B633
                  have ek651 : (m641 17).toInt = ((m613 17)).toInt := by rw [W646 17 (by decide)]; exact ek634
                  have B652 : sf_B 0 0 (m641 22) := by rw [W646 22 (by decide)]; exact B635
                  have W653 : rf_W [10, 12, 13, 14, 16, 17, 18, 22] m m641 := W637.trans W646 (by decide)
                  show pm_R _ 183 57 [.ref 41, .int 2, .int 5, .int (-1)] [] _ _
                  refine pm_R_op pm_M183 (pc' := 58) (st' := [.int 1]) rfl rfl rfl ?_
                  refine pm_R_ret pm_M183 (r := some (.int 1)) rfl rfl ?_
                  show pm_R _ 187 112 [.ref 41, .long a0, pm_no, .int a1] [.int 1] _ _
                  refine pm_R_br pm_M187 (pc' := 115) (st' := []) (pm_q187_1 (Nat.le_of_ble_eq_true rfl)) rfl ?_
                  refine pm_R_lo pm_M187 (pc' := 116) (pm_q187_1 (Nat.le_of_ble_eq_true rfl)) rfl rfl ?_
                  refine pm_R_cv pm_M187 (pc' := 119) (a := 41) (ra := []) (rest := []) (ls' := [.ref 41, pm_no, pm_no]) (pm_q187_1 (Nat.le_of_ble_eq_true rfl)) rfl (Or.inl rfl) pm_M188 T644.2.1 rfl (by decide) (Nat.lt_of_lt_of_le (by decide) T644.1) rfl rfl (Nat.le_of_ble_eq_true rfl) rfl rfl ?_
                  have e654 := (F645.cell (by decide) (F627.cell (by decide) (F617.cell (by decide) e606)))
                  refine rf_c188 (d := d + 0) T644  (fun m657 w658 h659 T660 F661 W662 X663 => ?_) (fun m666 w667 h668 T669 F670 W671 X672 X673 => ?_)
                  · have F674 := F649.trans F661 (by decide)
                    have B675 : sf_B 1 4 (m657 17) := by rw [W662 17 (by decide)]; exact B650
                    have ek676 : (m657 17).toInt = ((m613 17)).toInt := by rw [W662 17 (by decide)]; exact ek651
                    have B677 : sf_B 0 0 (m657 22) := by rw [W662 22 (by decide)]; exact B652
                    have W678 : rf_W [10, 12, 13, 14, 16, 17, 18, 22] m m657 := W653.trans W662 (by decide)
                    show pm_R _ 187 119 [.ref 41, .long a0, pm_no, .int a1] [.int 0] _ _
                    refine pm_R_br pm_M187 (pc' := 122) (st' := []) (pm_q187_1 (Nat.le_of_ble_eq_true rfl)) rfl ?_
                    refine pm_R_op pm_M187 (pc' := 123) (st' := [.int 0]) (pm_q187_1 (Nat.le_of_ble_eq_true rfl)) rfl rfl ?_
                    have B679 : sf_B 0 600 (m657 10) := T660.2.2.1 10
                    exact pm_R_ret pm_M187 (r := some (.int 0)) (pm_q187_1 (Nat.le_of_ble_eq_true rfl)) rfl (K0 m657 w658 h659 T660 F674 W678 (sf_aux69 _ _ _ _ _ _ _ _ _ X40 X537 X591 X647 X663))
                  · have F680 := F649.trans F670 (by decide)
                    have B681 : sf_B 1 4 (m666 17) := by rw [W671 17 (by decide)]; exact B650
                    have ek682 : (m666 17).toInt = ((m613 17)).toInt := by rw [W671 17 (by decide)]; exact ek651
                    have B683 : sf_B 0 0 (m666 22) := by rw [W671 22 (by decide)]; exact B652
                    have W684 : rf_W [10, 12, 13, 14, 16, 17, 18, 22] m m666 := W653.trans W671 (by decide)
                    show pm_R _ 187 119 [.ref 41, .long a0, pm_no, .int a1] [.int 1] _ _
                    obtain ⟨v685, B686, e687⟩ := X672 _ e654
                    refine pm_R_br pm_M187 (pc' := 124) (st' := []) (pm_q187_1 (Nat.le_of_ble_eq_true rfl)) rfl ?_
                    refine pm_R_lo pm_M187 (pc' := 125) (pm_q187_1 (Nat.le_of_ble_eq_true rfl)) rfl rfl ?_
                    refine pm_R_op pm_M187 (pc' := 126) (st' := [.int 0, .ref 41]) (pm_q187_1 (Nat.le_of_ble_eq_true rfl)) rfl rfl ?_
                    refine pm_R_op pm_M187 (pc' := 127) (st' := [.int 2, .int 0, .ref 41]) (pm_q187_1 (Nat.le_of_ble_eq_true rfl)) rfl rfl ?_
                    refine pm_R_op pm_M187 (pc' := 128) (st' := [.int 4, .int 2, .int 0, .ref 41]) (pm_q187_1 (Nat.le_of_ble_eq_true rfl)) rfl rfl ?_
                    refine pm_R_op pm_M187 (pc' := 130) (st' := [.int 10, .int 4, .int 2, .int 0, .ref 41]) (pm_q187_1 (Nat.le_of_ble_eq_true rfl)) rfl rfl ?_
                    refine pm_R_op pm_M187 (pc' := 131) (st' := [.int 0, .int 10, .int 4, .int 2, .int 0, .ref 41]) (pm_q187_1 (Nat.le_of_ble_eq_true rfl)) rfl rfl ?_
                    refine pm_R_cv pm_M187 (pc' := 134) (a := 41) (ra := [.int 0, .int 10, .int 4, .int 2, .int 0]) (rest := []) (ls' := [.ref 41, .int 0, .int 2, .int 4, .int 10, .int 0, pm_no, pm_no]) (pm_q187_1 (Nat.le_of_ble_eq_true rfl)) rfl (Or.inl rfl) pm_M185 T669.2.1 rfl (by decide) (Nat.lt_of_lt_of_le (by decide) T669.1) rfl rfl (Nat.le_of_ble_eq_true rfl) rfl rfl ?_
                    refine pm_R_lo pm_M185 (pc' := 1) rfl rfl rfl ?_
                    refine rf_R_get pm_M185 T669 (pc' := 4) (v := .ref 51) rfl rfl rfl rfl ?_
                    refine pm_R_lo pm_M185 (pc' := 5) rfl rfl rfl ?_
                    have e688 := (F670.cell (by decide) (F645.cell (by decide) (F627.cell (by decide) (F617.cell (by decide) (F605.cell (by decide) (F589.cell (by decide) (F571.cell (by decide) (F562.cell (by decide) (F550.cell (by decide) (F535.cell (by decide) (F58.cell (by decide) (F38.cell (by decide) (F25.cell (by decide) e3)))))))))))))
                    refine pm_R_iald pm_M185 (pc' := 6) (v := (f2 0)) rfl e688 (Nat.lt_of_lt_of_le (by decide) T669.1) rfl rfl rfl ?_
                    refine pm_R_lo pm_M185 (pc' := 8) (ls' := [.ref 41, .int 0, .int 2, .int 4, .int 10, .int 0, .int (f2 0), pm_no]) (st' := []) rfl rfl rfl ?_
                    refine pm_R_lo pm_M185 (pc' := 10) rfl rfl rfl ?_
                    refine pm_R_lo pm_M185 (pc' := 12) rfl rfl rfl ?_
                    refine pm_R_icmp pm_M185 (t := 16) (pc' := 15) rfl rfl rfl (fun c691 => absurd (sf_pt2 B18 sf_k10) c691) (fun c691 => ?_)
                    refine pm_R_ret pm_M185 (r := none) rfl rfl ?_
                    show pm_R _ 187 134 [.ref 41, .long a0, pm_no, .int a1] [] _ _
                    refine pm_R_op pm_M187 (pc' := 135) (st' := [.int 1]) (pm_q187_1 (Nat.le_of_ble_eq_true rfl)) rfl rfl ?_
                    have B692 : sf_B 0 600 (m666 10) := T669.2.2.1 10
                    exact pm_R_ret pm_M187 (r := some (.int 1)) (pm_q187_1 (Nat.le_of_ble_eq_true rfl)) rfl (K1 m666 w667 h668 T669 F680 W684 (⟨f2, e688, ct4, fun z => (sf_pos B681 (by decide) z)⟩) (sf_aux69 _ _ _ _ _ _ _ _ _ X40 X537 X591 X647 X673))
                · have B693 : sf_B 0 5 (m585 14) := sf_leL (Int32.not_lt.mp c608) B601 sf_k5
                  refine pm_R_lo pm_M183 (pc' := 32) rfl rfl rfl ?_
                  refine rf_R_get pm_M183 T604 (pc' := 35) (v := .int (m585 14)) rfl rfl rfl rfl ?_
                  refine pm_R_lo pm_M183 (pc' := 36) rfl rfl rfl ?_
                  refine pm_R_icmp pm_M183 (t := 53) (pc' := 39) rfl rfl rfl (fun c694 => ?_) (fun c694 => absurd (Classical.not_not.mp c694) (sf_neq1 B693 sf_kn1 (by decide)))
                  skip
                  refine pm_R_lo pm_M183 (pc' := 54) rfl rfl rfl ?_
                  refine pm_R_cv pm_M183 (pc' := 57) (a := 41) (ra := []) (rest := []) (ls' := [.ref 41, pm_no, pm_no]) rfl rfl (Or.inl rfl) pm_M179 T604.2.1 rfl (by decide) (Nat.lt_of_lt_of_le (by decide) T604.1) rfl rfl (Nat.le_of_ble_eq_true rfl) rfl rfl ?_
                  have B695 : sf_B 0 600 (m585 10) := T604.2.2.1 10
                  refine rf_c179 (d := d + 0) T604  (fun m698 w699 h700 T701 F702 W703 X704 X705 => ?_)
                  have F706 := F607.trans F702 (by decide)
                  have B707 : sf_B 1 4 (m698 17) := by rw [W703 17 (by decide)]; exact B594
                  have ek708 : (m698 17).toInt = ((m558 17)).toInt := by rw [W703 17 (by decide)]; exact ek595
                  have B709 : sf_B 0 0 (m698 22) := by rw [W703 22 (by decide)]; exact B596
                  have W710 : rf_W [10, 12, 13, 14, 16, 17, 18, 22] m m698 := W597.trans W703 (by decide)
                  show pm_R _ 183 57 [.ref 41, .int 2, .int 5, .int (-1)] [] _ _
                  refine pm_R_op pm_M183 (pc' := 58) (st' := [.int 1]) rfl rfl rfl ?_
                  refine pm_R_ret pm_M183 (r := some (.int 1)) rfl rfl ?_
                  show pm_R _ 187 112 [.ref 41, .long a0, pm_no, .int a1] [.int 1] _ _
                  refine pm_R_br pm_M187 (pc' := 115) (st' := []) (pm_q187_1 (Nat.le_of_ble_eq_true rfl)) rfl ?_
                  refine pm_R_lo pm_M187 (pc' := 116) (pm_q187_1 (Nat.le_of_ble_eq_true rfl)) rfl rfl ?_
                  refine pm_R_cv pm_M187 (pc' := 119) (a := 41) (ra := []) (rest := []) (ls' := [.ref 41, pm_no, pm_no]) (pm_q187_1 (Nat.le_of_ble_eq_true rfl)) rfl (Or.inl rfl) pm_M188 T701.2.1 rfl (by decide) (Nat.lt_of_lt_of_le (by decide) T701.1) rfl rfl (Nat.le_of_ble_eq_true rfl) rfl rfl ?_
                  have e711 := (F702.cell (by decide) e606)
                  refine rf_c188 (d := d + 0) T701  (fun m714 w715 h716 T717 F718 W719 X720 => ?_) (fun m723 w724 h725 T726 F727 W728 X729 X730 => ?_)
                  · have F731 := F706.trans F718 (by decide)
                    have B732 : sf_B 1 4 (m714 17) := by rw [W719 17 (by decide)]; exact B707
                    have ek733 : (m714 17).toInt = ((m558 17)).toInt := by rw [W719 17 (by decide)]; exact ek708
                    have B734 : sf_B 0 0 (m714 22) := by rw [W719 22 (by decide)]; exact B709
                    have W735 : rf_W [10, 12, 13, 14, 16, 17, 18, 22] m m714 := W710.trans W719 (by decide)
                    show pm_R _ 187 119 [.ref 41, .long a0, pm_no, .int a1] [.int 0] _ _
                    refine pm_R_br pm_M187 (pc' := 122) (st' := []) (pm_q187_1 (Nat.le_of_ble_eq_true rfl)) rfl ?_
                    refine pm_R_op pm_M187 (pc' := 123) (st' := [.int 0]) (pm_q187_1 (Nat.le_of_ble_eq_true rfl)) rfl rfl ?_
                    have B736 : sf_B 0 600 (m714 10) := T717.2.2.1 10
                    exact pm_R_ret pm_M187 (r := some (.int 0)) (pm_q187_1 (Nat.le_of_ble_eq_true rfl)) rfl (K0 m714 w715 h716 T717 F731 W735 (sf_aux70 _ _ _ _ _ _ _ _ X40 X537 X591 X704 X720))
                  · have F737 := F706.trans F727 (by decide)
                    have B738 : sf_B 1 4 (m723 17) := by rw [W728 17 (by decide)]; exact B707
                    have ek739 : (m723 17).toInt = ((m558 17)).toInt := by rw [W728 17 (by decide)]; exact ek708
                    have B740 : sf_B 0 0 (m723 22) := by rw [W728 22 (by decide)]; exact B709
                    have W741 : rf_W [10, 12, 13, 14, 16, 17, 18, 22] m m723 := W710.trans W728 (by decide)
                    show pm_R _ 187 119 [.ref 41, .long a0, pm_no, .int a1] [.int 1] _ _
                    obtain ⟨v742, B743, e744⟩ := X729 _ e711
                    refine pm_R_br pm_M187 (pc' := 124) (st' := []) (pm_q187_1 (Nat.le_of_ble_eq_true rfl)) rfl ?_
                    refine pm_R_lo pm_M187 (pc' := 125) (pm_q187_1 (Nat.le_of_ble_eq_true rfl)) rfl rfl ?_
                    refine pm_R_op pm_M187 (pc' := 126) (st' := [.int 0, .ref 41]) (pm_q187_1 (Nat.le_of_ble_eq_true rfl)) rfl rfl ?_
                    refine pm_R_op pm_M187 (pc' := 127) (st' := [.int 2, .int 0, .ref 41]) (pm_q187_1 (Nat.le_of_ble_eq_true rfl)) rfl rfl ?_
                    refine pm_R_op pm_M187 (pc' := 128) (st' := [.int 4, .int 2, .int 0, .ref 41]) (pm_q187_1 (Nat.le_of_ble_eq_true rfl)) rfl rfl ?_
                    refine pm_R_op pm_M187 (pc' := 130) (st' := [.int 10, .int 4, .int 2, .int 0, .ref 41]) (pm_q187_1 (Nat.le_of_ble_eq_true rfl)) rfl rfl ?_
                    refine pm_R_op pm_M187 (pc' := 131) (st' := [.int 0, .int 10, .int 4, .int 2, .int 0, .ref 41]) (pm_q187_1 (Nat.le_of_ble_eq_true rfl)) rfl rfl ?_
                    refine pm_R_cv pm_M187 (pc' := 134) (a := 41) (ra := [.int 0, .int 10, .int 4, .int 2, .int 0]) (rest := []) (ls' := [.ref 41, .int 0, .int 2, .int 4, .int 10, .int 0, pm_no, pm_no]) (pm_q187_1 (Nat.le_of_ble_eq_true rfl)) rfl (Or.inl rfl) pm_M185 T726.2.1 rfl (by decide) (Nat.lt_of_lt_of_le (by decide) T726.1) rfl rfl (Nat.le_of_ble_eq_true rfl) rfl rfl ?_
                    refine pm_R_lo pm_M185 (pc' := 1) rfl rfl rfl ?_
                    refine rf_R_get pm_M185 T726 (pc' := 4) (v := .ref 51) rfl rfl rfl rfl ?_
                    refine pm_R_lo pm_M185 (pc' := 5) rfl rfl rfl ?_
                    have e745 := (F727.cell (by decide) (F702.cell (by decide) (F605.cell (by decide) (F589.cell (by decide) (F571.cell (by decide) (F562.cell (by decide) (F550.cell (by decide) (F535.cell (by decide) (F58.cell (by decide) (F38.cell (by decide) (F25.cell (by decide) e3)))))))))))
                    refine pm_R_iald pm_M185 (pc' := 6) (v := (f2 0)) rfl e745 (Nat.lt_of_lt_of_le (by decide) T726.1) rfl rfl rfl ?_
                    refine pm_R_lo pm_M185 (pc' := 8) (ls' := [.ref 41, .int 0, .int 2, .int 4, .int 10, .int 0, .int (f2 0), pm_no]) (st' := []) rfl rfl rfl ?_
                    refine pm_R_lo pm_M185 (pc' := 10) rfl rfl rfl ?_
                    refine pm_R_lo pm_M185 (pc' := 12) rfl rfl rfl ?_
                    refine pm_R_icmp pm_M185 (t := 16) (pc' := 15) rfl rfl rfl (fun c748 => absurd (sf_pt2 B18 sf_k10) c748) (fun c748 => ?_)
                    refine pm_R_ret pm_M185 (r := none) rfl rfl ?_
                    show pm_R _ 187 134 [.ref 41, .long a0, pm_no, .int a1] [] _ _
                    refine pm_R_op pm_M187 (pc' := 135) (st' := [.int 1]) (pm_q187_1 (Nat.le_of_ble_eq_true rfl)) rfl rfl ?_
                    have B749 : sf_B 0 600 (m723 10) := T726.2.2.1 10
                    exact pm_R_ret pm_M187 (r := some (.int 1)) (pm_q187_1 (Nat.le_of_ble_eq_true rfl)) rfl (K1 m723 w724 h725 T726 F737 W741 (⟨f2, e745, ct4, fun z => (sf_pos B738 (by decide) z)⟩) (sf_aux70 _ _ _ _ _ _ _ _ X40 X537 X591 X704 X730))
              · skip
                refine pm_R_lo pm_M183 (pc' := 9) rfl rfl rfl ?_
                refine pm_R_cv pm_M183 (pc' := 12) (a := 41) (ra := []) (rest := []) (ls' := [.ref 41]) rfl rfl (Or.inl rfl) pm_M184 T588.2.1 rfl (by decide) (Nat.lt_of_lt_of_le (by decide) T588.1) rfl rfl (Nat.le_of_ble_eq_true rfl) rfl rfl ?_
                refine pm_R_lo pm_M184 (pc' := 1) rfl rfl rfl ?_
                refine pm_R_lo pm_M184 (pc' := 2) rfl rfl rfl ?_
                have B750 : sf_B 0 600 (m585 12) := T588.2.2.1 12
                refine rf_R_get pm_M184 T588 (pc' := 5) (v := .int (m585 12)) rfl rfl rfl rfl ?_
                refine rf_R_put pm_M184 T588 (pc' := 8) rfl rfl rfl (by decide) rfl rfl B750 rfl rfl (fun h751 m754 em755 T752 F753 => ?_)
                have F756 := F593.trans F753 (by decide)
                have B757 : sf_B 1 4 (m754 17) := by rw [em755]; exact B594
                have ek758 : (m754 17).toInt = ((m558 17)).toInt := by rw [em755]; exact ek595
                have B759 : sf_B 0 0 (m754 22) := by rw [em755]; exact B596
                have B760 : sf_B 0 600 (m754 16) := by rw [em755]; exact B750
                have ek761 : (m754 16).toInt = ((m585 12)).toInt := by rw [em755]; rfl
                have W762 : rf_W [10, 12, 13, 14, 16, 17, 18, 22] m m754 := by rw [em755]; exact W597.put (by decide)
                refine pm_R_op pm_M184 (pc' := 9) (st' := [.int 0]) rfl rfl rfl ?_
                refine pm_R_ret pm_M184 (r := some (.int 0)) rfl rfl ?_
                show pm_R _ 183 12 [.ref 41, .int 2, .int 5, .int (-1)] [.int 0] _ _
                refine pm_R_ret pm_M183 (r := some (.int 0)) rfl rfl ?_
                show pm_R _ 187 112 [.ref 41, .long a0, pm_no, .int a1] [.int 0] _ _
                refine pm_R_br pm_M187 (pc' := 122) (st' := []) (pm_q187_1 (Nat.le_of_ble_eq_true rfl)) rfl ?_
                refine pm_R_op pm_M187 (pc' := 123) (st' := [.int 0]) (pm_q187_1 (Nat.le_of_ble_eq_true rfl)) rfl rfl ?_
                have B763 : sf_B 0 600 (m754 10) := T752.2.2.1 10
                exact pm_R_ret pm_M187 (r := some (.int 0)) (pm_q187_1 (Nat.le_of_ble_eq_true rfl)) rfl (K0 m754 w586 h751 T752 F756 W762 (sf_aux71 _ _ _ _ _ _ _ X40 X537 X591))
            · have B764 : sf_B 0 5 (m531 14) := sf_leL (Int32.not_lt.mp c553) B546 sf_k5
              refine pm_R_lo pm_M183 (pc' := 32) rfl rfl rfl ?_
              refine rf_R_get pm_M183 T549 (pc' := 35) (v := .int (m531 14)) rfl rfl rfl rfl ?_
              refine pm_R_lo pm_M183 (pc' := 36) rfl rfl rfl ?_
              refine pm_R_icmp pm_M183 (t := 53) (pc' := 39) rfl rfl rfl (fun c765 => ?_) (fun c765 => absurd (Classical.not_not.mp c765) (sf_neq1 B764 sf_kn1 (by decide)))
              skip
              refine pm_R_lo pm_M183 (pc' := 54) rfl rfl rfl ?_
              refine pm_R_cv pm_M183 (pc' := 57) (a := 41) (ra := []) (rest := []) (ls' := [.ref 41, pm_no, pm_no]) rfl rfl (Or.inl rfl) pm_M179 T549.2.1 rfl (by decide) (Nat.lt_of_lt_of_le (by decide) T549.1) rfl rfl (Nat.le_of_ble_eq_true rfl) rfl rfl ?_
              have B766 : sf_B 0 600 (m531 10) := T549.2.2.1 10
              refine rf_c179 (d := d + 0) T549  (fun m769 w770 h771 T772 F773 W774 X775 X776 => ?_)
              have F777 := F552.trans F773 (by decide)
              have B778 : sf_B 1 4 (m769 17) := by rw [W774 17 (by decide)]; exact B540
              have ek779 : (m769 17).toInt = ((m21 17)).toInt := by rw [W774 17 (by decide)]; exact ek541
              have W780 : rf_W [10, 12, 13, 14, 16, 17, 18, 22] m m769 := W542.trans W774 (by decide)
              show pm_R _ 183 57 [.ref 41, .int 1, .int 5, .int (-1)] [] _ _
              refine pm_R_op pm_M183 (pc' := 58) (st' := [.int 1]) rfl rfl rfl ?_
              refine pm_R_ret pm_M183 (r := some (.int 1)) rfl rfl ?_
              show pm_R _ 187 102 [.ref 41, .long a0, pm_no, .int a1] [.int 1] _ _
              refine pm_R_br pm_M187 (pc' := 105) (st' := []) rfl rfl ?_
              refine pm_R_lo pm_M187 (pc' := 106) rfl rfl rfl ?_
              refine pm_R_op pm_M187 (pc' := 107) (st' := [.int 2, .ref 41]) rfl rfl rfl ?_
              refine pm_R_op pm_M187 (pc' := 108) (st' := [.int 5, .int 2, .ref 41]) rfl rfl rfl ?_
              refine pm_R_op pm_M187 (pc' := 109) (st' := [.int (-1), .int 5, .int 2, .ref 41]) (pm_q187_1 (Nat.le_of_ble_eq_true rfl)) rfl rfl ?_
              refine pm_R_cv pm_M187 (pc' := 112) (a := 41) (ra := [.int (-1), .int 5, .int 2]) (rest := []) (ls' := [.ref 41, .int 2, .int 5, .int (-1)]) (pm_q187_1 (Nat.le_of_ble_eq_true rfl)) rfl (Or.inl rfl) pm_M183 T772.2.1 rfl (by decide) (Nat.lt_of_lt_of_le (by decide) T772.1) rfl rfl (Nat.le_of_ble_eq_true rfl) rfl rfl ?_
              refine pm_R_lo pm_M183 (pc' := 1) rfl rfl rfl ?_
              have B781 : sf_B 0 4 (m769 13) := T772.2.2.1 13
              refine rf_R_get pm_M183 T772 (pc' := 4) (v := .int (m769 13)) rfl rfl rfl rfl ?_
              refine pm_R_op pm_M183 (pc' := 5) (st' := [.int 3, .int (m769 13)]) rfl rfl rfl ?_
              refine pm_R_icmp pm_M183 (t := 13) (pc' := 8) rfl rfl rfl (fun c782 => ?_) (fun c782 => ?_)
              · have B783 : sf_B 3 3 (m769 13) := sf_eqL c782 sf_k3
                refine pm_R_lo pm_M183 (pc' := 14) rfl rfl rfl ?_
                refine rf_R_get pm_M183 T772 (pc' := 17) (v := .ref 52) rfl rfl rfl rfl ?_
                refine pm_R_lo pm_M183 (pc' := 18) rfl rfl rfl ?_
                refine pm_R_lo pm_M183 (pc' := 19) rfl rfl rfl ?_
                have B784 : sf_B 0 99 (m769 14) := T772.2.2.1 14
                refine rf_R_get pm_M183 T772 (pc' := 22) (v := .int (m769 14)) rfl rfl rfl rfl ?_
                have e785 := (F773.cell (by decide) e551)
                refine rf_R_ist pm_M183 T772 (pc' := 23) rfl e785 (by decide) (by decide) rfl ⟨_, rfl, sf_upd (sf_upd (sf_upd b55 (sf_weak B52 (by decide) (by decide)) _) (sf_weak B546 (by decide) (by decide)) _) (sf_weak B784 (by decide) (by decide)) _⟩ rfl (fun h786 T787 F788 e789 => ?_)
                have F790 := F777.trans F788 (by decide)
                refine pm_R_lo pm_M183 (pc' := 24) rfl rfl rfl ?_
                refine rf_R_get pm_M183 T787 (pc' := 27) (v := .int (m769 14)) rfl rfl rfl rfl ?_
                refine pm_R_lo pm_M183 (pc' := 28) rfl rfl rfl ?_
                refine pm_R_icmp pm_M183 (t := 39) (pc' := 31) rfl rfl rfl (fun c791 => ?_) (fun c791 => ?_)
                · have B792 : sf_B 6 99 (m769 14) := sf_ltR c791 sf_k5 B784
                  refine pm_R_lo pm_M183 (pc' := 40) rfl rfl rfl ?_
                  refine pm_R_op pm_M183 (pc' := 41) (st' := [.int 2, .ref 41]) rfl rfl rfl ?_
                  refine pm_R_lo pm_M183 (pc' := 42) rfl rfl rfl ?_
                  have B793 : sf_B 0 600 (m769 12) := T787.2.2.1 12
                  refine rf_R_get pm_M183 T787 (pc' := 45) (v := .int (m769 12)) rfl rfl rfl rfl ?_
                  refine pm_R_cv pm_M183 (pc' := 48) (a := 41) (ra := [.int (m769 12), .int 2]) (rest := []) (ls' := [.ref 41, .int 2, .int (m769 12)]) rfl rfl (Or.inl rfl) pm_M182 T787.2.1 rfl (by decide) (Nat.lt_of_lt_of_le (by decide) T787.1) rfl rfl (Nat.le_of_ble_eq_true rfl) rfl rfl ?_
                  refine rf_c182 (d := d + 1) T787 (sf_weak sf_k2 (by decide) (by decide)) B793 (fun m796 w797 h798 T799 F800 W801 B802 => ?_)
                  have F803 := F790.trans F800 (by decide)
                  have B804 : sf_B 3 3 (m796 13) := by rw [W801 13 (by decide)]; exact B783
                  have B805 : sf_B 6 99 (m796 14) := by rw [W801 14 (by decide)]; exact B792
                  have W806 : rf_W [10, 12, 13, 14, 16, 17, 18, 22] m m796 := W780.trans W801 (by decide)
                  show pm_R _ 183 48 [.ref 41, .int 2, .int 5, .int (-1)] [] _ _
                  refine pm_R_lo pm_M183 (pc' := 49) rfl rfl rfl ?_
                  refine pm_R_op pm_M183 (pc' := 50) (st' := [.int 0, .ref 41]) rfl rfl rfl ?_
                  refine rf_R_put pm_M183 T799 (pc' := 53) rfl rfl rfl (by decide) rfl rfl (sf_weak sf_k0 (by decide) (by decide)) rfl rfl (fun h807 m810 em811 T808 F809 => ?_)
                  have F812 := F803.trans F809 (by decide)
                  have B813 : sf_B 3 3 (m810 13) := by rw [em811]; exact B804
                  have B814 : sf_B 6 99 (m810 14) := by rw [em811]; exact B805
                  have B815 : sf_B 1 4 (m810 17) := by rw [em811]; exact B802
                  have ek816 : (m810 17).toInt = ((m796 17)).toInt := by rw [em811]; rfl
                  have B817 : sf_B 0 0 (m810 22) := by rw [em811]; exact sf_k0
                  have W819 : rf_W [10, 12, 13, 14, 16, 17, 18, 22] m m810 := by rw [em811]; exact W806.put (by decide)
                  refine pm_R_lo pm_M183 (pc' := 54) rfl rfl rfl ?_
                  refine pm_R_cv pm_M183 (pc' := 57) (a := 41) (ra := []) (rest := []) (ls' := [.ref 41, pm_no, pm_no]) rfl rfl (Or.inl rfl) pm_M179 T808.2.1 rfl (by decide) (Nat.lt_of_lt_of_le (by decide) T808.1) rfl rfl (Nat.le_of_ble_eq_true rfl) rfl rfl ?_
                  have B820 : sf_B 0 600 (m810 10) := T808.2.2.1 10
                  refine rf_c179 (d := d + 0) T808  (fun m823 w824 h825 T826 F827 W828 X829 X830 => ?_)
                  have F831 := F812.trans F827 (by decide)
                  have B832 : sf_B 1 4 (m823 17) := by rw [W828 17 (by decide)]; exact B815
                  have ek833 : (m823 17).toInt = ((m796 17)).toInt := by rw [W828 17 (by decide)]; exact ek816
                  have B834 : sf_B 0 0 (m823 22) := by rw [W828 22 (by decide)]; exact B817
                  have W835 : rf_W [10, 12, 13, 14, 16, 17, 18, 22] m m823 := W819.trans W828 (by decide)
                  show pm_R _ 183 57 [.ref 41, .int 2, .int 5, .int (-1)] [] _ _
                  refine pm_R_op pm_M183 (pc' := 58) (st' := [.int 1]) rfl rfl rfl ?_
                  refine pm_R_ret pm_M183 (r := some (.int 1)) rfl rfl ?_
                  show pm_R _ 187 112 [.ref 41, .long a0, pm_no, .int a1] [.int 1] _ _
                  refine pm_R_br pm_M187 (pc' := 115) (st' := []) (pm_q187_1 (Nat.le_of_ble_eq_true rfl)) rfl ?_
                  refine pm_R_lo pm_M187 (pc' := 116) (pm_q187_1 (Nat.le_of_ble_eq_true rfl)) rfl rfl ?_
                  refine pm_R_cv pm_M187 (pc' := 119) (a := 41) (ra := []) (rest := []) (ls' := [.ref 41, pm_no, pm_no]) (pm_q187_1 (Nat.le_of_ble_eq_true rfl)) rfl (Or.inl rfl) pm_M188 T826.2.1 rfl (by decide) (Nat.lt_of_lt_of_le (by decide) T826.1) rfl rfl (Nat.le_of_ble_eq_true rfl) rfl rfl ?_
                  have e836 := (F827.cell (by decide) (F809.cell (by decide) (F800.cell (by decide) e789)))
                  refine rf_c188 (d := d + 0) T826  (fun m839 w840 h841 T842 F843 W844 X845 => ?_) (fun m848 w849 h850 T851 F852 W853 X854 X855 => ?_)
                  · have F856 := F831.trans F843 (by decide)
                    have B857 : sf_B 1 4 (m839 17) := by rw [W844 17 (by decide)]; exact B832
                    have ek858 : (m839 17).toInt = ((m796 17)).toInt := by rw [W844 17 (by decide)]; exact ek833
                    have B859 : sf_B 0 0 (m839 22) := by rw [W844 22 (by decide)]; exact B834
                    have W860 : rf_W [10, 12, 13, 14, 16, 17, 18, 22] m m839 := W835.trans W844 (by decide)
                    show pm_R _ 187 119 [.ref 41, .long a0, pm_no, .int a1] [.int 0] _ _
                    refine pm_R_br pm_M187 (pc' := 122) (st' := []) (pm_q187_1 (Nat.le_of_ble_eq_true rfl)) rfl ?_
                    refine pm_R_op pm_M187 (pc' := 123) (st' := [.int 0]) (pm_q187_1 (Nat.le_of_ble_eq_true rfl)) rfl rfl ?_
                    have B861 : sf_B 0 600 (m839 10) := T842.2.2.1 10
                    exact pm_R_ret pm_M187 (r := some (.int 0)) (pm_q187_1 (Nat.le_of_ble_eq_true rfl)) rfl (K0 m839 w840 h841 T842 F856 W860 (sf_aux72 _ _ _ _ _ _ _ _ X40 X537 X775 X829 X845))
                  · have F862 := F831.trans F852 (by decide)
                    have B863 : sf_B 1 4 (m848 17) := by rw [W853 17 (by decide)]; exact B832
                    have ek864 : (m848 17).toInt = ((m796 17)).toInt := by rw [W853 17 (by decide)]; exact ek833
                    have B865 : sf_B 0 0 (m848 22) := by rw [W853 22 (by decide)]; exact B834
                    have W866 : rf_W [10, 12, 13, 14, 16, 17, 18, 22] m m848 := W835.trans W853 (by decide)
                    show pm_R _ 187 119 [.ref 41, .long a0, pm_no, .int a1] [.int 1] _ _
                    obtain ⟨v867, B868, e869⟩ := X854 _ e836
                    refine pm_R_br pm_M187 (pc' := 124) (st' := []) (pm_q187_1 (Nat.le_of_ble_eq_true rfl)) rfl ?_
                    refine pm_R_lo pm_M187 (pc' := 125) (pm_q187_1 (Nat.le_of_ble_eq_true rfl)) rfl rfl ?_
                    refine pm_R_op pm_M187 (pc' := 126) (st' := [.int 0, .ref 41]) (pm_q187_1 (Nat.le_of_ble_eq_true rfl)) rfl rfl ?_
                    refine pm_R_op pm_M187 (pc' := 127) (st' := [.int 2, .int 0, .ref 41]) (pm_q187_1 (Nat.le_of_ble_eq_true rfl)) rfl rfl ?_
                    refine pm_R_op pm_M187 (pc' := 128) (st' := [.int 4, .int 2, .int 0, .ref 41]) (pm_q187_1 (Nat.le_of_ble_eq_true rfl)) rfl rfl ?_
                    refine pm_R_op pm_M187 (pc' := 130) (st' := [.int 10, .int 4, .int 2, .int 0, .ref 41]) (pm_q187_1 (Nat.le_of_ble_eq_true rfl)) rfl rfl ?_
                    refine pm_R_op pm_M187 (pc' := 131) (st' := [.int 0, .int 10, .int 4, .int 2, .int 0, .ref 41]) (pm_q187_1 (Nat.le_of_ble_eq_true rfl)) rfl rfl ?_
                    refine pm_R_cv pm_M187 (pc' := 134) (a := 41) (ra := [.int 0, .int 10, .int 4, .int 2, .int 0]) (rest := []) (ls' := [.ref 41, .int 0, .int 2, .int 4, .int 10, .int 0, pm_no, pm_no]) (pm_q187_1 (Nat.le_of_ble_eq_true rfl)) rfl (Or.inl rfl) pm_M185 T851.2.1 rfl (by decide) (Nat.lt_of_lt_of_le (by decide) T851.1) rfl rfl (Nat.le_of_ble_eq_true rfl) rfl rfl ?_
                    refine pm_R_lo pm_M185 (pc' := 1) rfl rfl rfl ?_
                    refine rf_R_get pm_M185 T851 (pc' := 4) (v := .ref 51) rfl rfl rfl rfl ?_
                    refine pm_R_lo pm_M185 (pc' := 5) rfl rfl rfl ?_
                    have e870 := (F852.cell (by decide) (F827.cell (by decide) (F809.cell (by decide) (F800.cell (by decide) (F788.cell (by decide) (F773.cell (by decide) (F550.cell (by decide) (F535.cell (by decide) (F58.cell (by decide) (F38.cell (by decide) (F25.cell (by decide) e3)))))))))))
                    refine pm_R_iald pm_M185 (pc' := 6) (v := (f2 0)) rfl e870 (Nat.lt_of_lt_of_le (by decide) T851.1) rfl rfl rfl ?_
                    refine pm_R_lo pm_M185 (pc' := 8) (ls' := [.ref 41, .int 0, .int 2, .int 4, .int 10, .int 0, .int (f2 0), pm_no]) (st' := []) rfl rfl rfl ?_
                    refine pm_R_lo pm_M185 (pc' := 10) rfl rfl rfl ?_
                    refine pm_R_lo pm_M185 (pc' := 12) rfl rfl rfl ?_
                    refine pm_R_icmp pm_M185 (t := 16) (pc' := 15) rfl rfl rfl (fun c873 => absurd (sf_pt2 B18 sf_k10) c873) (fun c873 => ?_)
                    refine pm_R_ret pm_M185 (r := none) rfl rfl ?_
                    show pm_R _ 187 134 [.ref 41, .long a0, pm_no, .int a1] [] _ _
                    refine pm_R_op pm_M187 (pc' := 135) (st' := [.int 1]) (pm_q187_1 (Nat.le_of_ble_eq_true rfl)) rfl rfl ?_
                    have B874 : sf_B 0 600 (m848 10) := T851.2.2.1 10
                    exact pm_R_ret pm_M187 (r := some (.int 1)) (pm_q187_1 (Nat.le_of_ble_eq_true rfl)) rfl (K1 m848 w849 h850 T851 F862 W866 (⟨f2, e870, ct4, fun z => (sf_pos B863 (by decide) z)⟩) (sf_aux72 _ _ _ _ _ _ _ _ X40 X537 X775 X829 X855))
                · have B875 : sf_B 0 5 (m769 14) := sf_leL (Int32.not_lt.mp c791) B784 sf_k5
                  refine pm_R_lo pm_M183 (pc' := 32) rfl rfl rfl ?_
                  refine rf_R_get pm_M183 T787 (pc' := 35) (v := .int (m769 14)) rfl rfl rfl rfl ?_
                  refine pm_R_lo pm_M183 (pc' := 36) rfl rfl rfl ?_
                  refine pm_R_icmp pm_M183 (t := 53) (pc' := 39) rfl rfl rfl (fun c876 => ?_) (fun c876 => absurd (Classical.not_not.mp c876) (sf_neq1 B875 sf_kn1 (by decide)))
                  skip
                  refine pm_R_lo pm_M183 (pc' := 54) rfl rfl rfl ?_
                  refine pm_R_cv pm_M183 (pc' := 57) (a := 41) (ra := []) (rest := []) (ls' := [.ref 41, pm_no, pm_no]) rfl rfl (Or.inl rfl) pm_M179 T787.2.1 rfl (by decide) (Nat.lt_of_lt_of_le (by decide) T787.1) rfl rfl (Nat.le_of_ble_eq_true rfl) rfl rfl ?_
                  have B877 : sf_B 0 600 (m769 10) := T787.2.2.1 10
                  refine rf_c179 (d := d + 0) T787  (fun m880 w881 h882 T883 F884 W885 X886 X887 => ?_)
                  have F888 := F790.trans F884 (by decide)
                  have B889 : sf_B 1 4 (m880 17) := by rw [W885 17 (by decide)]; exact B778
                  have ek890 : (m880 17).toInt = ((m21 17)).toInt := by rw [W885 17 (by decide)]; exact ek779
                  have W891 : rf_W [10, 12, 13, 14, 16, 17, 18, 22] m m880 := W780.trans W885 (by decide)
                  show pm_R _ 183 57 [.ref 41, .int 2, .int 5, .int (-1)] [] _ _
                  refine pm_R_op pm_M183 (pc' := 58) (st' := [.int 1]) rfl rfl rfl ?_
                  refine pm_R_ret pm_M183 (r := some (.int 1)) rfl rfl ?_
                  show pm_R _ 187 112 [.ref 41, .long a0, pm_no, .int a1] [.int 1] _ _
                  refine pm_R_br pm_M187 (pc' := 115) (st' := []) (pm_q187_1 (Nat.le_of_ble_eq_true rfl)) rfl ?_
                  refine pm_R_lo pm_M187 (pc' := 116) (pm_q187_1 (Nat.le_of_ble_eq_true rfl)) rfl rfl ?_
                  refine pm_R_cv pm_M187 (pc' := 119) (a := 41) (ra := []) (rest := []) (ls' := [.ref 41, pm_no, pm_no]) (pm_q187_1 (Nat.le_of_ble_eq_true rfl)) rfl (Or.inl rfl) pm_M188 T883.2.1 rfl (by decide) (Nat.lt_of_lt_of_le (by decide) T883.1) rfl rfl (Nat.le_of_ble_eq_true rfl) rfl rfl ?_
                  have e892 := (F884.cell (by decide) e789)
                  refine rf_c188 (d := d + 0) T883  (fun m895 w896 h897 T898 F899 W900 X901 => ?_) (fun m904 w905 h906 T907 F908 W909 X910 X911 => ?_)
                  · have F912 := F888.trans F899 (by decide)
                    have B913 : sf_B 1 4 (m895 17) := by rw [W900 17 (by decide)]; exact B889
                    have ek914 : (m895 17).toInt = ((m21 17)).toInt := by rw [W900 17 (by decide)]; exact ek890
                    have W915 : rf_W [10, 12, 13, 14, 16, 17, 18, 22] m m895 := W891.trans W900 (by decide)
                    show pm_R _ 187 119 [.ref 41, .long a0, pm_no, .int a1] [.int 0] _ _
                    refine pm_R_br pm_M187 (pc' := 122) (st' := []) (pm_q187_1 (Nat.le_of_ble_eq_true rfl)) rfl ?_
                    refine pm_R_op pm_M187 (pc' := 123) (st' := [.int 0]) (pm_q187_1 (Nat.le_of_ble_eq_true rfl)) rfl rfl ?_
                    have B916 : sf_B 0 600 (m895 10) := T898.2.2.1 10
                    exact pm_R_ret pm_M187 (r := some (.int 0)) (pm_q187_1 (Nat.le_of_ble_eq_true rfl)) rfl (K0 m895 w896 h897 T898 F912 W915 (sf_aux73 _ _ _ _ _ _ _ X40 X537 X775 X886 X901))
                  · have F917 := F888.trans F908 (by decide)
                    have B918 : sf_B 1 4 (m904 17) := by rw [W909 17 (by decide)]; exact B889
                    have ek919 : (m904 17).toInt = ((m21 17)).toInt := by rw [W909 17 (by decide)]; exact ek890
                    have W920 : rf_W [10, 12, 13, 14, 16, 17, 18, 22] m m904 := W891.trans W909 (by decide)
                    show pm_R _ 187 119 [.ref 41, .long a0, pm_no, .int a1] [.int 1] _ _
                    obtain ⟨v921, B922, e923⟩ := X910 _ e892
                    refine pm_R_br pm_M187 (pc' := 124) (st' := []) (pm_q187_1 (Nat.le_of_ble_eq_true rfl)) rfl ?_
                    refine pm_R_lo pm_M187 (pc' := 125) (pm_q187_1 (Nat.le_of_ble_eq_true rfl)) rfl rfl ?_
                    refine pm_R_op pm_M187 (pc' := 126) (st' := [.int 0, .ref 41]) (pm_q187_1 (Nat.le_of_ble_eq_true rfl)) rfl rfl ?_
                    refine pm_R_op pm_M187 (pc' := 127) (st' := [.int 2, .int 0, .ref 41]) (pm_q187_1 (Nat.le_of_ble_eq_true rfl)) rfl rfl ?_
                    refine pm_R_op pm_M187 (pc' := 128) (st' := [.int 4, .int 2, .int 0, .ref 41]) (pm_q187_1 (Nat.le_of_ble_eq_true rfl)) rfl rfl ?_
                    refine pm_R_op pm_M187 (pc' := 130) (st' := [.int 10, .int 4, .int 2, .int 0, .ref 41]) (pm_q187_1 (Nat.le_of_ble_eq_true rfl)) rfl rfl ?_
                    refine pm_R_op pm_M187 (pc' := 131) (st' := [.int 0, .int 10, .int 4, .int 2, .int 0, .ref 41]) (pm_q187_1 (Nat.le_of_ble_eq_true rfl)) rfl rfl ?_
                    refine pm_R_cv pm_M187 (pc' := 134) (a := 41) (ra := [.int 0, .int 10, .int 4, .int 2, .int 0]) (rest := []) (ls' := [.ref 41, .int 0, .int 2, .int 4, .int 10, .int 0, pm_no, pm_no]) (pm_q187_1 (Nat.le_of_ble_eq_true rfl)) rfl (Or.inl rfl) pm_M185 T907.2.1 rfl (by decide) (Nat.lt_of_lt_of_le (by decide) T907.1) rfl rfl (Nat.le_of_ble_eq_true rfl) rfl rfl ?_
                    refine pm_R_lo pm_M185 (pc' := 1) rfl rfl rfl ?_
                    refine rf_R_get pm_M185 T907 (pc' := 4) (v := .ref 51) rfl rfl rfl rfl ?_
                    refine pm_R_lo pm_M185 (pc' := 5) rfl rfl rfl ?_
                    have e924 := (F908.cell (by decide) (F884.cell (by decide) (F788.cell (by decide) (F773.cell (by decide) (F550.cell (by decide) (F535.cell (by decide) (F58.cell (by decide) (F38.cell (by decide) (F25.cell (by decide) e3)))))))))
                    refine pm_R_iald pm_M185 (pc' := 6) (v := (f2 0)) rfl e924 (Nat.lt_of_lt_of_le (by decide) T907.1) rfl rfl rfl ?_
                    refine pm_R_lo pm_M185 (pc' := 8) (ls' := [.ref 41, .int 0, .int 2, .int 4, .int 10, .int 0, .int (f2 0), pm_no]) (st' := []) rfl rfl rfl ?_
                    refine pm_R_lo pm_M185 (pc' := 10) rfl rfl rfl ?_
                    refine pm_R_lo pm_M185 (pc' := 12) rfl rfl rfl ?_
                    refine pm_R_icmp pm_M185 (t := 16) (pc' := 15) rfl rfl rfl (fun c927 => absurd (sf_pt2 B18 sf_k10) c927) (fun c927 => ?_)
                    refine pm_R_ret pm_M185 (r := none) rfl rfl ?_
                    show pm_R _ 187 134 [.ref 41, .long a0, pm_no, .int a1] [] _ _
                    refine pm_R_op pm_M187 (pc' := 135) (st' := [.int 1]) (pm_q187_1 (Nat.le_of_ble_eq_true rfl)) rfl rfl ?_
                    have B928 : sf_B 0 600 (m904 10) := T907.2.2.1 10
                    exact pm_R_ret pm_M187 (r := some (.int 1)) (pm_q187_1 (Nat.le_of_ble_eq_true rfl)) rfl (K1 m904 w905 h906 T907 F917 W920 (⟨f2, e924, ct4, fun z => (sf_pos B918 (by decide) z)⟩) (sf_aux73 _ _ _ _ _ _ _ X40 X537 X775 X886 X911))
              · skip
                refine pm_R_lo pm_M183 (pc' := 9) rfl rfl rfl ?_
                refine pm_R_cv pm_M183 (pc' := 12) (a := 41) (ra := []) (rest := []) (ls' := [.ref 41]) rfl rfl (Or.inl rfl) pm_M184 T772.2.1 rfl (by decide) (Nat.lt_of_lt_of_le (by decide) T772.1) rfl rfl (Nat.le_of_ble_eq_true rfl) rfl rfl ?_
                refine pm_R_lo pm_M184 (pc' := 1) rfl rfl rfl ?_
                refine pm_R_lo pm_M184 (pc' := 2) rfl rfl rfl ?_
                have B929 : sf_B 0 600 (m769 12) := T772.2.2.1 12
                refine rf_R_get pm_M184 T772 (pc' := 5) (v := .int (m769 12)) rfl rfl rfl rfl ?_
                refine rf_R_put pm_M184 T772 (pc' := 8) rfl rfl rfl (by decide) rfl rfl B929 rfl rfl (fun h930 m933 em934 T931 F932 => ?_)
                have F935 := F777.trans F932 (by decide)
                have B936 : sf_B 1 4 (m933 17) := by rw [em934]; exact B778
                have ek937 : (m933 17).toInt = ((m21 17)).toInt := by rw [em934]; exact ek779
                have B938 : sf_B 0 600 (m933 16) := by rw [em934]; exact B929
                have ek939 : (m933 16).toInt = ((m769 12)).toInt := by rw [em934]; rfl
                have W940 : rf_W [10, 12, 13, 14, 16, 17, 18, 22] m m933 := by rw [em934]; exact W780.put (by decide)
                refine pm_R_op pm_M184 (pc' := 9) (st' := [.int 0]) rfl rfl rfl ?_
                refine pm_R_ret pm_M184 (r := some (.int 0)) rfl rfl ?_
                show pm_R _ 183 12 [.ref 41, .int 2, .int 5, .int (-1)] [.int 0] _ _
                refine pm_R_ret pm_M183 (r := some (.int 0)) rfl rfl ?_
                show pm_R _ 187 112 [.ref 41, .long a0, pm_no, .int a1] [.int 0] _ _
                refine pm_R_br pm_M187 (pc' := 122) (st' := []) (pm_q187_1 (Nat.le_of_ble_eq_true rfl)) rfl ?_
                refine pm_R_op pm_M187 (pc' := 123) (st' := [.int 0]) (pm_q187_1 (Nat.le_of_ble_eq_true rfl)) rfl rfl ?_
                have B941 : sf_B 0 600 (m933 10) := T931.2.2.1 10
                exact pm_R_ret pm_M187 (r := some (.int 0)) (pm_q187_1 (Nat.le_of_ble_eq_true rfl)) rfl (K0 m933 w770 h930 T931 F935 W940 (sf_aux74 _ _ _ _ _ _ X40 X537 X775))
          · skip
            refine pm_R_lo pm_M183 (pc' := 9) rfl rfl rfl ?_
            refine pm_R_cv pm_M183 (pc' := 12) (a := 41) (ra := []) (rest := []) (ls' := [.ref 41]) rfl rfl (Or.inl rfl) pm_M184 T534.2.1 rfl (by decide) (Nat.lt_of_lt_of_le (by decide) T534.1) rfl rfl (Nat.le_of_ble_eq_true rfl) rfl rfl ?_
            refine pm_R_lo pm_M184 (pc' := 1) rfl rfl rfl ?_
            refine pm_R_lo pm_M184 (pc' := 2) rfl rfl rfl ?_
            have B942 : sf_B 0 600 (m531 12) := T534.2.2.1 12
            refine rf_R_get pm_M184 T534 (pc' := 5) (v := .int (m531 12)) rfl rfl rfl rfl ?_
            refine rf_R_put pm_M184 T534 (pc' := 8) rfl rfl rfl (by decide) rfl rfl B942 rfl rfl (fun h943 m946 em947 T944 F945 => ?_)
            have F948 := F539.trans F945 (by decide)
            have B949 : sf_B 1 4 (m946 17) := by rw [em947]; exact B540
            have ek950 : (m946 17).toInt = ((m21 17)).toInt := by rw [em947]; exact ek541
            have B951 : sf_B 0 600 (m946 16) := by rw [em947]; exact B942
            have ek952 : (m946 16).toInt = ((m531 12)).toInt := by rw [em947]; rfl
            have W953 : rf_W [10, 12, 13, 14, 16, 17, 18, 22] m m946 := by rw [em947]; exact W542.put (by decide)
            refine pm_R_op pm_M184 (pc' := 9) (st' := [.int 0]) rfl rfl rfl ?_
            refine pm_R_ret pm_M184 (r := some (.int 0)) rfl rfl ?_
            show pm_R _ 183 12 [.ref 41, .int 1, .int 5, .int (-1)] [.int 0] _ _
            refine pm_R_ret pm_M183 (r := some (.int 0)) rfl rfl ?_
            show pm_R _ 187 102 [.ref 41, .long a0, pm_no, .int a1] [.int 0] _ _
            refine pm_R_br pm_M187 (pc' := 122) (st' := []) rfl rfl ?_
            refine pm_R_op pm_M187 (pc' := 123) (st' := [.int 0]) (pm_q187_1 (Nat.le_of_ble_eq_true rfl)) rfl rfl ?_
            have B954 : sf_B 0 600 (m946 10) := T944.2.2.1 10
            exact pm_R_ret pm_M187 (r := some (.int 0)) (pm_q187_1 (Nat.le_of_ble_eq_true rfl)) rfl (K0 m946 w532 h943 T944 F948 W953 (sf_aux75 _ _ _ _ _ X40 X537))
      · skip
        refine pm_R_lo pm_M183 (pc' := 9) rfl rfl rfl ?_
        refine pm_R_cv pm_M183 (pc' := 12) (a := 41) (ra := []) (rest := []) (ls' := [.ref 41]) rfl rfl (Or.inl rfl) pm_M184 T37.2.1 rfl (by decide) (Nat.lt_of_lt_of_le (by decide) T37.1) rfl rfl (Nat.le_of_ble_eq_true rfl) rfl rfl ?_
        refine pm_R_lo pm_M184 (pc' := 1) rfl rfl rfl ?_
        refine pm_R_lo pm_M184 (pc' := 2) rfl rfl rfl ?_
        have B955 : sf_B 0 600 (m34 12) := T37.2.2.1 12
        refine rf_R_get pm_M184 T37 (pc' := 5) (v := .int (m34 12)) rfl rfl rfl rfl ?_
        refine rf_R_put pm_M184 T37 (pc' := 8) rfl rfl rfl (by decide) rfl rfl B955 rfl rfl (fun h956 m959 em960 T957 F958 => ?_)
        have F961 := F42.trans F958 (by decide)
        have B962 : sf_B 1 4 (m959 17) := by rw [em960]; exact B43
        have ek963 : (m959 17).toInt = ((m21 17)).toInt := by rw [em960]; exact ek44
        have B964 : sf_B 0 600 (m959 16) := by rw [em960]; exact B955
        have ek965 : (m959 16).toInt = ((m34 12)).toInt := by rw [em960]; rfl
        have W966 : rf_W [10, 12, 13, 14, 16, 17, 18, 22] m m959 := by rw [em960]; exact W45.put (by decide)
        refine pm_R_op pm_M184 (pc' := 9) (st' := [.int 0]) rfl rfl rfl ?_
        refine pm_R_ret pm_M184 (r := some (.int 0)) rfl rfl ?_
        show pm_R _ 183 12 [.ref 41, .int 0, .int 5, .int (-1)] [.int 0] _ _
        refine pm_R_ret pm_M183 (r := some (.int 0)) rfl rfl ?_
        show pm_R _ 187 92 [.ref 41, .long a0, pm_no, .int a1] [.int 0] _ _
        refine pm_R_br pm_M187 (pc' := 122) (st' := []) rfl rfl ?_
        refine pm_R_op pm_M187 (pc' := 123) (st' := [.int 0]) (pm_q187_1 (Nat.le_of_ble_eq_true rfl)) rfl rfl ?_
        have B967 : sf_B 0 600 (m959 10) := T957.2.2.1 10
        exact pm_R_ret pm_M187 (r := some (.int 0)) (pm_q187_1 (Nat.le_of_ble_eq_true rfl)) rfl (K0 m959 w35 h956 T957 F961 W966 (sf_aux76 _ _ _ _ X40))
    · have B968 : sf_B 0 9 (f2 0) := sf_neH0 c17 sf_k10 ct4.1
      refine pm_R_lo pm_M187 (pc' := 49) rfl rfl rfl ?_
      refine pm_R_ldc2 pm_M187 (pc' := 52) rfl rfl rfl ?_
      refine sf_R_lcmp pm_M187 (pc' := 53) rfl rfl (fun z969 e970 => ?_)
      have B971 : sf_B (-2147483648) (-1) z969 := lf_cmpLt e970 B11 (⟨by decide, by decide⟩ : lf_B 1936287598 1936287598 1936287598) (by decide)
      refine pm_R_ifc pm_M187 (t := 73) (pc' := 56) rfl rfl rfl (fun c972 => ?_) (fun c972 => absurd (Classical.not_not.mp c972) (sf_neq2 B971 sf_k0 (by decide)))
      have k973 := sf_lneC e970 c972
      refine pm_R_lo pm_M187 (pc' := 74) rfl rfl rfl ?_
      refine pm_R_cv pm_M187 (pc' := 77) (a := 41) (ra := []) (rest := []) (ls' := [.ref 41, pm_no, pm_no]) rfl rfl (Or.inl rfl) pm_M179 T.2.1 rfl (by decide) (Nat.lt_of_lt_of_le (by decide) T.1) rfl rfl (Nat.le_of_ble_eq_true rfl) rfl rfl ?_
      refine rf_c179 (d := d + 1) T  (fun m976 w977 h978 T979 F980 W981 X982 X983 => ?_)
      have F984 := (rf_G.refl [41, 51, 52] h).trans F980 (by decide)
      have B985 : sf_B 0 4 (m976 17) := by rw [W981 17 (by decide)]; exact B6
      have ek986 : (m976 17).toInt = ((m 17)).toInt := by rw [W981 17 (by decide)]
      have W987 : rf_W [10, 12, 13, 14, 16, 17, 18, 22] m m976 := (rf_W.refl [10, 12, 13, 14, 16, 17, 18, 22] m).trans W981 (by decide)
      show pm_R _ 187 77 [.ref 41, .long a0, pm_no, .int a1] [] _ _
      refine pm_R_lo pm_M187 (pc' := 78) rfl rfl rfl ?_
      refine pm_R_ldc2 pm_M187 (pc' := 81) rfl rfl rfl ?_
      refine pm_R_op pm_M187 (pc' := 82) (st' := [.int z7]) rfl (by show some (Value.int (lg_cmp a0 1920298085) :: _) = _; rw [← e8]) rfl ?_
      refine pm_R_ifc pm_M187 (t := 136) (pc' := 85) rfl rfl rfl (fun c990 => absurd (sf_pt2 B10 sf_k0) c990) (fun c990 => ?_)
      refine pm_R_lo pm_M187 (pc' := 86) rfl rfl rfl ?_
      refine pm_R_op pm_M187 (pc' := 87) (st' := [.int 0, .ref 41]) rfl rfl rfl ?_
      refine pm_R_op pm_M187 (pc' := 88) (st' := [.int 5, .int 0, .ref 41]) rfl rfl rfl ?_
      refine pm_R_op pm_M187 (pc' := 89) (st' := [.int (-1), .int 5, .int 0, .ref 41]) rfl rfl rfl ?_
      refine pm_R_cv pm_M187 (pc' := 92) (a := 41) (ra := [.int (-1), .int 5, .int 0]) (rest := []) (ls' := [.ref 41, .int 0, .int 5, .int (-1)]) rfl rfl (Or.inl rfl) pm_M183 T979.2.1 rfl (by decide) (Nat.lt_of_lt_of_le (by decide) T979.1) rfl rfl (Nat.le_of_ble_eq_true rfl) rfl rfl ?_
      refine pm_R_lo pm_M183 (pc' := 1) rfl rfl rfl ?_
      have B991 : sf_B 0 4 (m976 13) := T979.2.2.1 13
      refine rf_R_get pm_M183 T979 (pc' := 4) (v := .int (m976 13)) rfl rfl rfl rfl ?_
      refine pm_R_op pm_M183 (pc' := 5) (st' := [.int 3, .int (m976 13)]) rfl rfl rfl ?_
      refine pm_R_icmp pm_M183 (t := 13) (pc' := 8) rfl rfl rfl (fun c992 => ?_) (fun c992 => ?_)
      · have B993 : sf_B 3 3 (m976 13) := sf_eqL c992 sf_k3
        refine pm_R_lo pm_M183 (pc' := 14) rfl rfl rfl ?_
        refine rf_R_get pm_M183 T979 (pc' := 17) (v := .ref 52) rfl rfl rfl rfl ?_
        refine pm_R_lo pm_M183 (pc' := 18) rfl rfl rfl ?_
        refine pm_R_lo pm_M183 (pc' := 19) rfl rfl rfl ?_
        have B994 : sf_B 0 99 (m976 14) := T979.2.2.1 14
        refine rf_R_get pm_M183 T979 (pc' := 22) (v := .int (m976 14)) rfl rfl rfl rfl ?_
        obtain ⟨f995, e996, b997⟩ := T979.2.2.2.1 52 (by decide) (by decide)
        refine rf_R_ist pm_M183 T979 (pc' := 23) rfl e996 (by decide) (by decide) rfl ⟨_, rfl, sf_upd b997 (sf_weak B994 (by decide) (by decide)) _⟩ rfl (fun h998 T999 F1000 e1001 => ?_)
        have F1002 := F984.trans F1000 (by decide)
        refine pm_R_lo pm_M183 (pc' := 24) rfl rfl rfl ?_
        refine rf_R_get pm_M183 T999 (pc' := 27) (v := .int (m976 14)) rfl rfl rfl rfl ?_
        refine pm_R_lo pm_M183 (pc' := 28) rfl rfl rfl ?_
        refine pm_R_icmp pm_M183 (t := 39) (pc' := 31) rfl rfl rfl (fun c1003 => ?_) (fun c1003 => ?_)
        · have B1004 : sf_B 6 99 (m976 14) := sf_ltR c1003 sf_k5 B994
          refine pm_R_lo pm_M183 (pc' := 40) rfl rfl rfl ?_
          refine pm_R_op pm_M183 (pc' := 41) (st' := [.int 2, .ref 41]) rfl rfl rfl ?_
          refine pm_R_lo pm_M183 (pc' := 42) rfl rfl rfl ?_
          have B1005 : sf_B 0 600 (m976 12) := T999.2.2.1 12
          refine rf_R_get pm_M183 T999 (pc' := 45) (v := .int (m976 12)) rfl rfl rfl rfl ?_
          refine pm_R_cv pm_M183 (pc' := 48) (a := 41) (ra := [.int (m976 12), .int 2]) (rest := []) (ls' := [.ref 41, .int 2, .int (m976 12)]) rfl rfl (Or.inl rfl) pm_M182 T999.2.1 rfl (by decide) (Nat.lt_of_lt_of_le (by decide) T999.1) rfl rfl (Nat.le_of_ble_eq_true rfl) rfl rfl ?_
          refine rf_c182 (d := d + 1) T999 (sf_weak sf_k2 (by decide) (by decide)) B1005 (fun m1008 w1009 h1010 T1011 F1012 W1013 B1014 => ?_)
          have F1015 := F1002.trans F1012 (by decide)
          have B1016 : sf_B 3 3 (m1008 13) := by rw [W1013 13 (by decide)]; exact B993
          have B1017 : sf_B 6 99 (m1008 14) := by rw [W1013 14 (by decide)]; exact B1004
          have W1018 : rf_W [10, 12, 13, 14, 16, 17, 18, 22] m m1008 := W987.trans W1013 (by decide)
          show pm_R _ 183 48 [.ref 41, .int 0, .int 5, .int (-1)] [] _ _
          refine pm_R_lo pm_M183 (pc' := 49) rfl rfl rfl ?_
          refine pm_R_op pm_M183 (pc' := 50) (st' := [.int 0, .ref 41]) rfl rfl rfl ?_
          refine rf_R_put pm_M183 T1011 (pc' := 53) rfl rfl rfl (by decide) rfl rfl (sf_weak sf_k0 (by decide) (by decide)) rfl rfl (fun h1019 m1022 em1023 T1020 F1021 => ?_)
          have F1024 := F1015.trans F1021 (by decide)
          have B1025 : sf_B 3 3 (m1022 13) := by rw [em1023]; exact B1016
          have B1026 : sf_B 6 99 (m1022 14) := by rw [em1023]; exact B1017
          have B1027 : sf_B 1 4 (m1022 17) := by rw [em1023]; exact B1014
          have ek1028 : (m1022 17).toInt = ((m1008 17)).toInt := by rw [em1023]; rfl
          have B1029 : sf_B 0 0 (m1022 22) := by rw [em1023]; exact sf_k0
          have W1031 : rf_W [10, 12, 13, 14, 16, 17, 18, 22] m m1022 := by rw [em1023]; exact W1018.put (by decide)
          refine pm_R_lo pm_M183 (pc' := 54) rfl rfl rfl ?_
          refine pm_R_cv pm_M183 (pc' := 57) (a := 41) (ra := []) (rest := []) (ls' := [.ref 41, pm_no, pm_no]) rfl rfl (Or.inl rfl) pm_M179 T1020.2.1 rfl (by decide) (Nat.lt_of_lt_of_le (by decide) T1020.1) rfl rfl (Nat.le_of_ble_eq_true rfl) rfl rfl ?_
          have B1032 : sf_B 0 600 (m1022 10) := T1020.2.2.1 10
          refine rf_c179 (d := d + 0) T1020  (fun m1035 w1036 h1037 T1038 F1039 W1040 X1041 X1042 => ?_)
          have F1043 := F1024.trans F1039 (by decide)
          have B1044 : sf_B 1 4 (m1035 17) := by rw [W1040 17 (by decide)]; exact B1027
          have ek1045 : (m1035 17).toInt = ((m1008 17)).toInt := by rw [W1040 17 (by decide)]; exact ek1028
          have B1046 : sf_B 0 0 (m1035 22) := by rw [W1040 22 (by decide)]; exact B1029
          have W1047 : rf_W [10, 12, 13, 14, 16, 17, 18, 22] m m1035 := W1031.trans W1040 (by decide)
          show pm_R _ 183 57 [.ref 41, .int 0, .int 5, .int (-1)] [] _ _
          refine pm_R_op pm_M183 (pc' := 58) (st' := [.int 1]) rfl rfl rfl ?_
          refine pm_R_ret pm_M183 (r := some (.int 1)) rfl rfl ?_
          show pm_R _ 187 92 [.ref 41, .long a0, pm_no, .int a1] [.int 1] _ _
          refine pm_R_br pm_M187 (pc' := 95) (st' := []) rfl rfl ?_
          refine pm_R_lo pm_M187 (pc' := 96) rfl rfl rfl ?_
          refine pm_R_op pm_M187 (pc' := 97) (st' := [.int 1, .ref 41]) rfl rfl rfl ?_
          refine pm_R_op pm_M187 (pc' := 98) (st' := [.int 5, .int 1, .ref 41]) rfl rfl rfl ?_
          refine pm_R_op pm_M187 (pc' := 99) (st' := [.int (-1), .int 5, .int 1, .ref 41]) rfl rfl rfl ?_
          refine pm_R_cv pm_M187 (pc' := 102) (a := 41) (ra := [.int (-1), .int 5, .int 1]) (rest := []) (ls' := [.ref 41, .int 1, .int 5, .int (-1)]) rfl rfl (Or.inl rfl) pm_M183 T1038.2.1 rfl (by decide) (Nat.lt_of_lt_of_le (by decide) T1038.1) rfl rfl (Nat.le_of_ble_eq_true rfl) rfl rfl ?_
          refine pm_R_lo pm_M183 (pc' := 1) rfl rfl rfl ?_
          have B1048 : sf_B 0 4 (m1035 13) := T1038.2.2.1 13
          refine rf_R_get pm_M183 T1038 (pc' := 4) (v := .int (m1035 13)) rfl rfl rfl rfl ?_
          refine pm_R_op pm_M183 (pc' := 5) (st' := [.int 3, .int (m1035 13)]) rfl rfl rfl ?_
          refine pm_R_icmp pm_M183 (t := 13) (pc' := 8) rfl rfl rfl (fun c1049 => ?_) (fun c1049 => ?_)
          · have B1050 : sf_B 3 3 (m1035 13) := sf_eqL c1049 sf_k3
            refine pm_R_lo pm_M183 (pc' := 14) rfl rfl rfl ?_
            refine rf_R_get pm_M183 T1038 (pc' := 17) (v := .ref 52) rfl rfl rfl rfl ?_
            refine pm_R_lo pm_M183 (pc' := 18) rfl rfl rfl ?_
            refine pm_R_lo pm_M183 (pc' := 19) rfl rfl rfl ?_
            have B1051 : sf_B 0 99 (m1035 14) := T1038.2.2.1 14
            refine rf_R_get pm_M183 T1038 (pc' := 22) (v := .int (m1035 14)) rfl rfl rfl rfl ?_
            have e1052 := (F1039.cell (by decide) (F1021.cell (by decide) (F1012.cell (by decide) e1001)))
            refine rf_R_ist pm_M183 T1038 (pc' := 23) rfl e1052 (by decide) (by decide) rfl ⟨_, rfl, sf_upd (sf_upd b997 (sf_weak B994 (by decide) (by decide)) _) (sf_weak B1051 (by decide) (by decide)) _⟩ rfl (fun h1053 T1054 F1055 e1056 => ?_)
            have F1057 := F1043.trans F1055 (by decide)
            refine pm_R_lo pm_M183 (pc' := 24) rfl rfl rfl ?_
            refine rf_R_get pm_M183 T1054 (pc' := 27) (v := .int (m1035 14)) rfl rfl rfl rfl ?_
            refine pm_R_lo pm_M183 (pc' := 28) rfl rfl rfl ?_
            refine pm_R_icmp pm_M183 (t := 39) (pc' := 31) rfl rfl rfl (fun c1058 => ?_) (fun c1058 => ?_)
            · have B1059 : sf_B 6 99 (m1035 14) := sf_ltR c1058 sf_k5 B1051
              refine pm_R_lo pm_M183 (pc' := 40) rfl rfl rfl ?_
              refine pm_R_op pm_M183 (pc' := 41) (st' := [.int 2, .ref 41]) rfl rfl rfl ?_
              refine pm_R_lo pm_M183 (pc' := 42) rfl rfl rfl ?_
              have B1060 : sf_B 0 600 (m1035 12) := T1054.2.2.1 12
              refine rf_R_get pm_M183 T1054 (pc' := 45) (v := .int (m1035 12)) rfl rfl rfl rfl ?_
              refine pm_R_cv pm_M183 (pc' := 48) (a := 41) (ra := [.int (m1035 12), .int 2]) (rest := []) (ls' := [.ref 41, .int 2, .int (m1035 12)]) rfl rfl (Or.inl rfl) pm_M182 T1054.2.1 rfl (by decide) (Nat.lt_of_lt_of_le (by decide) T1054.1) rfl rfl (Nat.le_of_ble_eq_true rfl) rfl rfl ?_
              refine rf_c182 (d := d + 1) T1054 (sf_weak sf_k2 (by decide) (by decide)) B1060 (fun m1063 w1064 h1065 T1066 F1067 W1068 B1069 => ?_)
              have F1070 := F1057.trans F1067 (by decide)
              have B1071 : sf_B 0 0 (m1063 22) := by rw [W1068 22 (by decide)]; exact B1046
              have B1072 : sf_B 3 3 (m1063 13) := by rw [W1068 13 (by decide)]; exact B1050
              have B1073 : sf_B 6 99 (m1063 14) := by rw [W1068 14 (by decide)]; exact B1059
              have W1074 : rf_W [10, 12, 13, 14, 16, 17, 18, 22] m m1063 := W1047.trans W1068 (by decide)
              show pm_R _ 183 48 [.ref 41, .int 1, .int 5, .int (-1)] [] _ _
              refine pm_R_lo pm_M183 (pc' := 49) rfl rfl rfl ?_
              refine pm_R_op pm_M183 (pc' := 50) (st' := [.int 0, .ref 41]) rfl rfl rfl ?_
              refine rf_R_put pm_M183 T1066 (pc' := 53) rfl rfl rfl (by decide) rfl rfl (sf_weak sf_k0 (by decide) (by decide)) rfl rfl (fun h1075 m1078 em1079 T1076 F1077 => ?_)
              have F1080 := F1070.trans F1077 (by decide)
              have B1081 : sf_B 3 3 (m1078 13) := by rw [em1079]; exact B1072
              have B1082 : sf_B 6 99 (m1078 14) := by rw [em1079]; exact B1073
              have B1083 : sf_B 1 4 (m1078 17) := by rw [em1079]; exact B1069
              have ek1084 : (m1078 17).toInt = ((m1063 17)).toInt := by rw [em1079]; rfl
              have B1085 : sf_B 0 0 (m1078 22) := by rw [em1079]; exact sf_k0
              have W1087 : rf_W [10, 12, 13, 14, 16, 17, 18, 22] m m1078 := by rw [em1079]; exact W1074.put (by decide)
              refine pm_R_lo pm_M183 (pc' := 54) rfl rfl rfl ?_
              refine pm_R_cv pm_M183 (pc' := 57) (a := 41) (ra := []) (rest := []) (ls' := [.ref 41, pm_no, pm_no]) rfl rfl (Or.inl rfl) pm_M179 T1076.2.1 rfl (by decide) (Nat.lt_of_lt_of_le (by decide) T1076.1) rfl rfl (Nat.le_of_ble_eq_true rfl) rfl rfl ?_
              have B1088 : sf_B 0 600 (m1078 10) := T1076.2.2.1 10
              refine rf_c179 (d := d + 0) T1076  (fun m1091 w1092 h1093 T1094 F1095 W1096 X1097 X1098 => ?_)
              have F1099 := F1080.trans F1095 (by decide)
              have B1100 : sf_B 1 4 (m1091 17) := by rw [W1096 17 (by decide)]; exact B1083
              have ek1101 : (m1091 17).toInt = ((m1063 17)).toInt := by rw [W1096 17 (by decide)]; exact ek1084
              have B1102 : sf_B 0 0 (m1091 22) := by rw [W1096 22 (by decide)]; exact B1085
              have W1103 : rf_W [10, 12, 13, 14, 16, 17, 18, 22] m m1091 := W1087.trans W1096 (by decide)
              show pm_R _ 183 57 [.ref 41, .int 1, .int 5, .int (-1)] [] _ _
              refine pm_R_op pm_M183 (pc' := 58) (st' := [.int 1]) rfl rfl rfl ?_
              refine pm_R_ret pm_M183 (r := some (.int 1)) rfl rfl ?_
              show pm_R _ 187 102 [.ref 41, .long a0, pm_no, .int a1] [.int 1] _ _
              refine pm_R_br pm_M187 (pc' := 105) (st' := []) rfl rfl ?_
              refine pm_R_lo pm_M187 (pc' := 106) rfl rfl rfl ?_
              refine pm_R_op pm_M187 (pc' := 107) (st' := [.int 2, .ref 41]) rfl rfl rfl ?_
              refine pm_R_op pm_M187 (pc' := 108) (st' := [.int 5, .int 2, .ref 41]) rfl rfl rfl ?_
              refine pm_R_op pm_M187 (pc' := 109) (st' := [.int (-1), .int 5, .int 2, .ref 41]) (pm_q187_1 (Nat.le_of_ble_eq_true rfl)) rfl rfl ?_
              refine pm_R_cv pm_M187 (pc' := 112) (a := 41) (ra := [.int (-1), .int 5, .int 2]) (rest := []) (ls' := [.ref 41, .int 2, .int 5, .int (-1)]) (pm_q187_1 (Nat.le_of_ble_eq_true rfl)) rfl (Or.inl rfl) pm_M183 T1094.2.1 rfl (by decide) (Nat.lt_of_lt_of_le (by decide) T1094.1) rfl rfl (Nat.le_of_ble_eq_true rfl) rfl rfl ?_
              refine pm_R_lo pm_M183 (pc' := 1) rfl rfl rfl ?_
              have B1104 : sf_B 0 4 (m1091 13) := T1094.2.2.1 13
              refine rf_R_get pm_M183 T1094 (pc' := 4) (v := .int (m1091 13)) rfl rfl rfl rfl ?_
              refine pm_R_op pm_M183 (pc' := 5) (st' := [.int 3, .int (m1091 13)]) rfl rfl rfl ?_
              refine pm_R_icmp pm_M183 (t := 13) (pc' := 8) rfl rfl rfl (fun c1105 => ?_) (fun c1105 => ?_)
              · have B1106 : sf_B 3 3 (m1091 13) := sf_eqL c1105 sf_k3
                refine pm_R_lo pm_M183 (pc' := 14) rfl rfl rfl ?_
                refine rf_R_get pm_M183 T1094 (pc' := 17) (v := .ref 52) rfl rfl rfl rfl ?_
                refine pm_R_lo pm_M183 (pc' := 18) rfl rfl rfl ?_
                refine pm_R_lo pm_M183 (pc' := 19) rfl rfl rfl ?_
                have B1107 : sf_B 0 99 (m1091 14) := T1094.2.2.1 14
                refine rf_R_get pm_M183 T1094 (pc' := 22) (v := .int (m1091 14)) rfl rfl rfl rfl ?_
                have e1108 := (F1095.cell (by decide) (F1077.cell (by decide) (F1067.cell (by decide) e1056)))
                refine rf_R_ist pm_M183 T1094 (pc' := 23) rfl e1108 (by decide) (by decide) rfl ⟨_, rfl, sf_upd (sf_upd (sf_upd b997 (sf_weak B994 (by decide) (by decide)) _) (sf_weak B1051 (by decide) (by decide)) _) (sf_weak B1107 (by decide) (by decide)) _⟩ rfl (fun h1109 T1110 F1111 e1112 => ?_)
                have F1113 := F1099.trans F1111 (by decide)
                refine pm_R_lo pm_M183 (pc' := 24) rfl rfl rfl ?_
                refine rf_R_get pm_M183 T1110 (pc' := 27) (v := .int (m1091 14)) rfl rfl rfl rfl ?_
                refine pm_R_lo pm_M183 (pc' := 28) rfl rfl rfl ?_
                refine pm_R_icmp pm_M183 (t := 39) (pc' := 31) rfl rfl rfl (fun c1114 => ?_) (fun c1114 => ?_)
                · have B1115 : sf_B 6 99 (m1091 14) := sf_ltR c1114 sf_k5 B1107
                  refine pm_R_lo pm_M183 (pc' := 40) rfl rfl rfl ?_
                  refine pm_R_op pm_M183 (pc' := 41) (st' := [.int 2, .ref 41]) rfl rfl rfl ?_
                  refine pm_R_lo pm_M183 (pc' := 42) rfl rfl rfl ?_
                  have B1116 : sf_B 0 600 (m1091 12) := T1110.2.2.1 12
                  refine rf_R_get pm_M183 T1110 (pc' := 45) (v := .int (m1091 12)) rfl rfl rfl rfl ?_
                  refine pm_R_cv pm_M183 (pc' := 48) (a := 41) (ra := [.int (m1091 12), .int 2]) (rest := []) (ls' := [.ref 41, .int 2, .int (m1091 12)]) rfl rfl (Or.inl rfl) pm_M182 T1110.2.1 rfl (by decide) (Nat.lt_of_lt_of_le (by decide) T1110.1) rfl rfl (Nat.le_of_ble_eq_true rfl) rfl rfl ?_
                  refine rf_c182 (d := d + 1) T1110 (sf_weak sf_k2 (by decide) (by decide)) B1116 (fun m1119 w1120 h1121 T1122 F1123 W1124 B1125 => ?_)
                  have F1126 := F1113.trans F1123 (by decide)
                  have B1127 : sf_B 0 0 (m1119 22) := by rw [W1124 22 (by decide)]; exact B1102
                  have B1128 : sf_B 3 3 (m1119 13) := by rw [W1124 13 (by decide)]; exact B1106
                  have B1129 : sf_B 6 99 (m1119 14) := by rw [W1124 14 (by decide)]; exact B1115
                  have W1130 : rf_W [10, 12, 13, 14, 16, 17, 18, 22] m m1119 := W1103.trans W1124 (by decide)
                  show pm_R _ 183 48 [.ref 41, .int 2, .int 5, .int (-1)] [] _ _
                  refine pm_R_lo pm_M183 (pc' := 49) rfl rfl rfl ?_
                  refine pm_R_op pm_M183 (pc' := 50) (st' := [.int 0, .ref 41]) rfl rfl rfl ?_
                  refine rf_R_put pm_M183 T1122 (pc' := 53) rfl rfl rfl (by decide) rfl rfl (sf_weak sf_k0 (by decide) (by decide)) rfl rfl (fun h1131 m1134 em1135 T1132 F1133 => ?_)
                  have F1136 := F1126.trans F1133 (by decide)
                  have B1137 : sf_B 3 3 (m1134 13) := by rw [em1135]; exact B1128
                  have B1138 : sf_B 6 99 (m1134 14) := by rw [em1135]; exact B1129
                  have B1139 : sf_B 1 4 (m1134 17) := by rw [em1135]; exact B1125
                  have ek1140 : (m1134 17).toInt = ((m1119 17)).toInt := by rw [em1135]; rfl
                  have B1141 : sf_B 0 0 (m1134 22) := by rw [em1135]; exact sf_k0
                  have W1143 : rf_W [10, 12, 13, 14, 16, 17, 18, 22] m m1134 := by rw [em1135]; exact W1130.put (by decide)
                  refine pm_R_lo pm_M183 (pc' := 54) rfl rfl rfl ?_
                  refine pm_R_cv pm_M183 (pc' := 57) (a := 41) (ra := []) (rest := []) (ls' := [.ref 41, pm_no, pm_no]) rfl rfl (Or.inl rfl) pm_M179 T1132.2.1 rfl (by decide) (Nat.lt_of_lt_of_le (by decide) T1132.1) rfl rfl (Nat.le_of_ble_eq_true rfl) rfl rfl ?_
                  have B1144 : sf_B 0 600 (m1134 10) := T1132.2.2.1 10
                  refine rf_c179 (d := d + 0) T1132  (fun m1147 w1148 h1149 T1150 F1151 W1152 X1153 X1154 => ?_)
                  have F1155 := F1136.trans F1151 (by decide)
                  have B1156 : sf_B 1 4 (m1147 17) := by rw [W1152 17 (by decide)]; exact B1139
                  have ek1157 : (m1147 17).toInt = ((m1119 17)).toInt := by rw [W1152 17 (by decide)]; exact ek1140
                  have B1158 : sf_B 0 0 (m1147 22) := by rw [W1152 22 (by decide)]; exact B1141
                  have W1159 : rf_W [10, 12, 13, 14, 16, 17, 18, 22] m m1147 := W1143.trans W1152 (by decide)
                  show pm_R _ 183 57 [.ref 41, .int 2, .int 5, .int (-1)] [] _ _
                  refine pm_R_op pm_M183 (pc' := 58) (st' := [.int 1]) rfl rfl rfl ?_
                  refine pm_R_ret pm_M183 (r := some (.int 1)) rfl rfl ?_
                  show pm_R _ 187 112 [.ref 41, .long a0, pm_no, .int a1] [.int 1] _ _
                  refine pm_R_br pm_M187 (pc' := 115) (st' := []) (pm_q187_1 (Nat.le_of_ble_eq_true rfl)) rfl ?_
                  refine pm_R_lo pm_M187 (pc' := 116) (pm_q187_1 (Nat.le_of_ble_eq_true rfl)) rfl rfl ?_
                  refine pm_R_cv pm_M187 (pc' := 119) (a := 41) (ra := []) (rest := []) (ls' := [.ref 41, pm_no, pm_no]) (pm_q187_1 (Nat.le_of_ble_eq_true rfl)) rfl (Or.inl rfl) pm_M188 T1150.2.1 rfl (by decide) (Nat.lt_of_lt_of_le (by decide) T1150.1) rfl rfl (Nat.le_of_ble_eq_true rfl) rfl rfl ?_
                  have e1160 := (F1151.cell (by decide) (F1133.cell (by decide) (F1123.cell (by decide) e1112)))
                  refine rf_c188 (d := d + 0) T1150  (fun m1163 w1164 h1165 T1166 F1167 W1168 X1169 => ?_) (fun m1172 w1173 h1174 T1175 F1176 W1177 X1178 X1179 => ?_)
                  · have F1180 := F1155.trans F1167 (by decide)
                    have B1181 : sf_B 1 4 (m1163 17) := by rw [W1168 17 (by decide)]; exact B1156
                    have ek1182 : (m1163 17).toInt = ((m1119 17)).toInt := by rw [W1168 17 (by decide)]; exact ek1157
                    have B1183 : sf_B 0 0 (m1163 22) := by rw [W1168 22 (by decide)]; exact B1158
                    have W1184 : rf_W [10, 12, 13, 14, 16, 17, 18, 22] m m1163 := W1159.trans W1168 (by decide)
                    show pm_R _ 187 119 [.ref 41, .long a0, pm_no, .int a1] [.int 0] _ _
                    refine pm_R_br pm_M187 (pc' := 122) (st' := []) (pm_q187_1 (Nat.le_of_ble_eq_true rfl)) rfl ?_
                    refine pm_R_op pm_M187 (pc' := 123) (st' := [.int 0]) (pm_q187_1 (Nat.le_of_ble_eq_true rfl)) rfl rfl ?_
                    have B1185 : sf_B 0 600 (m1163 10) := T1166.2.2.1 10
                    exact pm_R_ret pm_M187 (r := some (.int 0)) (pm_q187_1 (Nat.le_of_ble_eq_true rfl)) rfl (K0 m1163 w1164 h1165 T1166 F1180 W1184 (sf_aux77 _ _ _ _ _ _ _ _ _ X982 X1041 X1097 X1153 X1169))
                  · have F1186 := F1155.trans F1176 (by decide)
                    have B1187 : sf_B 1 4 (m1172 17) := by rw [W1177 17 (by decide)]; exact B1156
                    have ek1188 : (m1172 17).toInt = ((m1119 17)).toInt := by rw [W1177 17 (by decide)]; exact ek1157
                    have B1189 : sf_B 0 0 (m1172 22) := by rw [W1177 22 (by decide)]; exact B1158
                    have W1190 : rf_W [10, 12, 13, 14, 16, 17, 18, 22] m m1172 := W1159.trans W1177 (by decide)
                    show pm_R _ 187 119 [.ref 41, .long a0, pm_no, .int a1] [.int 1] _ _
                    obtain ⟨v1191, B1192, e1193⟩ := X1178 _ e1160
                    refine pm_R_br pm_M187 (pc' := 124) (st' := []) (pm_q187_1 (Nat.le_of_ble_eq_true rfl)) rfl ?_
                    refine pm_R_lo pm_M187 (pc' := 125) (pm_q187_1 (Nat.le_of_ble_eq_true rfl)) rfl rfl ?_
                    refine pm_R_op pm_M187 (pc' := 126) (st' := [.int 0, .ref 41]) (pm_q187_1 (Nat.le_of_ble_eq_true rfl)) rfl rfl ?_
                    refine pm_R_op pm_M187 (pc' := 127) (st' := [.int 2, .int 0, .ref 41]) (pm_q187_1 (Nat.le_of_ble_eq_true rfl)) rfl rfl ?_
                    refine pm_R_op pm_M187 (pc' := 128) (st' := [.int 4, .int 2, .int 0, .ref 41]) (pm_q187_1 (Nat.le_of_ble_eq_true rfl)) rfl rfl ?_
                    refine pm_R_op pm_M187 (pc' := 130) (st' := [.int 10, .int 4, .int 2, .int 0, .ref 41]) (pm_q187_1 (Nat.le_of_ble_eq_true rfl)) rfl rfl ?_
                    refine pm_R_op pm_M187 (pc' := 131) (st' := [.int 0, .int 10, .int 4, .int 2, .int 0, .ref 41]) (pm_q187_1 (Nat.le_of_ble_eq_true rfl)) rfl rfl ?_
                    refine pm_R_cv pm_M187 (pc' := 134) (a := 41) (ra := [.int 0, .int 10, .int 4, .int 2, .int 0]) (rest := []) (ls' := [.ref 41, .int 0, .int 2, .int 4, .int 10, .int 0, pm_no, pm_no]) (pm_q187_1 (Nat.le_of_ble_eq_true rfl)) rfl (Or.inl rfl) pm_M185 T1175.2.1 rfl (by decide) (Nat.lt_of_lt_of_le (by decide) T1175.1) rfl rfl (Nat.le_of_ble_eq_true rfl) rfl rfl ?_
                    refine pm_R_lo pm_M185 (pc' := 1) rfl rfl rfl ?_
                    refine rf_R_get pm_M185 T1175 (pc' := 4) (v := .ref 51) rfl rfl rfl rfl ?_
                    refine pm_R_lo pm_M185 (pc' := 5) rfl rfl rfl ?_
                    have e1194 := (F1176.cell (by decide) (F1151.cell (by decide) (F1133.cell (by decide) (F1123.cell (by decide) (F1111.cell (by decide) (F1095.cell (by decide) (F1077.cell (by decide) (F1067.cell (by decide) (F1055.cell (by decide) (F1039.cell (by decide) (F1021.cell (by decide) (F1012.cell (by decide) (F1000.cell (by decide) (F980.cell (by decide) e3))))))))))))))
                    refine pm_R_iald pm_M185 (pc' := 6) (v := (f2 0)) rfl e1194 (Nat.lt_of_lt_of_le (by decide) T1175.1) rfl rfl rfl ?_
                    refine pm_R_lo pm_M185 (pc' := 8) (ls' := [.ref 41, .int 0, .int 2, .int 4, .int 10, .int 0, .int (f2 0), pm_no]) (st' := []) rfl rfl rfl ?_
                    refine pm_R_lo pm_M185 (pc' := 10) rfl rfl rfl ?_
                    refine pm_R_lo pm_M185 (pc' := 12) rfl rfl rfl ?_
                    refine pm_R_icmp pm_M185 (t := 16) (pc' := 15) rfl rfl rfl (fun c1197 => ?_) (fun c1197 => absurd (Classical.not_not.mp c1197) (sf_neq2 B968 sf_k10 (by decide)))
                    skip
                    refine pm_R_op pm_M185 (pc' := 17) (st' := [.int 0]) rfl rfl rfl ?_
                    refine pm_R_lo pm_M185 (pc' := 19) (ls' := [.ref 41, .int 0, .int 2, .int 4, .int 10, .int 0, .int (f2 0), .int 0]) (st' := []) rfl rfl rfl ?_
                    refine pm_R_lo pm_M185 (pc' := 21) rfl rfl rfl ?_
                    refine pm_R_lo pm_M185 (pc' := 22) rfl rfl rfl ?_
                    refine pm_R_br pm_M185 (pc' := 25) (st' := []) rfl rfl ?_
                    refine pm_R_lo pm_M185 (pc' := 26) rfl rfl rfl ?_
                    refine rf_R_get pm_M185 T1175 (pc' := 29) (v := .ref 51) rfl rfl rfl rfl ?_
                    refine pm_R_lo pm_M185 (pc' := 30) rfl rfl rfl ?_
                    refine pm_R_lo pm_M185 (pc' := 31) rfl rfl rfl ?_
                    refine pm_R_lo pm_M185 (pc' := 33) rfl rfl rfl ?_
                    refine sf_R_imul pm_M185 (pc' := 34) rfl rfl sf_k4 B968 (by decide) (by decide) (by decide) (fun z1198 e1199 B1200 => ?_)
                    refine sf_R_iadd pm_M185 (pc' := 35) rfl rfl sf_k2 B1200 (by decide) (by decide) (fun z1201 e1202 B1203 => ?_)
                    refine pm_R_lo pm_M185 (pc' := 37) rfl rfl rfl ?_
                    refine sf_R_iadd pm_M185 (pc' := 38) rfl rfl B1203 sf_k0 (by decide) (by decide) (fun z1204 e1205 B1206 => ?_)
                    refine pm_R_lo pm_M185 (pc' := 39) rfl rfl rfl ?_
                    refine rf_R_get pm_M185 T1175 (pc' := 42) (v := .ref 52) rfl rfl rfl rfl ?_
                    refine pm_R_lo pm_M185 (pc' := 44) rfl rfl rfl ?_
                    refine pm_R_lo pm_M185 (pc' := 46) rfl rfl rfl ?_
                    refine pm_R_op pm_M185 (pc' := 47) (st' := [.int 0, .ref 52, .int z1204, .ref 51]) rfl rfl rfl ?_
                    refine pm_R_iald pm_M185 (pc' := 48) (v := (m976 14)) rfl e1193 (Nat.lt_of_lt_of_le (by decide) T1175.1) rfl (Eq.trans (show (upd (upd (upd (upd f995 (Int32.toNatClampNeg 0) (m976 14)) (Int32.toNatClampNeg 1) (m1035 14)) (Int32.toNatClampNeg 2) (m1091 14)) (Int32.toNatClampNeg 3) v1191) (Int32.toNatClampNeg 0) = (upd (upd (upd f995 (Int32.toNatClampNeg 0) (m976 14)) (Int32.toNatClampNeg 1) (m1035 14)) (Int32.toNatClampNeg 2) (m1091 14)) (Int32.toNatClampNeg 0) from rfl) (Eq.trans (show (upd (upd (upd f995 (Int32.toNatClampNeg 0) (m976 14)) (Int32.toNatClampNeg 1) (m1035 14)) (Int32.toNatClampNeg 2) (m1091 14)) (Int32.toNatClampNeg 0) = (upd (upd f995 (Int32.toNatClampNeg 0) (m976 14)) (Int32.toNatClampNeg 1) (m1035 14)) (Int32.toNatClampNeg 0) from rfl) (Eq.trans (show (upd (upd f995 (Int32.toNatClampNeg 0) (m976 14)) (Int32.toNatClampNeg 1) (m1035 14)) (Int32.toNatClampNeg 0) = (upd f995 (Int32.toNatClampNeg 0) (m976 14)) (Int32.toNatClampNeg 0) from rfl) rfl))) rfl ?_
                    refine rf_R_ist pm_M185 T1175 (pc' := 49) rfl e1194 (by decide) (by decide) (sf_in B1206 (by decide) (by decide)) ⟨_, rfl⟩ rfl (fun h1209 T1210 F1211 e1212 => ?_)
                    have F1213 := F1186.trans F1211 (by decide)
                    have ct1214 : rf_ct 0 (upd f2 (Int32.toNatClampNeg z1204) (m976 14)) := ⟨(sf_eqL (Eq.trans (sf_upd_ne (j := Int32.toNatClampNeg 0) B1206 (by decide) (by decide)) rfl) (sf_weak B968 (by decide) (by decide))), (sf_eqL (Eq.trans (sf_upd_ne (j := Int32.toNatClampNeg 1) B1206 (by decide) (by decide)) rfl) ct4.2)⟩
                    have bd1215 : (m1172 17).toInt = 0 → rf_bd 0 (upd f2 (Int32.toNatClampNeg z1204) (m976 14)) := fun z => (sf_pos B1187 (by decide) z)
                    refine pm_R_lo pm_M185 (pc' := 52) (ls' := [.ref 41, .int 0, .int 2, .int 4, .int 10, .int 0, .int (f2 0), .int 1]) (st' := []) rfl rfl rfl ?_
                    refine pm_R_br pm_M185 (pc' := 19) rfl rfl ?_
                    refine pm_R_lo pm_M185 (pc' := 21) rfl rfl rfl ?_
                    refine pm_R_lo pm_M185 (pc' := 22) rfl rfl rfl ?_
                    refine pm_R_br pm_M185 (pc' := 25) (st' := []) rfl rfl ?_
                    refine pm_R_lo pm_M185 (pc' := 26) rfl rfl rfl ?_
                    refine rf_R_get pm_M185 T1210 (pc' := 29) (v := .ref 51) rfl rfl rfl rfl ?_
                    refine pm_R_lo pm_M185 (pc' := 30) rfl rfl rfl ?_
                    refine pm_R_lo pm_M185 (pc' := 31) rfl rfl rfl ?_
                    refine pm_R_lo pm_M185 (pc' := 33) rfl rfl rfl ?_
                    refine sf_R_imulV pm_M185 (pc' := 34) rfl rfl sf_k4 B968 (by decide) (by decide) (by decide) e1199 ?_
                    refine sf_R_iaddV pm_M185 (pc' := 35) rfl rfl sf_k2 B1200 (by decide) (by decide) e1202 ?_
                    refine pm_R_lo pm_M185 (pc' := 37) rfl rfl rfl ?_
                    refine sf_R_iadd pm_M185 (pc' := 38) rfl rfl B1203 sf_k1 (by decide) (by decide) (fun z1216 e1217 B1218 => ?_)
                    refine pm_R_lo pm_M185 (pc' := 39) rfl rfl rfl ?_
                    refine rf_R_get pm_M185 T1210 (pc' := 42) (v := .ref 52) rfl rfl rfl rfl ?_
                    refine pm_R_lo pm_M185 (pc' := 44) rfl rfl rfl ?_
                    refine pm_R_lo pm_M185 (pc' := 46) rfl rfl rfl ?_
                    refine pm_R_op pm_M185 (pc' := 47) (st' := [.int 1, .ref 52, .int z1216, .ref 51]) rfl rfl rfl ?_
                    have e1219 := (F1211.cell (by decide) e1193)
                    refine pm_R_iald pm_M185 (pc' := 48) (v := (m1035 14)) rfl e1219 (Nat.lt_of_lt_of_le (by decide) T1210.1) rfl (Eq.trans (show (upd (upd (upd (upd f995 (Int32.toNatClampNeg 0) (m976 14)) (Int32.toNatClampNeg 1) (m1035 14)) (Int32.toNatClampNeg 2) (m1091 14)) (Int32.toNatClampNeg 3) v1191) (Int32.toNatClampNeg 1) = (upd (upd (upd f995 (Int32.toNatClampNeg 0) (m976 14)) (Int32.toNatClampNeg 1) (m1035 14)) (Int32.toNatClampNeg 2) (m1091 14)) (Int32.toNatClampNeg 1) from rfl) (Eq.trans (show (upd (upd (upd f995 (Int32.toNatClampNeg 0) (m976 14)) (Int32.toNatClampNeg 1) (m1035 14)) (Int32.toNatClampNeg 2) (m1091 14)) (Int32.toNatClampNeg 1) = (upd (upd f995 (Int32.toNatClampNeg 0) (m976 14)) (Int32.toNatClampNeg 1) (m1035 14)) (Int32.toNatClampNeg 1) from rfl) rfl)) rfl ?_
                    refine rf_R_ist pm_M185 T1210 (pc' := 49) rfl e1212 (by decide) (by decide) (sf_in B1218 (by decide) (by decide)) ⟨_, rfl⟩ rfl (fun h1222 T1223 F1224 e1225 => ?_)
                    have F1226 := F1213.trans F1224 (by decide)
                    have ct1227 : rf_ct 0 (upd (upd f2 (Int32.toNatClampNeg z1204) (m976 14)) (Int32.toNatClampNeg z1216) (m1035 14)) := ⟨(sf_eqL (Eq.trans (sf_upd_ne (j := Int32.toNatClampNeg 0) B1218 (by decide) (by decide)) (Eq.trans (sf_upd_ne (j := Int32.toNatClampNeg 0) B1206 (by decide) (by decide)) rfl)) (sf_weak B968 (by decide) (by decide))), (sf_eqL (Eq.trans (sf_upd_ne (j := Int32.toNatClampNeg 1) B1218 (by decide) (by decide)) (Eq.trans (sf_upd_ne (j := Int32.toNatClampNeg 1) B1206 (by decide) (by decide)) rfl)) ct4.2)⟩
                    have bd1228 : (m1172 17).toInt = 0 → rf_bd 0 (upd (upd f2 (Int32.toNatClampNeg z1204) (m976 14)) (Int32.toNatClampNeg z1216) (m1035 14)) := fun z => (sf_pos B1187 (by decide) z)
                    refine pm_R_lo pm_M185 (pc' := 52) (ls' := [.ref 41, .int 0, .int 2, .int 4, .int 10, .int 0, .int (f2 0), .int 2]) (st' := []) rfl rfl rfl ?_
                    refine pm_R_br pm_M185 (pc' := 19) rfl rfl ?_
                    refine pm_R_lo pm_M185 (pc' := 21) rfl rfl rfl ?_
                    refine pm_R_lo pm_M185 (pc' := 22) rfl rfl rfl ?_
                    refine pm_R_br pm_M185 (pc' := 25) (st' := []) rfl rfl ?_
                    refine pm_R_lo pm_M185 (pc' := 26) rfl rfl rfl ?_
                    refine rf_R_get pm_M185 T1223 (pc' := 29) (v := .ref 51) rfl rfl rfl rfl ?_
                    refine pm_R_lo pm_M185 (pc' := 30) rfl rfl rfl ?_
                    refine pm_R_lo pm_M185 (pc' := 31) rfl rfl rfl ?_
                    refine pm_R_lo pm_M185 (pc' := 33) rfl rfl rfl ?_
                    refine sf_R_imulV pm_M185 (pc' := 34) rfl rfl sf_k4 B968 (by decide) (by decide) (by decide) e1199 ?_
                    refine sf_R_iaddV pm_M185 (pc' := 35) rfl rfl sf_k2 B1200 (by decide) (by decide) e1202 ?_
                    refine pm_R_lo pm_M185 (pc' := 37) rfl rfl rfl ?_
                    refine sf_R_iadd pm_M185 (pc' := 38) rfl rfl B1203 sf_k2 (by decide) (by decide) (fun z1229 e1230 B1231 => ?_)
                    refine pm_R_lo pm_M185 (pc' := 39) rfl rfl rfl ?_
                    refine rf_R_get pm_M185 T1223 (pc' := 42) (v := .ref 52) rfl rfl rfl rfl ?_
                    refine pm_R_lo pm_M185 (pc' := 44) rfl rfl rfl ?_
                    refine pm_R_lo pm_M185 (pc' := 46) rfl rfl rfl ?_
                    refine pm_R_op pm_M185 (pc' := 47) (st' := [.int 2, .ref 52, .int z1229, .ref 51]) rfl rfl rfl ?_
                    have e1232 := (F1224.cell (by decide) e1219)
                    refine pm_R_iald pm_M185 (pc' := 48) (v := (m1091 14)) rfl e1232 (Nat.lt_of_lt_of_le (by decide) T1223.1) rfl (Eq.trans (show (upd (upd (upd (upd f995 (Int32.toNatClampNeg 0) (m976 14)) (Int32.toNatClampNeg 1) (m1035 14)) (Int32.toNatClampNeg 2) (m1091 14)) (Int32.toNatClampNeg 3) v1191) (Int32.toNatClampNeg 2) = (upd (upd (upd f995 (Int32.toNatClampNeg 0) (m976 14)) (Int32.toNatClampNeg 1) (m1035 14)) (Int32.toNatClampNeg 2) (m1091 14)) (Int32.toNatClampNeg 2) from rfl) rfl) rfl ?_
                    refine rf_R_ist pm_M185 T1223 (pc' := 49) rfl e1225 (by decide) (by decide) (sf_in B1231 (by decide) (by decide)) ⟨_, rfl⟩ rfl (fun h1235 T1236 F1237 e1238 => ?_)
                    have F1239 := F1226.trans F1237 (by decide)
                    have ct1240 : rf_ct 0 (upd (upd (upd f2 (Int32.toNatClampNeg z1204) (m976 14)) (Int32.toNatClampNeg z1216) (m1035 14)) (Int32.toNatClampNeg z1229) (m1091 14)) := ⟨(sf_eqL (Eq.trans (sf_upd_ne (j := Int32.toNatClampNeg 0) B1231 (by decide) (by decide)) (Eq.trans (sf_upd_ne (j := Int32.toNatClampNeg 0) B1218 (by decide) (by decide)) (Eq.trans (sf_upd_ne (j := Int32.toNatClampNeg 0) B1206 (by decide) (by decide)) rfl))) (sf_weak B968 (by decide) (by decide))), (sf_eqL (Eq.trans (sf_upd_ne (j := Int32.toNatClampNeg 1) B1231 (by decide) (by decide)) (Eq.trans (sf_upd_ne (j := Int32.toNatClampNeg 1) B1218 (by decide) (by decide)) (Eq.trans (sf_upd_ne (j := Int32.toNatClampNeg 1) B1206 (by decide) (by decide)) rfl))) ct4.2)⟩
                    have bd1241 : (m1172 17).toInt = 0 → rf_bd 0 (upd (upd (upd f2 (Int32.toNatClampNeg z1204) (m976 14)) (Int32.toNatClampNeg z1216) (m1035 14)) (Int32.toNatClampNeg z1229) (m1091 14)) := fun z => (sf_pos B1187 (by decide) z)
                    refine pm_R_lo pm_M185 (pc' := 52) (ls' := [.ref 41, .int 0, .int 2, .int 4, .int 10, .int 0, .int (f2 0), .int 3]) (st' := []) rfl rfl rfl ?_
                    refine pm_R_br pm_M185 (pc' := 19) rfl rfl ?_
                    refine pm_R_lo pm_M185 (pc' := 21) rfl rfl rfl ?_
                    refine pm_R_lo pm_M185 (pc' := 22) rfl rfl rfl ?_
                    refine pm_R_br pm_M185 (pc' := 25) (st' := []) rfl rfl ?_
                    refine pm_R_lo pm_M185 (pc' := 26) rfl rfl rfl ?_
                    refine rf_R_get pm_M185 T1236 (pc' := 29) (v := .ref 51) rfl rfl rfl rfl ?_
                    refine pm_R_lo pm_M185 (pc' := 30) rfl rfl rfl ?_
                    refine pm_R_lo pm_M185 (pc' := 31) rfl rfl rfl ?_
                    refine pm_R_lo pm_M185 (pc' := 33) rfl rfl rfl ?_
                    refine sf_R_imulV pm_M185 (pc' := 34) rfl rfl sf_k4 B968 (by decide) (by decide) (by decide) e1199 ?_
                    refine sf_R_iaddV pm_M185 (pc' := 35) rfl rfl sf_k2 B1200 (by decide) (by decide) e1202 ?_
                    refine pm_R_lo pm_M185 (pc' := 37) rfl rfl rfl ?_
                    refine sf_R_iadd pm_M185 (pc' := 38) rfl rfl B1203 sf_k3 (by decide) (by decide) (fun z1242 e1243 B1244 => ?_)
                    refine pm_R_lo pm_M185 (pc' := 39) rfl rfl rfl ?_
                    refine rf_R_get pm_M185 T1236 (pc' := 42) (v := .ref 52) rfl rfl rfl rfl ?_
                    refine pm_R_lo pm_M185 (pc' := 44) rfl rfl rfl ?_
                    refine pm_R_lo pm_M185 (pc' := 46) rfl rfl rfl ?_
                    refine pm_R_op pm_M185 (pc' := 47) (st' := [.int 3, .ref 52, .int z1242, .ref 51]) rfl rfl rfl ?_
                    have e1245 := (F1237.cell (by decide) e1232)
                    refine pm_R_iald pm_M185 (pc' := 48) (v := v1191) rfl e1245 (Nat.lt_of_lt_of_le (by decide) T1236.1) rfl rfl rfl ?_
                    refine rf_R_ist pm_M185 T1236 (pc' := 49) rfl e1238 (by decide) (by decide) (sf_in B1244 (by decide) (by decide)) ⟨_, rfl⟩ rfl (fun h1248 T1249 F1250 e1251 => ?_)
                    have F1252 := F1239.trans F1250 (by decide)
                    have ct1253 : rf_ct 0 (upd (upd (upd (upd f2 (Int32.toNatClampNeg z1204) (m976 14)) (Int32.toNatClampNeg z1216) (m1035 14)) (Int32.toNatClampNeg z1229) (m1091 14)) (Int32.toNatClampNeg z1242) v1191) := ⟨(sf_eqL (Eq.trans (sf_upd_ne (j := Int32.toNatClampNeg 0) B1244 (by decide) (by decide)) (Eq.trans (sf_upd_ne (j := Int32.toNatClampNeg 0) B1231 (by decide) (by decide)) (Eq.trans (sf_upd_ne (j := Int32.toNatClampNeg 0) B1218 (by decide) (by decide)) (Eq.trans (sf_upd_ne (j := Int32.toNatClampNeg 0) B1206 (by decide) (by decide)) rfl)))) (sf_weak B968 (by decide) (by decide))), (sf_eqL (Eq.trans (sf_upd_ne (j := Int32.toNatClampNeg 1) B1244 (by decide) (by decide)) (Eq.trans (sf_upd_ne (j := Int32.toNatClampNeg 1) B1231 (by decide) (by decide)) (Eq.trans (sf_upd_ne (j := Int32.toNatClampNeg 1) B1218 (by decide) (by decide)) (Eq.trans (sf_upd_ne (j := Int32.toNatClampNeg 1) B1206 (by decide) (by decide)) rfl)))) ct4.2)⟩
                    have bd1254 : (m1172 17).toInt = 0 → rf_bd 0 (upd (upd (upd (upd f2 (Int32.toNatClampNeg z1204) (m976 14)) (Int32.toNatClampNeg z1216) (m1035 14)) (Int32.toNatClampNeg z1229) (m1091 14)) (Int32.toNatClampNeg z1242) v1191) := fun z => (sf_pos B1187 (by decide) z)
                    refine pm_R_lo pm_M185 (pc' := 52) (ls' := [.ref 41, .int 0, .int 2, .int 4, .int 10, .int 0, .int (f2 0), .int 4]) (st' := []) rfl rfl rfl ?_
                    refine pm_R_br pm_M185 (pc' := 19) rfl rfl ?_
                    refine pm_R_lo pm_M185 (pc' := 21) rfl rfl rfl ?_
                    refine pm_R_lo pm_M185 (pc' := 22) rfl rfl rfl ?_
                    refine pm_R_br pm_M185 (pc' := 55) (st' := []) rfl rfl ?_
                    refine pm_R_lo pm_M185 (pc' := 56) rfl rfl rfl ?_
                    refine rf_R_get pm_M185 T1249 (pc' := 59) (v := .ref 51) rfl rfl rfl rfl ?_
                    refine pm_R_lo pm_M185 (pc' := 60) rfl rfl rfl ?_
                    refine pm_R_op pm_M185 (pc' := 61) (st' := [.int 0, .ref 51, .int 0, .ref 51]) rfl rfl rfl ?_
                    refine pm_R_iald pm_M185 (pc' := 62) (v := (f2 0)) rfl e1251 (Nat.lt_of_lt_of_le (by decide) T1249.1) rfl (Eq.trans (sf_upd_ne (j := Int32.toNatClampNeg 0) B1244 (by decide) (by decide)) (Eq.trans (sf_upd_ne (j := Int32.toNatClampNeg 0) B1231 (by decide) (by decide)) (Eq.trans (sf_upd_ne (j := Int32.toNatClampNeg 0) B1218 (by decide) (by decide)) (Eq.trans (sf_upd_ne (j := Int32.toNatClampNeg 0) B1206 (by decide) (by decide)) rfl)))) rfl ?_
                    refine pm_R_op pm_M185 (pc' := 63) (st' := [.int 1, .int (f2 0), .int 0, .ref 51]) rfl rfl rfl ?_
                    refine sf_R_iadd pm_M185 (pc' := 64) rfl rfl B968 sf_k1 (by decide) (by decide) (fun z1257 e1258 B1259 => ?_)
                    refine rf_R_ist pm_M185 T1249 (pc' := 65) rfl e1251 (by decide) (by decide) rfl ⟨_, rfl⟩ rfl (fun h1260 T1261 F1262 e1263 => ?_)
                    have F1264 := F1252.trans F1262 (by decide)
                    have ct1265 : rf_ct 0 (upd (upd (upd (upd (upd f2 (Int32.toNatClampNeg z1204) (m976 14)) (Int32.toNatClampNeg z1216) (m1035 14)) (Int32.toNatClampNeg z1229) (m1091 14)) (Int32.toNatClampNeg z1242) v1191) (Int32.toNatClampNeg 0) z1257) := ⟨(sf_eqL rfl (sf_weak B1259 (by decide) (by decide))), (sf_eqL (Eq.trans (show (upd (upd (upd (upd (upd f2 (Int32.toNatClampNeg z1204) (m976 14)) (Int32.toNatClampNeg z1216) (m1035 14)) (Int32.toNatClampNeg z1229) (m1091 14)) (Int32.toNatClampNeg z1242) v1191) (Int32.toNatClampNeg 0) z1257) (Int32.toNatClampNeg 1) = (upd (upd (upd (upd f2 (Int32.toNatClampNeg z1204) (m976 14)) (Int32.toNatClampNeg z1216) (m1035 14)) (Int32.toNatClampNeg z1229) (m1091 14)) (Int32.toNatClampNeg z1242) v1191) (Int32.toNatClampNeg 1) from rfl) (Eq.trans (sf_upd_ne (j := Int32.toNatClampNeg 1) B1244 (by decide) (by decide)) (Eq.trans (sf_upd_ne (j := Int32.toNatClampNeg 1) B1231 (by decide) (by decide)) (Eq.trans (sf_upd_ne (j := Int32.toNatClampNeg 1) B1218 (by decide) (by decide)) (Eq.trans (sf_upd_ne (j := Int32.toNatClampNeg 1) B1206 (by decide) (by decide)) rfl))))) ct4.2)⟩
                    have bd1266 : (m1172 17).toInt = 0 → rf_bd 0 (upd (upd (upd (upd (upd f2 (Int32.toNatClampNeg z1204) (m976 14)) (Int32.toNatClampNeg z1216) (m1035 14)) (Int32.toNatClampNeg z1229) (m1091 14)) (Int32.toNatClampNeg z1242) v1191) (Int32.toNatClampNeg 0) z1257) := fun z => (sf_pos B1187 (by decide) z)
                    refine pm_R_ret pm_M185 (r := none) rfl rfl ?_
                    show pm_R _ 187 134 [.ref 41, .long a0, pm_no, .int a1] [] _ _
                    refine pm_R_op pm_M187 (pc' := 135) (st' := [.int 1]) (pm_q187_1 (Nat.le_of_ble_eq_true rfl)) rfl rfl ?_
                    have B1267 : sf_B 0 600 (m1172 10) := T1261.2.2.1 10
                    exact pm_R_ret pm_M187 (r := some (.int 1)) (pm_q187_1 (Nat.le_of_ble_eq_true rfl)) rfl (K1 m1172 w1173 h1260 T1261 F1264 W1190 (⟨(upd (upd (upd (upd (upd f2 (Int32.toNatClampNeg z1204) (m976 14)) (Int32.toNatClampNeg z1216) (m1035 14)) (Int32.toNatClampNeg z1229) (m1091 14)) (Int32.toNatClampNeg z1242) v1191) (Int32.toNatClampNeg 0) z1257), e1263, ct1265, fun z => (sf_pos B1187 (by decide) z)⟩) (sf_aux77 _ _ _ _ _ _ _ _ _ X982 X1041 X1097 X1153 X1179))
                · have B1268 : sf_B 0 5 (m1091 14) := sf_leL (Int32.not_lt.mp c1114) B1107 sf_k5
                  refine pm_R_lo pm_M183 (pc' := 32) rfl rfl rfl ?_
                  refine rf_R_get pm_M183 T1110 (pc' := 35) (v := .int (m1091 14)) rfl rfl rfl rfl ?_
                  refine pm_R_lo pm_M183 (pc' := 36) rfl rfl rfl ?_
                  refine pm_R_icmp pm_M183 (t := 53) (pc' := 39) rfl rfl rfl (fun c1269 => ?_) (fun c1269 => absurd (Classical.not_not.mp c1269) (sf_neq1 B1268 sf_kn1 (by decide)))
                  skip
                  refine pm_R_lo pm_M183 (pc' := 54) rfl rfl rfl ?_
                  refine pm_R_cv pm_M183 (pc' := 57) (a := 41) (ra := []) (rest := []) (ls' := [.ref 41, pm_no, pm_no]) rfl rfl (Or.inl rfl) pm_M179 T1110.2.1 rfl (by decide) (Nat.lt_of_lt_of_le (by decide) T1110.1) rfl rfl (Nat.le_of_ble_eq_true rfl) rfl rfl ?_
                  have B1270 : sf_B 0 600 (m1091 10) := T1110.2.2.1 10
                  refine rf_c179 (d := d + 0) T1110  (fun m1273 w1274 h1275 T1276 F1277 W1278 X1279 X1280 => ?_)
                  have F1281 := F1113.trans F1277 (by decide)
                  have B1282 : sf_B 1 4 (m1273 17) := by rw [W1278 17 (by decide)]; exact B1100
                  have ek1283 : (m1273 17).toInt = ((m1063 17)).toInt := by rw [W1278 17 (by decide)]; exact ek1101
                  have B1284 : sf_B 0 0 (m1273 22) := by rw [W1278 22 (by decide)]; exact B1102
                  have W1285 : rf_W [10, 12, 13, 14, 16, 17, 18, 22] m m1273 := W1103.trans W1278 (by decide)
                  show pm_R _ 183 57 [.ref 41, .int 2, .int 5, .int (-1)] [] _ _
                  refine pm_R_op pm_M183 (pc' := 58) (st' := [.int 1]) rfl rfl rfl ?_
                  refine pm_R_ret pm_M183 (r := some (.int 1)) rfl rfl ?_
                  show pm_R _ 187 112 [.ref 41, .long a0, pm_no, .int a1] [.int 1] _ _
                  refine pm_R_br pm_M187 (pc' := 115) (st' := []) (pm_q187_1 (Nat.le_of_ble_eq_true rfl)) rfl ?_
                  refine pm_R_lo pm_M187 (pc' := 116) (pm_q187_1 (Nat.le_of_ble_eq_true rfl)) rfl rfl ?_
                  refine pm_R_cv pm_M187 (pc' := 119) (a := 41) (ra := []) (rest := []) (ls' := [.ref 41, pm_no, pm_no]) (pm_q187_1 (Nat.le_of_ble_eq_true rfl)) rfl (Or.inl rfl) pm_M188 T1276.2.1 rfl (by decide) (Nat.lt_of_lt_of_le (by decide) T1276.1) rfl rfl (Nat.le_of_ble_eq_true rfl) rfl rfl ?_
                  have e1286 := (F1277.cell (by decide) e1112)
                  refine rf_c188 (d := d + 0) T1276  (fun m1289 w1290 h1291 T1292 F1293 W1294 X1295 => ?_) (fun m1298 w1299 h1300 T1301 F1302 W1303 X1304 X1305 => ?_)
                  · have F1306 := F1281.trans F1293 (by decide)
                    have B1307 : sf_B 1 4 (m1289 17) := by rw [W1294 17 (by decide)]; exact B1282
                    have ek1308 : (m1289 17).toInt = ((m1063 17)).toInt := by rw [W1294 17 (by decide)]; exact ek1283
                    have B1309 : sf_B 0 0 (m1289 22) := by rw [W1294 22 (by decide)]; exact B1284
                    have W1310 : rf_W [10, 12, 13, 14, 16, 17, 18, 22] m m1289 := W1285.trans W1294 (by decide)
                    show pm_R _ 187 119 [.ref 41, .long a0, pm_no, .int a1] [.int 0] _ _
                    refine pm_R_br pm_M187 (pc' := 122) (st' := []) (pm_q187_1 (Nat.le_of_ble_eq_true rfl)) rfl ?_
                    refine pm_R_op pm_M187 (pc' := 123) (st' := [.int 0]) (pm_q187_1 (Nat.le_of_ble_eq_true rfl)) rfl rfl ?_
                    have B1311 : sf_B 0 600 (m1289 10) := T1292.2.2.1 10
                    exact pm_R_ret pm_M187 (r := some (.int 0)) (pm_q187_1 (Nat.le_of_ble_eq_true rfl)) rfl (K0 m1289 w1290 h1291 T1292 F1306 W1310 (sf_aux78 _ _ _ _ _ _ _ _ X982 X1041 X1097 X1279 X1295))
                  · have F1312 := F1281.trans F1302 (by decide)
                    have B1313 : sf_B 1 4 (m1298 17) := by rw [W1303 17 (by decide)]; exact B1282
                    have ek1314 : (m1298 17).toInt = ((m1063 17)).toInt := by rw [W1303 17 (by decide)]; exact ek1283
                    have B1315 : sf_B 0 0 (m1298 22) := by rw [W1303 22 (by decide)]; exact B1284
                    have W1316 : rf_W [10, 12, 13, 14, 16, 17, 18, 22] m m1298 := W1285.trans W1303 (by decide)
                    show pm_R _ 187 119 [.ref 41, .long a0, pm_no, .int a1] [.int 1] _ _
                    obtain ⟨v1317, B1318, e1319⟩ := X1304 _ e1286
                    refine pm_R_br pm_M187 (pc' := 124) (st' := []) (pm_q187_1 (Nat.le_of_ble_eq_true rfl)) rfl ?_
                    refine pm_R_lo pm_M187 (pc' := 125) (pm_q187_1 (Nat.le_of_ble_eq_true rfl)) rfl rfl ?_
                    refine pm_R_op pm_M187 (pc' := 126) (st' := [.int 0, .ref 41]) (pm_q187_1 (Nat.le_of_ble_eq_true rfl)) rfl rfl ?_
                    refine pm_R_op pm_M187 (pc' := 127) (st' := [.int 2, .int 0, .ref 41]) (pm_q187_1 (Nat.le_of_ble_eq_true rfl)) rfl rfl ?_
                    refine pm_R_op pm_M187 (pc' := 128) (st' := [.int 4, .int 2, .int 0, .ref 41]) (pm_q187_1 (Nat.le_of_ble_eq_true rfl)) rfl rfl ?_
                    refine pm_R_op pm_M187 (pc' := 130) (st' := [.int 10, .int 4, .int 2, .int 0, .ref 41]) (pm_q187_1 (Nat.le_of_ble_eq_true rfl)) rfl rfl ?_
                    refine pm_R_op pm_M187 (pc' := 131) (st' := [.int 0, .int 10, .int 4, .int 2, .int 0, .ref 41]) (pm_q187_1 (Nat.le_of_ble_eq_true rfl)) rfl rfl ?_
                    refine pm_R_cv pm_M187 (pc' := 134) (a := 41) (ra := [.int 0, .int 10, .int 4, .int 2, .int 0]) (rest := []) (ls' := [.ref 41, .int 0, .int 2, .int 4, .int 10, .int 0, pm_no, pm_no]) (pm_q187_1 (Nat.le_of_ble_eq_true rfl)) rfl (Or.inl rfl) pm_M185 T1301.2.1 rfl (by decide) (Nat.lt_of_lt_of_le (by decide) T1301.1) rfl rfl (Nat.le_of_ble_eq_true rfl) rfl rfl ?_
                    refine pm_R_lo pm_M185 (pc' := 1) rfl rfl rfl ?_
                    refine rf_R_get pm_M185 T1301 (pc' := 4) (v := .ref 51) rfl rfl rfl rfl ?_
                    refine pm_R_lo pm_M185 (pc' := 5) rfl rfl rfl ?_
                    have e1320 := (F1302.cell (by decide) (F1277.cell (by decide) (F1111.cell (by decide) (F1095.cell (by decide) (F1077.cell (by decide) (F1067.cell (by decide) (F1055.cell (by decide) (F1039.cell (by decide) (F1021.cell (by decide) (F1012.cell (by decide) (F1000.cell (by decide) (F980.cell (by decide) e3))))))))))))
                    refine pm_R_iald pm_M185 (pc' := 6) (v := (f2 0)) rfl e1320 (Nat.lt_of_lt_of_le (by decide) T1301.1) rfl rfl rfl ?_
                    refine pm_R_lo pm_M185 (pc' := 8) (ls' := [.ref 41, .int 0, .int 2, .int 4, .int 10, .int 0, .int (f2 0), pm_no]) (st' := []) rfl rfl rfl ?_
                    refine pm_R_lo pm_M185 (pc' := 10) rfl rfl rfl ?_
                    refine pm_R_lo pm_M185 (pc' := 12) rfl rfl rfl ?_
                    refine pm_R_icmp pm_M185 (t := 16) (pc' := 15) rfl rfl rfl (fun c1323 => ?_) (fun c1323 => absurd (Classical.not_not.mp c1323) (sf_neq2 B968 sf_k10 (by decide)))
                    skip
                    refine pm_R_op pm_M185 (pc' := 17) (st' := [.int 0]) rfl rfl rfl ?_
                    refine pm_R_lo pm_M185 (pc' := 19) (ls' := [.ref 41, .int 0, .int 2, .int 4, .int 10, .int 0, .int (f2 0), .int 0]) (st' := []) rfl rfl rfl ?_
                    refine pm_R_lo pm_M185 (pc' := 21) rfl rfl rfl ?_
                    refine pm_R_lo pm_M185 (pc' := 22) rfl rfl rfl ?_
                    refine pm_R_br pm_M185 (pc' := 25) (st' := []) rfl rfl ?_
                    refine pm_R_lo pm_M185 (pc' := 26) rfl rfl rfl ?_
                    refine rf_R_get pm_M185 T1301 (pc' := 29) (v := .ref 51) rfl rfl rfl rfl ?_
                    refine pm_R_lo pm_M185 (pc' := 30) rfl rfl rfl ?_
                    refine pm_R_lo pm_M185 (pc' := 31) rfl rfl rfl ?_
                    refine pm_R_lo pm_M185 (pc' := 33) rfl rfl rfl ?_
                    refine sf_R_imul pm_M185 (pc' := 34) rfl rfl sf_k4 B968 (by decide) (by decide) (by decide) (fun z1324 e1325 B1326 => ?_)
                    refine sf_R_iadd pm_M185 (pc' := 35) rfl rfl sf_k2 B1326 (by decide) (by decide) (fun z1327 e1328 B1329 => ?_)
                    refine pm_R_lo pm_M185 (pc' := 37) rfl rfl rfl ?_
                    refine sf_R_iadd pm_M185 (pc' := 38) rfl rfl B1329 sf_k0 (by decide) (by decide) (fun z1330 e1331 B1332 => ?_)
                    refine pm_R_lo pm_M185 (pc' := 39) rfl rfl rfl ?_
                    refine rf_R_get pm_M185 T1301 (pc' := 42) (v := .ref 52) rfl rfl rfl rfl ?_
                    refine pm_R_lo pm_M185 (pc' := 44) rfl rfl rfl ?_
                    refine pm_R_lo pm_M185 (pc' := 46) rfl rfl rfl ?_
                    refine pm_R_op pm_M185 (pc' := 47) (st' := [.int 0, .ref 52, .int z1330, .ref 51]) rfl rfl rfl ?_
                    refine pm_R_iald pm_M185 (pc' := 48) (v := (m976 14)) rfl e1319 (Nat.lt_of_lt_of_le (by decide) T1301.1) rfl (Eq.trans (show (upd (upd (upd (upd f995 (Int32.toNatClampNeg 0) (m976 14)) (Int32.toNatClampNeg 1) (m1035 14)) (Int32.toNatClampNeg 2) (m1091 14)) (Int32.toNatClampNeg 3) v1317) (Int32.toNatClampNeg 0) = (upd (upd (upd f995 (Int32.toNatClampNeg 0) (m976 14)) (Int32.toNatClampNeg 1) (m1035 14)) (Int32.toNatClampNeg 2) (m1091 14)) (Int32.toNatClampNeg 0) from rfl) (Eq.trans (show (upd (upd (upd f995 (Int32.toNatClampNeg 0) (m976 14)) (Int32.toNatClampNeg 1) (m1035 14)) (Int32.toNatClampNeg 2) (m1091 14)) (Int32.toNatClampNeg 0) = (upd (upd f995 (Int32.toNatClampNeg 0) (m976 14)) (Int32.toNatClampNeg 1) (m1035 14)) (Int32.toNatClampNeg 0) from rfl) (Eq.trans (show (upd (upd f995 (Int32.toNatClampNeg 0) (m976 14)) (Int32.toNatClampNeg 1) (m1035 14)) (Int32.toNatClampNeg 0) = (upd f995 (Int32.toNatClampNeg 0) (m976 14)) (Int32.toNatClampNeg 0) from rfl) rfl))) rfl ?_
                    refine rf_R_ist pm_M185 T1301 (pc' := 49) rfl e1320 (by decide) (by decide) (sf_in B1332 (by decide) (by decide)) ⟨_, rfl⟩ rfl (fun h1335 T1336 F1337 e1338 => ?_)
                    have F1339 := F1312.trans F1337 (by decide)
                    have ct1340 : rf_ct 0 (upd f2 (Int32.toNatClampNeg z1330) (m976 14)) := ⟨(sf_eqL (Eq.trans (sf_upd_ne (j := Int32.toNatClampNeg 0) B1332 (by decide) (by decide)) rfl) (sf_weak B968 (by decide) (by decide))), (sf_eqL (Eq.trans (sf_upd_ne (j := Int32.toNatClampNeg 1) B1332 (by decide) (by decide)) rfl) ct4.2)⟩
                    have bd1341 : (m1298 17).toInt = 0 → rf_bd 0 (upd f2 (Int32.toNatClampNeg z1330) (m976 14)) := fun z => (sf_pos B1313 (by decide) z)
                    refine pm_R_lo pm_M185 (pc' := 52) (ls' := [.ref 41, .int 0, .int 2, .int 4, .int 10, .int 0, .int (f2 0), .int 1]) (st' := []) rfl rfl rfl ?_
                    refine pm_R_br pm_M185 (pc' := 19) rfl rfl ?_
                    refine pm_R_lo pm_M185 (pc' := 21) rfl rfl rfl ?_
                    refine pm_R_lo pm_M185 (pc' := 22) rfl rfl rfl ?_
                    refine pm_R_br pm_M185 (pc' := 25) (st' := []) rfl rfl ?_
                    refine pm_R_lo pm_M185 (pc' := 26) rfl rfl rfl ?_
                    refine rf_R_get pm_M185 T1336 (pc' := 29) (v := .ref 51) rfl rfl rfl rfl ?_
                    refine pm_R_lo pm_M185 (pc' := 30) rfl rfl rfl ?_
                    refine pm_R_lo pm_M185 (pc' := 31) rfl rfl rfl ?_
                    refine pm_R_lo pm_M185 (pc' := 33) rfl rfl rfl ?_
                    refine sf_R_imulV pm_M185 (pc' := 34) rfl rfl sf_k4 B968 (by decide) (by decide) (by decide) e1325 ?_
                    refine sf_R_iaddV pm_M185 (pc' := 35) rfl rfl sf_k2 B1326 (by decide) (by decide) e1328 ?_
                    refine pm_R_lo pm_M185 (pc' := 37) rfl rfl rfl ?_
                    refine sf_R_iadd pm_M185 (pc' := 38) rfl rfl B1329 sf_k1 (by decide) (by decide) (fun z1342 e1343 B1344 => ?_)
                    refine pm_R_lo pm_M185 (pc' := 39) rfl rfl rfl ?_
                    refine rf_R_get pm_M185 T1336 (pc' := 42) (v := .ref 52) rfl rfl rfl rfl ?_
                    refine pm_R_lo pm_M185 (pc' := 44) rfl rfl rfl ?_
                    refine pm_R_lo pm_M185 (pc' := 46) rfl rfl rfl ?_
                    refine pm_R_op pm_M185 (pc' := 47) (st' := [.int 1, .ref 52, .int z1342, .ref 51]) rfl rfl rfl ?_
                    have e1345 := (F1337.cell (by decide) e1319)
                    refine pm_R_iald pm_M185 (pc' := 48) (v := (m1035 14)) rfl e1345 (Nat.lt_of_lt_of_le (by decide) T1336.1) rfl (Eq.trans (show (upd (upd (upd (upd f995 (Int32.toNatClampNeg 0) (m976 14)) (Int32.toNatClampNeg 1) (m1035 14)) (Int32.toNatClampNeg 2) (m1091 14)) (Int32.toNatClampNeg 3) v1317) (Int32.toNatClampNeg 1) = (upd (upd (upd f995 (Int32.toNatClampNeg 0) (m976 14)) (Int32.toNatClampNeg 1) (m1035 14)) (Int32.toNatClampNeg 2) (m1091 14)) (Int32.toNatClampNeg 1) from rfl) (Eq.trans (show (upd (upd (upd f995 (Int32.toNatClampNeg 0) (m976 14)) (Int32.toNatClampNeg 1) (m1035 14)) (Int32.toNatClampNeg 2) (m1091 14)) (Int32.toNatClampNeg 1) = (upd (upd f995 (Int32.toNatClampNeg 0) (m976 14)) (Int32.toNatClampNeg 1) (m1035 14)) (Int32.toNatClampNeg 1) from rfl) rfl)) rfl ?_
                    refine rf_R_ist pm_M185 T1336 (pc' := 49) rfl e1338 (by decide) (by decide) (sf_in B1344 (by decide) (by decide)) ⟨_, rfl⟩ rfl (fun h1348 T1349 F1350 e1351 => ?_)
                    have F1352 := F1339.trans F1350 (by decide)
                    have ct1353 : rf_ct 0 (upd (upd f2 (Int32.toNatClampNeg z1330) (m976 14)) (Int32.toNatClampNeg z1342) (m1035 14)) := ⟨(sf_eqL (Eq.trans (sf_upd_ne (j := Int32.toNatClampNeg 0) B1344 (by decide) (by decide)) (Eq.trans (sf_upd_ne (j := Int32.toNatClampNeg 0) B1332 (by decide) (by decide)) rfl)) (sf_weak B968 (by decide) (by decide))), (sf_eqL (Eq.trans (sf_upd_ne (j := Int32.toNatClampNeg 1) B1344 (by decide) (by decide)) (Eq.trans (sf_upd_ne (j := Int32.toNatClampNeg 1) B1332 (by decide) (by decide)) rfl)) ct4.2)⟩
                    have bd1354 : (m1298 17).toInt = 0 → rf_bd 0 (upd (upd f2 (Int32.toNatClampNeg z1330) (m976 14)) (Int32.toNatClampNeg z1342) (m1035 14)) := fun z => (sf_pos B1313 (by decide) z)
                    refine pm_R_lo pm_M185 (pc' := 52) (ls' := [.ref 41, .int 0, .int 2, .int 4, .int 10, .int 0, .int (f2 0), .int 2]) (st' := []) rfl rfl rfl ?_
                    refine pm_R_br pm_M185 (pc' := 19) rfl rfl ?_
                    refine pm_R_lo pm_M185 (pc' := 21) rfl rfl rfl ?_
                    refine pm_R_lo pm_M185 (pc' := 22) rfl rfl rfl ?_
                    refine pm_R_br pm_M185 (pc' := 25) (st' := []) rfl rfl ?_
                    refine pm_R_lo pm_M185 (pc' := 26) rfl rfl rfl ?_
                    refine rf_R_get pm_M185 T1349 (pc' := 29) (v := .ref 51) rfl rfl rfl rfl ?_
                    refine pm_R_lo pm_M185 (pc' := 30) rfl rfl rfl ?_
                    refine pm_R_lo pm_M185 (pc' := 31) rfl rfl rfl ?_
                    refine pm_R_lo pm_M185 (pc' := 33) rfl rfl rfl ?_
                    refine sf_R_imulV pm_M185 (pc' := 34) rfl rfl sf_k4 B968 (by decide) (by decide) (by decide) e1325 ?_
                    refine sf_R_iaddV pm_M185 (pc' := 35) rfl rfl sf_k2 B1326 (by decide) (by decide) e1328 ?_
                    refine pm_R_lo pm_M185 (pc' := 37) rfl rfl rfl ?_
                    refine sf_R_iadd pm_M185 (pc' := 38) rfl rfl B1329 sf_k2 (by decide) (by decide) (fun z1355 e1356 B1357 => ?_)
                    refine pm_R_lo pm_M185 (pc' := 39) rfl rfl rfl ?_
                    refine rf_R_get pm_M185 T1349 (pc' := 42) (v := .ref 52) rfl rfl rfl rfl ?_
                    refine pm_R_lo pm_M185 (pc' := 44) rfl rfl rfl ?_
                    refine pm_R_lo pm_M185 (pc' := 46) rfl rfl rfl ?_
                    refine pm_R_op pm_M185 (pc' := 47) (st' := [.int 2, .ref 52, .int z1355, .ref 51]) rfl rfl rfl ?_
                    have e1358 := (F1350.cell (by decide) e1345)
                    refine pm_R_iald pm_M185 (pc' := 48) (v := (m1091 14)) rfl e1358 (Nat.lt_of_lt_of_le (by decide) T1349.1) rfl (Eq.trans (show (upd (upd (upd (upd f995 (Int32.toNatClampNeg 0) (m976 14)) (Int32.toNatClampNeg 1) (m1035 14)) (Int32.toNatClampNeg 2) (m1091 14)) (Int32.toNatClampNeg 3) v1317) (Int32.toNatClampNeg 2) = (upd (upd (upd f995 (Int32.toNatClampNeg 0) (m976 14)) (Int32.toNatClampNeg 1) (m1035 14)) (Int32.toNatClampNeg 2) (m1091 14)) (Int32.toNatClampNeg 2) from rfl) rfl) rfl ?_
                    refine rf_R_ist pm_M185 T1349 (pc' := 49) rfl e1351 (by decide) (by decide) (sf_in B1357 (by decide) (by decide)) ⟨_, rfl⟩ rfl (fun h1361 T1362 F1363 e1364 => ?_)
                    have F1365 := F1352.trans F1363 (by decide)
                    have ct1366 : rf_ct 0 (upd (upd (upd f2 (Int32.toNatClampNeg z1330) (m976 14)) (Int32.toNatClampNeg z1342) (m1035 14)) (Int32.toNatClampNeg z1355) (m1091 14)) := ⟨(sf_eqL (Eq.trans (sf_upd_ne (j := Int32.toNatClampNeg 0) B1357 (by decide) (by decide)) (Eq.trans (sf_upd_ne (j := Int32.toNatClampNeg 0) B1344 (by decide) (by decide)) (Eq.trans (sf_upd_ne (j := Int32.toNatClampNeg 0) B1332 (by decide) (by decide)) rfl))) (sf_weak B968 (by decide) (by decide))), (sf_eqL (Eq.trans (sf_upd_ne (j := Int32.toNatClampNeg 1) B1357 (by decide) (by decide)) (Eq.trans (sf_upd_ne (j := Int32.toNatClampNeg 1) B1344 (by decide) (by decide)) (Eq.trans (sf_upd_ne (j := Int32.toNatClampNeg 1) B1332 (by decide) (by decide)) rfl))) ct4.2)⟩
                    have bd1367 : (m1298 17).toInt = 0 → rf_bd 0 (upd (upd (upd f2 (Int32.toNatClampNeg z1330) (m976 14)) (Int32.toNatClampNeg z1342) (m1035 14)) (Int32.toNatClampNeg z1355) (m1091 14)) := fun z => (sf_pos B1313 (by decide) z)
                    refine pm_R_lo pm_M185 (pc' := 52) (ls' := [.ref 41, .int 0, .int 2, .int 4, .int 10, .int 0, .int (f2 0), .int 3]) (st' := []) rfl rfl rfl ?_
                    refine pm_R_br pm_M185 (pc' := 19) rfl rfl ?_
                    refine pm_R_lo pm_M185 (pc' := 21) rfl rfl rfl ?_
                    refine pm_R_lo pm_M185 (pc' := 22) rfl rfl rfl ?_
                    refine pm_R_br pm_M185 (pc' := 25) (st' := []) rfl rfl ?_
                    refine pm_R_lo pm_M185 (pc' := 26) rfl rfl rfl ?_
                    refine rf_R_get pm_M185 T1362 (pc' := 29) (v := .ref 51) rfl rfl rfl rfl ?_
                    refine pm_R_lo pm_M185 (pc' := 30) rfl rfl rfl ?_
                    refine pm_R_lo pm_M185 (pc' := 31) rfl rfl rfl ?_
                    refine pm_R_lo pm_M185 (pc' := 33) rfl rfl rfl ?_
                    refine sf_R_imulV pm_M185 (pc' := 34) rfl rfl sf_k4 B968 (by decide) (by decide) (by decide) e1325 ?_
                    refine sf_R_iaddV pm_M185 (pc' := 35) rfl rfl sf_k2 B1326 (by decide) (by decide) e1328 ?_
                    refine pm_R_lo pm_M185 (pc' := 37) rfl rfl rfl ?_
                    refine sf_R_iadd pm_M185 (pc' := 38) rfl rfl B1329 sf_k3 (by decide) (by decide) (fun z1368 e1369 B1370 => ?_)
                    refine pm_R_lo pm_M185 (pc' := 39) rfl rfl rfl ?_
                    refine rf_R_get pm_M185 T1362 (pc' := 42) (v := .ref 52) rfl rfl rfl rfl ?_
                    refine pm_R_lo pm_M185 (pc' := 44) rfl rfl rfl ?_
                    refine pm_R_lo pm_M185 (pc' := 46) rfl rfl rfl ?_
                    refine pm_R_op pm_M185 (pc' := 47) (st' := [.int 3, .ref 52, .int z1368, .ref 51]) rfl rfl rfl ?_
                    have e1371 := (F1363.cell (by decide) e1358)
                    refine pm_R_iald pm_M185 (pc' := 48) (v := v1317) rfl e1371 (Nat.lt_of_lt_of_le (by decide) T1362.1) rfl rfl rfl ?_
                    refine rf_R_ist pm_M185 T1362 (pc' := 49) rfl e1364 (by decide) (by decide) (sf_in B1370 (by decide) (by decide)) ⟨_, rfl⟩ rfl (fun h1374 T1375 F1376 e1377 => ?_)
                    have F1378 := F1365.trans F1376 (by decide)
                    have ct1379 : rf_ct 0 (upd (upd (upd (upd f2 (Int32.toNatClampNeg z1330) (m976 14)) (Int32.toNatClampNeg z1342) (m1035 14)) (Int32.toNatClampNeg z1355) (m1091 14)) (Int32.toNatClampNeg z1368) v1317) := ⟨(sf_eqL (Eq.trans (sf_upd_ne (j := Int32.toNatClampNeg 0) B1370 (by decide) (by decide)) (Eq.trans (sf_upd_ne (j := Int32.toNatClampNeg 0) B1357 (by decide) (by decide)) (Eq.trans (sf_upd_ne (j := Int32.toNatClampNeg 0) B1344 (by decide) (by decide)) (Eq.trans (sf_upd_ne (j := Int32.toNatClampNeg 0) B1332 (by decide) (by decide)) rfl)))) (sf_weak B968 (by decide) (by decide))), (sf_eqL (Eq.trans (sf_upd_ne (j := Int32.toNatClampNeg 1) B1370 (by decide) (by decide)) (Eq.trans (sf_upd_ne (j := Int32.toNatClampNeg 1) B1357 (by decide) (by decide)) (Eq.trans (sf_upd_ne (j := Int32.toNatClampNeg 1) B1344 (by decide) (by decide)) (Eq.trans (sf_upd_ne (j := Int32.toNatClampNeg 1) B1332 (by decide) (by decide)) rfl)))) ct4.2)⟩
                    have bd1380 : (m1298 17).toInt = 0 → rf_bd 0 (upd (upd (upd (upd f2 (Int32.toNatClampNeg z1330) (m976 14)) (Int32.toNatClampNeg z1342) (m1035 14)) (Int32.toNatClampNeg z1355) (m1091 14)) (Int32.toNatClampNeg z1368) v1317) := fun z => (sf_pos B1313 (by decide) z)
                    refine pm_R_lo pm_M185 (pc' := 52) (ls' := [.ref 41, .int 0, .int 2, .int 4, .int 10, .int 0, .int (f2 0), .int 4]) (st' := []) rfl rfl rfl ?_
                    refine pm_R_br pm_M185 (pc' := 19) rfl rfl ?_
                    refine pm_R_lo pm_M185 (pc' := 21) rfl rfl rfl ?_
                    refine pm_R_lo pm_M185 (pc' := 22) rfl rfl rfl ?_
                    refine pm_R_br pm_M185 (pc' := 55) (st' := []) rfl rfl ?_
                    refine pm_R_lo pm_M185 (pc' := 56) rfl rfl rfl ?_
                    refine rf_R_get pm_M185 T1375 (pc' := 59) (v := .ref 51) rfl rfl rfl rfl ?_
                    refine pm_R_lo pm_M185 (pc' := 60) rfl rfl rfl ?_
                    refine pm_R_op pm_M185 (pc' := 61) (st' := [.int 0, .ref 51, .int 0, .ref 51]) rfl rfl rfl ?_
                    refine pm_R_iald pm_M185 (pc' := 62) (v := (f2 0)) rfl e1377 (Nat.lt_of_lt_of_le (by decide) T1375.1) rfl (Eq.trans (sf_upd_ne (j := Int32.toNatClampNeg 0) B1370 (by decide) (by decide)) (Eq.trans (sf_upd_ne (j := Int32.toNatClampNeg 0) B1357 (by decide) (by decide)) (Eq.trans (sf_upd_ne (j := Int32.toNatClampNeg 0) B1344 (by decide) (by decide)) (Eq.trans (sf_upd_ne (j := Int32.toNatClampNeg 0) B1332 (by decide) (by decide)) rfl)))) rfl ?_
                    refine pm_R_op pm_M185 (pc' := 63) (st' := [.int 1, .int (f2 0), .int 0, .ref 51]) rfl rfl rfl ?_
                    refine sf_R_iadd pm_M185 (pc' := 64) rfl rfl B968 sf_k1 (by decide) (by decide) (fun z1383 e1384 B1385 => ?_)
                    refine rf_R_ist pm_M185 T1375 (pc' := 65) rfl e1377 (by decide) (by decide) rfl ⟨_, rfl⟩ rfl (fun h1386 T1387 F1388 e1389 => ?_)
                    have F1390 := F1378.trans F1388 (by decide)
                    have ct1391 : rf_ct 0 (upd (upd (upd (upd (upd f2 (Int32.toNatClampNeg z1330) (m976 14)) (Int32.toNatClampNeg z1342) (m1035 14)) (Int32.toNatClampNeg z1355) (m1091 14)) (Int32.toNatClampNeg z1368) v1317) (Int32.toNatClampNeg 0) z1383) := ⟨(sf_eqL rfl (sf_weak B1385 (by decide) (by decide))), (sf_eqL (Eq.trans (show (upd (upd (upd (upd (upd f2 (Int32.toNatClampNeg z1330) (m976 14)) (Int32.toNatClampNeg z1342) (m1035 14)) (Int32.toNatClampNeg z1355) (m1091 14)) (Int32.toNatClampNeg z1368) v1317) (Int32.toNatClampNeg 0) z1383) (Int32.toNatClampNeg 1) = (upd (upd (upd (upd f2 (Int32.toNatClampNeg z1330) (m976 14)) (Int32.toNatClampNeg z1342) (m1035 14)) (Int32.toNatClampNeg z1355) (m1091 14)) (Int32.toNatClampNeg z1368) v1317) (Int32.toNatClampNeg 1) from rfl) (Eq.trans (sf_upd_ne (j := Int32.toNatClampNeg 1) B1370 (by decide) (by decide)) (Eq.trans (sf_upd_ne (j := Int32.toNatClampNeg 1) B1357 (by decide) (by decide)) (Eq.trans (sf_upd_ne (j := Int32.toNatClampNeg 1) B1344 (by decide) (by decide)) (Eq.trans (sf_upd_ne (j := Int32.toNatClampNeg 1) B1332 (by decide) (by decide)) rfl))))) ct4.2)⟩
                    have bd1392 : (m1298 17).toInt = 0 → rf_bd 0 (upd (upd (upd (upd (upd f2 (Int32.toNatClampNeg z1330) (m976 14)) (Int32.toNatClampNeg z1342) (m1035 14)) (Int32.toNatClampNeg z1355) (m1091 14)) (Int32.toNatClampNeg z1368) v1317) (Int32.toNatClampNeg 0) z1383) := fun z => (sf_pos B1313 (by decide) z)
                    refine pm_R_ret pm_M185 (r := none) rfl rfl ?_
                    show pm_R _ 187 134 [.ref 41, .long a0, pm_no, .int a1] [] _ _
                    refine pm_R_op pm_M187 (pc' := 135) (st' := [.int 1]) (pm_q187_1 (Nat.le_of_ble_eq_true rfl)) rfl rfl ?_
                    have B1393 : sf_B 0 600 (m1298 10) := T1387.2.2.1 10
                    exact pm_R_ret pm_M187 (r := some (.int 1)) (pm_q187_1 (Nat.le_of_ble_eq_true rfl)) rfl (K1 m1298 w1299 h1386 T1387 F1390 W1316 (⟨(upd (upd (upd (upd (upd f2 (Int32.toNatClampNeg z1330) (m976 14)) (Int32.toNatClampNeg z1342) (m1035 14)) (Int32.toNatClampNeg z1355) (m1091 14)) (Int32.toNatClampNeg z1368) v1317) (Int32.toNatClampNeg 0) z1383), e1389, ct1391, fun z => (sf_pos B1313 (by decide) z)⟩) (sf_aux78 _ _ _ _ _ _ _ _ X982 X1041 X1097 X1279 X1305))
              · skip
                refine pm_R_lo pm_M183 (pc' := 9) rfl rfl rfl ?_
                refine pm_R_cv pm_M183 (pc' := 12) (a := 41) (ra := []) (rest := []) (ls' := [.ref 41]) rfl rfl (Or.inl rfl) pm_M184 T1094.2.1 rfl (by decide) (Nat.lt_of_lt_of_le (by decide) T1094.1) rfl rfl (Nat.le_of_ble_eq_true rfl) rfl rfl ?_
                refine pm_R_lo pm_M184 (pc' := 1) rfl rfl rfl ?_
                refine pm_R_lo pm_M184 (pc' := 2) rfl rfl rfl ?_
                have B1394 : sf_B 0 600 (m1091 12) := T1094.2.2.1 12
                refine rf_R_get pm_M184 T1094 (pc' := 5) (v := .int (m1091 12)) rfl rfl rfl rfl ?_
                refine rf_R_put pm_M184 T1094 (pc' := 8) rfl rfl rfl (by decide) rfl rfl B1394 rfl rfl (fun h1395 m1398 em1399 T1396 F1397 => ?_)
                have F1400 := F1099.trans F1397 (by decide)
                have B1401 : sf_B 1 4 (m1398 17) := by rw [em1399]; exact B1100
                have ek1402 : (m1398 17).toInt = ((m1063 17)).toInt := by rw [em1399]; exact ek1101
                have B1403 : sf_B 0 0 (m1398 22) := by rw [em1399]; exact B1102
                have B1404 : sf_B 0 600 (m1398 16) := by rw [em1399]; exact B1394
                have ek1405 : (m1398 16).toInt = ((m1091 12)).toInt := by rw [em1399]; rfl
                have W1406 : rf_W [10, 12, 13, 14, 16, 17, 18, 22] m m1398 := by rw [em1399]; exact W1103.put (by decide)
                refine pm_R_op pm_M184 (pc' := 9) (st' := [.int 0]) rfl rfl rfl ?_
                refine pm_R_ret pm_M184 (r := some (.int 0)) rfl rfl ?_
                show pm_R _ 183 12 [.ref 41, .int 2, .int 5, .int (-1)] [.int 0] _ _
                refine pm_R_ret pm_M183 (r := some (.int 0)) rfl rfl ?_
                show pm_R _ 187 112 [.ref 41, .long a0, pm_no, .int a1] [.int 0] _ _
                refine pm_R_br pm_M187 (pc' := 122) (st' := []) (pm_q187_1 (Nat.le_of_ble_eq_true rfl)) rfl ?_
                refine pm_R_op pm_M187 (pc' := 123) (st' := [.int 0]) (pm_q187_1 (Nat.le_of_ble_eq_true rfl)) rfl rfl ?_
                have B1407 : sf_B 0 600 (m1398 10) := T1396.2.2.1 10
                exact pm_R_ret pm_M187 (r := some (.int 0)) (pm_q187_1 (Nat.le_of_ble_eq_true rfl)) rfl (K0 m1398 w1092 h1395 T1396 F1400 W1406 (sf_aux79 _ _ _ _ _ _ _ X982 X1041 X1097))
            · have B1408 : sf_B 0 5 (m1035 14) := sf_leL (Int32.not_lt.mp c1058) B1051 sf_k5
              refine pm_R_lo pm_M183 (pc' := 32) rfl rfl rfl ?_
              refine rf_R_get pm_M183 T1054 (pc' := 35) (v := .int (m1035 14)) rfl rfl rfl rfl ?_
              refine pm_R_lo pm_M183 (pc' := 36) rfl rfl rfl ?_
              refine pm_R_icmp pm_M183 (t := 53) (pc' := 39) rfl rfl rfl (fun c1409 => ?_) (fun c1409 => absurd (Classical.not_not.mp c1409) (sf_neq1 B1408 sf_kn1 (by decide)))
              skip
              refine pm_R_lo pm_M183 (pc' := 54) rfl rfl rfl ?_
              refine pm_R_cv pm_M183 (pc' := 57) (a := 41) (ra := []) (rest := []) (ls' := [.ref 41, pm_no, pm_no]) rfl rfl (Or.inl rfl) pm_M179 T1054.2.1 rfl (by decide) (Nat.lt_of_lt_of_le (by decide) T1054.1) rfl rfl (Nat.le_of_ble_eq_true rfl) rfl rfl ?_
              have B1410 : sf_B 0 600 (m1035 10) := T1054.2.2.1 10
              refine rf_c179 (d := d + 0) T1054  (fun m1413 w1414 h1415 T1416 F1417 W1418 X1419 X1420 => ?_)
              have F1421 := F1057.trans F1417 (by decide)
              have B1422 : sf_B 1 4 (m1413 17) := by rw [W1418 17 (by decide)]; exact B1044
              have ek1423 : (m1413 17).toInt = ((m1008 17)).toInt := by rw [W1418 17 (by decide)]; exact ek1045
              have B1424 : sf_B 0 0 (m1413 22) := by rw [W1418 22 (by decide)]; exact B1046
              have W1425 : rf_W [10, 12, 13, 14, 16, 17, 18, 22] m m1413 := W1047.trans W1418 (by decide)
              show pm_R _ 183 57 [.ref 41, .int 1, .int 5, .int (-1)] [] _ _
              refine pm_R_op pm_M183 (pc' := 58) (st' := [.int 1]) rfl rfl rfl ?_
              refine pm_R_ret pm_M183 (r := some (.int 1)) rfl rfl ?_
              show pm_R _ 187 102 [.ref 41, .long a0, pm_no, .int a1] [.int 1] _ _
              refine pm_R_br pm_M187 (pc' := 105) (st' := []) rfl rfl ?_
              refine pm_R_lo pm_M187 (pc' := 106) rfl rfl rfl ?_
              refine pm_R_op pm_M187 (pc' := 107) (st' := [.int 2, .ref 41]) rfl rfl rfl ?_
              refine pm_R_op pm_M187 (pc' := 108) (st' := [.int 5, .int 2, .ref 41]) rfl rfl rfl ?_
              refine pm_R_op pm_M187 (pc' := 109) (st' := [.int (-1), .int 5, .int 2, .ref 41]) (pm_q187_1 (Nat.le_of_ble_eq_true rfl)) rfl rfl ?_
              refine pm_R_cv pm_M187 (pc' := 112) (a := 41) (ra := [.int (-1), .int 5, .int 2]) (rest := []) (ls' := [.ref 41, .int 2, .int 5, .int (-1)]) (pm_q187_1 (Nat.le_of_ble_eq_true rfl)) rfl (Or.inl rfl) pm_M183 T1416.2.1 rfl (by decide) (Nat.lt_of_lt_of_le (by decide) T1416.1) rfl rfl (Nat.le_of_ble_eq_true rfl) rfl rfl ?_
              refine pm_R_lo pm_M183 (pc' := 1) rfl rfl rfl ?_
              have B1426 : sf_B 0 4 (m1413 13) := T1416.2.2.1 13
              refine rf_R_get pm_M183 T1416 (pc' := 4) (v := .int (m1413 13)) rfl rfl rfl rfl ?_
              refine pm_R_op pm_M183 (pc' := 5) (st' := [.int 3, .int (m1413 13)]) rfl rfl rfl ?_
              refine pm_R_icmp pm_M183 (t := 13) (pc' := 8) rfl rfl rfl (fun c1427 => ?_) (fun c1427 => ?_)
              · have B1428 : sf_B 3 3 (m1413 13) := sf_eqL c1427 sf_k3
                refine pm_R_lo pm_M183 (pc' := 14) rfl rfl rfl ?_
                refine rf_R_get pm_M183 T1416 (pc' := 17) (v := .ref 52) rfl rfl rfl rfl ?_
                refine pm_R_lo pm_M183 (pc' := 18) rfl rfl rfl ?_
                refine pm_R_lo pm_M183 (pc' := 19) rfl rfl rfl ?_
                have B1429 : sf_B 0 99 (m1413 14) := T1416.2.2.1 14
                refine rf_R_get pm_M183 T1416 (pc' := 22) (v := .int (m1413 14)) rfl rfl rfl rfl ?_
                have e1430 := (F1417.cell (by decide) e1056)
                refine rf_R_ist pm_M183 T1416 (pc' := 23) rfl e1430 (by decide) (by decide) rfl ⟨_, rfl, sf_upd (sf_upd (sf_upd b997 (sf_weak B994 (by decide) (by decide)) _) (sf_weak B1051 (by decide) (by decide)) _) (sf_weak B1429 (by decide) (by decide)) _⟩ rfl (fun h1431 T1432 F1433 e1434 => ?_)
                have F1435 := F1421.trans F1433 (by decide)
                refine pm_R_lo pm_M183 (pc' := 24) rfl rfl rfl ?_
                refine rf_R_get pm_M183 T1432 (pc' := 27) (v := .int (m1413 14)) rfl rfl rfl rfl ?_
                refine pm_R_lo pm_M183 (pc' := 28) rfl rfl rfl ?_
                refine pm_R_icmp pm_M183 (t := 39) (pc' := 31) rfl rfl rfl (fun c1436 => ?_) (fun c1436 => ?_)
                · have B1437 : sf_B 6 99 (m1413 14) := sf_ltR c1436 sf_k5 B1429
                  refine pm_R_lo pm_M183 (pc' := 40) rfl rfl rfl ?_
                  refine pm_R_op pm_M183 (pc' := 41) (st' := [.int 2, .ref 41]) rfl rfl rfl ?_
                  refine pm_R_lo pm_M183 (pc' := 42) rfl rfl rfl ?_
                  have B1438 : sf_B 0 600 (m1413 12) := T1432.2.2.1 12
                  refine rf_R_get pm_M183 T1432 (pc' := 45) (v := .int (m1413 12)) rfl rfl rfl rfl ?_
                  refine pm_R_cv pm_M183 (pc' := 48) (a := 41) (ra := [.int (m1413 12), .int 2]) (rest := []) (ls' := [.ref 41, .int 2, .int (m1413 12)]) rfl rfl (Or.inl rfl) pm_M182 T1432.2.1 rfl (by decide) (Nat.lt_of_lt_of_le (by decide) T1432.1) rfl rfl (Nat.le_of_ble_eq_true rfl) rfl rfl ?_
                  refine rf_c182 (d := d + 1) T1432 (sf_weak sf_k2 (by decide) (by decide)) B1438 (fun m1441 w1442 h1443 T1444 F1445 W1446 B1447 => ?_)
                  have F1448 := F1435.trans F1445 (by decide)
                  have B1449 : sf_B 0 0 (m1441 22) := by rw [W1446 22 (by decide)]; exact B1424
                  have B1450 : sf_B 3 3 (m1441 13) := by rw [W1446 13 (by decide)]; exact B1428
                  have B1451 : sf_B 6 99 (m1441 14) := by rw [W1446 14 (by decide)]; exact B1437
                  have W1452 : rf_W [10, 12, 13, 14, 16, 17, 18, 22] m m1441 := W1425.trans W1446 (by decide)
                  show pm_R _ 183 48 [.ref 41, .int 2, .int 5, .int (-1)] [] _ _
                  refine pm_R_lo pm_M183 (pc' := 49) rfl rfl rfl ?_
                  refine pm_R_op pm_M183 (pc' := 50) (st' := [.int 0, .ref 41]) rfl rfl rfl ?_
                  refine rf_R_put pm_M183 T1444 (pc' := 53) rfl rfl rfl (by decide) rfl rfl (sf_weak sf_k0 (by decide) (by decide)) rfl rfl (fun h1453 m1456 em1457 T1454 F1455 => ?_)
                  have F1458 := F1448.trans F1455 (by decide)
                  have B1459 : sf_B 3 3 (m1456 13) := by rw [em1457]; exact B1450
                  have B1460 : sf_B 6 99 (m1456 14) := by rw [em1457]; exact B1451
                  have B1461 : sf_B 1 4 (m1456 17) := by rw [em1457]; exact B1447
                  have ek1462 : (m1456 17).toInt = ((m1441 17)).toInt := by rw [em1457]; rfl
                  have B1463 : sf_B 0 0 (m1456 22) := by rw [em1457]; exact sf_k0
                  have W1465 : rf_W [10, 12, 13, 14, 16, 17, 18, 22] m m1456 := by rw [em1457]; exact W1452.put (by decide)
                  refine pm_R_lo pm_M183 (pc' := 54) rfl rfl rfl ?_
                  refine pm_R_cv pm_M183 (pc' := 57) (a := 41) (ra := []) (rest := []) (ls' := [.ref 41, pm_no, pm_no]) rfl rfl (Or.inl rfl) pm_M179 T1454.2.1 rfl (by decide) (Nat.lt_of_lt_of_le (by decide) T1454.1) rfl rfl (Nat.le_of_ble_eq_true rfl) rfl rfl ?_
                  have B1466 : sf_B 0 600 (m1456 10) := T1454.2.2.1 10
                  refine rf_c179 (d := d + 0) T1454  (fun m1469 w1470 h1471 T1472 F1473 W1474 X1475 X1476 => ?_)
                  have F1477 := F1458.trans F1473 (by decide)
                  have B1478 : sf_B 1 4 (m1469 17) := by rw [W1474 17 (by decide)]; exact B1461
                  have ek1479 : (m1469 17).toInt = ((m1441 17)).toInt := by rw [W1474 17 (by decide)]; exact ek1462
                  have B1480 : sf_B 0 0 (m1469 22) := by rw [W1474 22 (by decide)]; exact B1463
                  have W1481 : rf_W [10, 12, 13, 14, 16, 17, 18, 22] m m1469 := W1465.trans W1474 (by decide)
                  show pm_R _ 183 57 [.ref 41, .int 2, .int 5, .int (-1)] [] _ _
                  refine pm_R_op pm_M183 (pc' := 58) (st' := [.int 1]) rfl rfl rfl ?_
                  refine pm_R_ret pm_M183 (r := some (.int 1)) rfl rfl ?_
                  show pm_R _ 187 112 [.ref 41, .long a0, pm_no, .int a1] [.int 1] _ _
                  refine pm_R_br pm_M187 (pc' := 115) (st' := []) (pm_q187_1 (Nat.le_of_ble_eq_true rfl)) rfl ?_
                  refine pm_R_lo pm_M187 (pc' := 116) (pm_q187_1 (Nat.le_of_ble_eq_true rfl)) rfl rfl ?_
                  refine pm_R_cv pm_M187 (pc' := 119) (a := 41) (ra := []) (rest := []) (ls' := [.ref 41, pm_no, pm_no]) (pm_q187_1 (Nat.le_of_ble_eq_true rfl)) rfl (Or.inl rfl) pm_M188 T1472.2.1 rfl (by decide) (Nat.lt_of_lt_of_le (by decide) T1472.1) rfl rfl (Nat.le_of_ble_eq_true rfl) rfl rfl ?_
                  have e1482 := (F1473.cell (by decide) (F1455.cell (by decide) (F1445.cell (by decide) e1434)))
                  refine rf_c188 (d := d + 0) T1472  (fun m1485 w1486 h1487 T1488 F1489 W1490 X1491 => ?_) (fun m1494 w1495 h1496 T1497 F1498 W1499 X1500 X1501 => ?_)
                  · have F1502 := F1477.trans F1489 (by decide)
                    have B1503 : sf_B 1 4 (m1485 17) := by rw [W1490 17 (by decide)]; exact B1478
                    have ek1504 : (m1485 17).toInt = ((m1441 17)).toInt := by rw [W1490 17 (by decide)]; exact ek1479
                    have B1505 : sf_B 0 0 (m1485 22) := by rw [W1490 22 (by decide)]; exact B1480
                    have W1506 : rf_W [10, 12, 13, 14, 16, 17, 18, 22] m m1485 := W1481.trans W1490 (by decide)
                    show pm_R _ 187 119 [.ref 41, .long a0, pm_no, .int a1] [.int 0] _ _
                    refine pm_R_br pm_M187 (pc' := 122) (st' := []) (pm_q187_1 (Nat.le_of_ble_eq_true rfl)) rfl ?_
                    refine pm_R_op pm_M187 (pc' := 123) (st' := [.int 0]) (pm_q187_1 (Nat.le_of_ble_eq_true rfl)) rfl rfl ?_
                    have B1507 : sf_B 0 600 (m1485 10) := T1488.2.2.1 10
                    exact pm_R_ret pm_M187 (r := some (.int 0)) (pm_q187_1 (Nat.le_of_ble_eq_true rfl)) rfl (K0 m1485 w1486 h1487 T1488 F1502 W1506 (sf_aux80 _ _ _ _ _ _ _ _ X982 X1041 X1419 X1475 X1491))
                  · have F1508 := F1477.trans F1498 (by decide)
                    have B1509 : sf_B 1 4 (m1494 17) := by rw [W1499 17 (by decide)]; exact B1478
                    have ek1510 : (m1494 17).toInt = ((m1441 17)).toInt := by rw [W1499 17 (by decide)]; exact ek1479
                    have B1511 : sf_B 0 0 (m1494 22) := by rw [W1499 22 (by decide)]; exact B1480
                    have W1512 : rf_W [10, 12, 13, 14, 16, 17, 18, 22] m m1494 := W1481.trans W1499 (by decide)
                    show pm_R _ 187 119 [.ref 41, .long a0, pm_no, .int a1] [.int 1] _ _
                    obtain ⟨v1513, B1514, e1515⟩ := X1500 _ e1482
                    refine pm_R_br pm_M187 (pc' := 124) (st' := []) (pm_q187_1 (Nat.le_of_ble_eq_true rfl)) rfl ?_
                    refine pm_R_lo pm_M187 (pc' := 125) (pm_q187_1 (Nat.le_of_ble_eq_true rfl)) rfl rfl ?_
                    refine pm_R_op pm_M187 (pc' := 126) (st' := [.int 0, .ref 41]) (pm_q187_1 (Nat.le_of_ble_eq_true rfl)) rfl rfl ?_
                    refine pm_R_op pm_M187 (pc' := 127) (st' := [.int 2, .int 0, .ref 41]) (pm_q187_1 (Nat.le_of_ble_eq_true rfl)) rfl rfl ?_
                    refine pm_R_op pm_M187 (pc' := 128) (st' := [.int 4, .int 2, .int 0, .ref 41]) (pm_q187_1 (Nat.le_of_ble_eq_true rfl)) rfl rfl ?_
                    refine pm_R_op pm_M187 (pc' := 130) (st' := [.int 10, .int 4, .int 2, .int 0, .ref 41]) (pm_q187_1 (Nat.le_of_ble_eq_true rfl)) rfl rfl ?_
                    refine pm_R_op pm_M187 (pc' := 131) (st' := [.int 0, .int 10, .int 4, .int 2, .int 0, .ref 41]) (pm_q187_1 (Nat.le_of_ble_eq_true rfl)) rfl rfl ?_
                    refine pm_R_cv pm_M187 (pc' := 134) (a := 41) (ra := [.int 0, .int 10, .int 4, .int 2, .int 0]) (rest := []) (ls' := [.ref 41, .int 0, .int 2, .int 4, .int 10, .int 0, pm_no, pm_no]) (pm_q187_1 (Nat.le_of_ble_eq_true rfl)) rfl (Or.inl rfl) pm_M185 T1497.2.1 rfl (by decide) (Nat.lt_of_lt_of_le (by decide) T1497.1) rfl rfl (Nat.le_of_ble_eq_true rfl) rfl rfl ?_
                    refine pm_R_lo pm_M185 (pc' := 1) rfl rfl rfl ?_
                    refine rf_R_get pm_M185 T1497 (pc' := 4) (v := .ref 51) rfl rfl rfl rfl ?_
                    refine pm_R_lo pm_M185 (pc' := 5) rfl rfl rfl ?_
                    have e1516 := (F1498.cell (by decide) (F1473.cell (by decide) (F1455.cell (by decide) (F1445.cell (by decide) (F1433.cell (by decide) (F1417.cell (by decide) (F1055.cell (by decide) (F1039.cell (by decide) (F1021.cell (by decide) (F1012.cell (by decide) (F1000.cell (by decide) (F980.cell (by decide) e3))))))))))))
                    refine pm_R_iald pm_M185 (pc' := 6) (v := (f2 0)) rfl e1516 (Nat.lt_of_lt_of_le (by decide) T1497.1) rfl rfl rfl ?_
                    refine pm_R_lo pm_M185 (pc' := 8) (ls' := [.ref 41, .int 0, .int 2, .int 4, .int 10, .int 0, .int (f2 0), pm_no]) (st' := []) rfl rfl rfl ?_
                    refine pm_R_lo pm_M185 (pc' := 10) rfl rfl rfl ?_
                    refine pm_R_lo pm_M185 (pc' := 12) rfl rfl rfl ?_
                    refine pm_R_icmp pm_M185 (t := 16) (pc' := 15) rfl rfl rfl (fun c1519 => ?_) (fun c1519 => absurd (Classical.not_not.mp c1519) (sf_neq2 B968 sf_k10 (by decide)))
                    skip
                    refine pm_R_op pm_M185 (pc' := 17) (st' := [.int 0]) rfl rfl rfl ?_
                    refine pm_R_lo pm_M185 (pc' := 19) (ls' := [.ref 41, .int 0, .int 2, .int 4, .int 10, .int 0, .int (f2 0), .int 0]) (st' := []) rfl rfl rfl ?_
                    refine pm_R_lo pm_M185 (pc' := 21) rfl rfl rfl ?_
                    refine pm_R_lo pm_M185 (pc' := 22) rfl rfl rfl ?_
                    refine pm_R_br pm_M185 (pc' := 25) (st' := []) rfl rfl ?_
                    refine pm_R_lo pm_M185 (pc' := 26) rfl rfl rfl ?_
                    refine rf_R_get pm_M185 T1497 (pc' := 29) (v := .ref 51) rfl rfl rfl rfl ?_
                    refine pm_R_lo pm_M185 (pc' := 30) rfl rfl rfl ?_
                    refine pm_R_lo pm_M185 (pc' := 31) rfl rfl rfl ?_
                    refine pm_R_lo pm_M185 (pc' := 33) rfl rfl rfl ?_
                    refine sf_R_imul pm_M185 (pc' := 34) rfl rfl sf_k4 B968 (by decide) (by decide) (by decide) (fun z1520 e1521 B1522 => ?_)
                    refine sf_R_iadd pm_M185 (pc' := 35) rfl rfl sf_k2 B1522 (by decide) (by decide) (fun z1523 e1524 B1525 => ?_)
                    refine pm_R_lo pm_M185 (pc' := 37) rfl rfl rfl ?_
                    refine sf_R_iadd pm_M185 (pc' := 38) rfl rfl B1525 sf_k0 (by decide) (by decide) (fun z1526 e1527 B1528 => ?_)
                    refine pm_R_lo pm_M185 (pc' := 39) rfl rfl rfl ?_
                    refine rf_R_get pm_M185 T1497 (pc' := 42) (v := .ref 52) rfl rfl rfl rfl ?_
                    refine pm_R_lo pm_M185 (pc' := 44) rfl rfl rfl ?_
                    refine pm_R_lo pm_M185 (pc' := 46) rfl rfl rfl ?_
                    refine pm_R_op pm_M185 (pc' := 47) (st' := [.int 0, .ref 52, .int z1526, .ref 51]) rfl rfl rfl ?_
                    refine pm_R_iald pm_M185 (pc' := 48) (v := (m976 14)) rfl e1515 (Nat.lt_of_lt_of_le (by decide) T1497.1) rfl (Eq.trans (show (upd (upd (upd (upd f995 (Int32.toNatClampNeg 0) (m976 14)) (Int32.toNatClampNeg 1) (m1035 14)) (Int32.toNatClampNeg 2) (m1413 14)) (Int32.toNatClampNeg 3) v1513) (Int32.toNatClampNeg 0) = (upd (upd (upd f995 (Int32.toNatClampNeg 0) (m976 14)) (Int32.toNatClampNeg 1) (m1035 14)) (Int32.toNatClampNeg 2) (m1413 14)) (Int32.toNatClampNeg 0) from rfl) (Eq.trans (show (upd (upd (upd f995 (Int32.toNatClampNeg 0) (m976 14)) (Int32.toNatClampNeg 1) (m1035 14)) (Int32.toNatClampNeg 2) (m1413 14)) (Int32.toNatClampNeg 0) = (upd (upd f995 (Int32.toNatClampNeg 0) (m976 14)) (Int32.toNatClampNeg 1) (m1035 14)) (Int32.toNatClampNeg 0) from rfl) (Eq.trans (show (upd (upd f995 (Int32.toNatClampNeg 0) (m976 14)) (Int32.toNatClampNeg 1) (m1035 14)) (Int32.toNatClampNeg 0) = (upd f995 (Int32.toNatClampNeg 0) (m976 14)) (Int32.toNatClampNeg 0) from rfl) rfl))) rfl ?_
                    refine rf_R_ist pm_M185 T1497 (pc' := 49) rfl e1516 (by decide) (by decide) (sf_in B1528 (by decide) (by decide)) ⟨_, rfl⟩ rfl (fun h1531 T1532 F1533 e1534 => ?_)
                    have F1535 := F1508.trans F1533 (by decide)
                    have ct1536 : rf_ct 0 (upd f2 (Int32.toNatClampNeg z1526) (m976 14)) := ⟨(sf_eqL (Eq.trans (sf_upd_ne (j := Int32.toNatClampNeg 0) B1528 (by decide) (by decide)) rfl) (sf_weak B968 (by decide) (by decide))), (sf_eqL (Eq.trans (sf_upd_ne (j := Int32.toNatClampNeg 1) B1528 (by decide) (by decide)) rfl) ct4.2)⟩
                    have bd1537 : (m1494 17).toInt = 0 → rf_bd 0 (upd f2 (Int32.toNatClampNeg z1526) (m976 14)) := fun z => (sf_pos B1509 (by decide) z)
                    refine pm_R_lo pm_M185 (pc' := 52) (ls' := [.ref 41, .int 0, .int 2, .int 4, .int 10, .int 0, .int (f2 0), .int 1]) (st' := []) rfl rfl rfl ?_
                    refine pm_R_br pm_M185 (pc' := 19) rfl rfl ?_
                    refine pm_R_lo pm_M185 (pc' := 21) rfl rfl rfl ?_
                    refine pm_R_lo pm_M185 (pc' := 22) rfl rfl rfl ?_
                    refine pm_R_br pm_M185 (pc' := 25) (st' := []) rfl rfl ?_
                    refine pm_R_lo pm_M185 (pc' := 26) rfl rfl rfl ?_
                    refine rf_R_get pm_M185 T1532 (pc' := 29) (v := .ref 51) rfl rfl rfl rfl ?_
                    refine pm_R_lo pm_M185 (pc' := 30) rfl rfl rfl ?_
                    refine pm_R_lo pm_M185 (pc' := 31) rfl rfl rfl ?_
                    refine pm_R_lo pm_M185 (pc' := 33) rfl rfl rfl ?_
                    refine sf_R_imulV pm_M185 (pc' := 34) rfl rfl sf_k4 B968 (by decide) (by decide) (by decide) e1521 ?_
                    refine sf_R_iaddV pm_M185 (pc' := 35) rfl rfl sf_k2 B1522 (by decide) (by decide) e1524 ?_
                    refine pm_R_lo pm_M185 (pc' := 37) rfl rfl rfl ?_
                    refine sf_R_iadd pm_M185 (pc' := 38) rfl rfl B1525 sf_k1 (by decide) (by decide) (fun z1538 e1539 B1540 => ?_)
                    refine pm_R_lo pm_M185 (pc' := 39) rfl rfl rfl ?_
                    refine rf_R_get pm_M185 T1532 (pc' := 42) (v := .ref 52) rfl rfl rfl rfl ?_
                    refine pm_R_lo pm_M185 (pc' := 44) rfl rfl rfl ?_
                    refine pm_R_lo pm_M185 (pc' := 46) rfl rfl rfl ?_
                    refine pm_R_op pm_M185 (pc' := 47) (st' := [.int 1, .ref 52, .int z1538, .ref 51]) rfl rfl rfl ?_
                    have e1541 := (F1533.cell (by decide) e1515)
                    refine pm_R_iald pm_M185 (pc' := 48) (v := (m1035 14)) rfl e1541 (Nat.lt_of_lt_of_le (by decide) T1532.1) rfl (Eq.trans (show (upd (upd (upd (upd f995 (Int32.toNatClampNeg 0) (m976 14)) (Int32.toNatClampNeg 1) (m1035 14)) (Int32.toNatClampNeg 2) (m1413 14)) (Int32.toNatClampNeg 3) v1513) (Int32.toNatClampNeg 1) = (upd (upd (upd f995 (Int32.toNatClampNeg 0) (m976 14)) (Int32.toNatClampNeg 1) (m1035 14)) (Int32.toNatClampNeg 2) (m1413 14)) (Int32.toNatClampNeg 1) from rfl) (Eq.trans (show (upd (upd (upd f995 (Int32.toNatClampNeg 0) (m976 14)) (Int32.toNatClampNeg 1) (m1035 14)) (Int32.toNatClampNeg 2) (m1413 14)) (Int32.toNatClampNeg 1) = (upd (upd f995 (Int32.toNatClampNeg 0) (m976 14)) (Int32.toNatClampNeg 1) (m1035 14)) (Int32.toNatClampNeg 1) from rfl) rfl)) rfl ?_
                    refine rf_R_ist pm_M185 T1532 (pc' := 49) rfl e1534 (by decide) (by decide) (sf_in B1540 (by decide) (by decide)) ⟨_, rfl⟩ rfl (fun h1544 T1545 F1546 e1547 => ?_)
                    have F1548 := F1535.trans F1546 (by decide)
                    have ct1549 : rf_ct 0 (upd (upd f2 (Int32.toNatClampNeg z1526) (m976 14)) (Int32.toNatClampNeg z1538) (m1035 14)) := ⟨(sf_eqL (Eq.trans (sf_upd_ne (j := Int32.toNatClampNeg 0) B1540 (by decide) (by decide)) (Eq.trans (sf_upd_ne (j := Int32.toNatClampNeg 0) B1528 (by decide) (by decide)) rfl)) (sf_weak B968 (by decide) (by decide))), (sf_eqL (Eq.trans (sf_upd_ne (j := Int32.toNatClampNeg 1) B1540 (by decide) (by decide)) (Eq.trans (sf_upd_ne (j := Int32.toNatClampNeg 1) B1528 (by decide) (by decide)) rfl)) ct4.2)⟩
                    have bd1550 : (m1494 17).toInt = 0 → rf_bd 0 (upd (upd f2 (Int32.toNatClampNeg z1526) (m976 14)) (Int32.toNatClampNeg z1538) (m1035 14)) := fun z => (sf_pos B1509 (by decide) z)
                    refine pm_R_lo pm_M185 (pc' := 52) (ls' := [.ref 41, .int 0, .int 2, .int 4, .int 10, .int 0, .int (f2 0), .int 2]) (st' := []) rfl rfl rfl ?_
                    refine pm_R_br pm_M185 (pc' := 19) rfl rfl ?_
                    refine pm_R_lo pm_M185 (pc' := 21) rfl rfl rfl ?_
                    refine pm_R_lo pm_M185 (pc' := 22) rfl rfl rfl ?_
                    refine pm_R_br pm_M185 (pc' := 25) (st' := []) rfl rfl ?_
                    refine pm_R_lo pm_M185 (pc' := 26) rfl rfl rfl ?_
                    refine rf_R_get pm_M185 T1545 (pc' := 29) (v := .ref 51) rfl rfl rfl rfl ?_
                    refine pm_R_lo pm_M185 (pc' := 30) rfl rfl rfl ?_
                    refine pm_R_lo pm_M185 (pc' := 31) rfl rfl rfl ?_
                    refine pm_R_lo pm_M185 (pc' := 33) rfl rfl rfl ?_
                    refine sf_R_imulV pm_M185 (pc' := 34) rfl rfl sf_k4 B968 (by decide) (by decide) (by decide) e1521 ?_
                    refine sf_R_iaddV pm_M185 (pc' := 35) rfl rfl sf_k2 B1522 (by decide) (by decide) e1524 ?_
                    refine pm_R_lo pm_M185 (pc' := 37) rfl rfl rfl ?_
                    refine sf_R_iadd pm_M185 (pc' := 38) rfl rfl B1525 sf_k2 (by decide) (by decide) (fun z1551 e1552 B1553 => ?_)
                    refine pm_R_lo pm_M185 (pc' := 39) rfl rfl rfl ?_
                    refine rf_R_get pm_M185 T1545 (pc' := 42) (v := .ref 52) rfl rfl rfl rfl ?_
                    refine pm_R_lo pm_M185 (pc' := 44) rfl rfl rfl ?_
                    refine pm_R_lo pm_M185 (pc' := 46) rfl rfl rfl ?_
                    refine pm_R_op pm_M185 (pc' := 47) (st' := [.int 2, .ref 52, .int z1551, .ref 51]) rfl rfl rfl ?_
                    have e1554 := (F1546.cell (by decide) e1541)
                    refine pm_R_iald pm_M185 (pc' := 48) (v := (m1413 14)) rfl e1554 (Nat.lt_of_lt_of_le (by decide) T1545.1) rfl (Eq.trans (show (upd (upd (upd (upd f995 (Int32.toNatClampNeg 0) (m976 14)) (Int32.toNatClampNeg 1) (m1035 14)) (Int32.toNatClampNeg 2) (m1413 14)) (Int32.toNatClampNeg 3) v1513) (Int32.toNatClampNeg 2) = (upd (upd (upd f995 (Int32.toNatClampNeg 0) (m976 14)) (Int32.toNatClampNeg 1) (m1035 14)) (Int32.toNatClampNeg 2) (m1413 14)) (Int32.toNatClampNeg 2) from rfl) rfl) rfl ?_
                    refine rf_R_ist pm_M185 T1545 (pc' := 49) rfl e1547 (by decide) (by decide) (sf_in B1553 (by decide) (by decide)) ⟨_, rfl⟩ rfl (fun h1557 T1558 F1559 e1560 => ?_)
                    have F1561 := F1548.trans F1559 (by decide)
                    have ct1562 : rf_ct 0 (upd (upd (upd f2 (Int32.toNatClampNeg z1526) (m976 14)) (Int32.toNatClampNeg z1538) (m1035 14)) (Int32.toNatClampNeg z1551) (m1413 14)) := ⟨(sf_eqL (Eq.trans (sf_upd_ne (j := Int32.toNatClampNeg 0) B1553 (by decide) (by decide)) (Eq.trans (sf_upd_ne (j := Int32.toNatClampNeg 0) B1540 (by decide) (by decide)) (Eq.trans (sf_upd_ne (j := Int32.toNatClampNeg 0) B1528 (by decide) (by decide)) rfl))) (sf_weak B968 (by decide) (by decide))), (sf_eqL (Eq.trans (sf_upd_ne (j := Int32.toNatClampNeg 1) B1553 (by decide) (by decide)) (Eq.trans (sf_upd_ne (j := Int32.toNatClampNeg 1) B1540 (by decide) (by decide)) (Eq.trans (sf_upd_ne (j := Int32.toNatClampNeg 1) B1528 (by decide) (by decide)) rfl))) ct4.2)⟩
                    have bd1563 : (m1494 17).toInt = 0 → rf_bd 0 (upd (upd (upd f2 (Int32.toNatClampNeg z1526) (m976 14)) (Int32.toNatClampNeg z1538) (m1035 14)) (Int32.toNatClampNeg z1551) (m1413 14)) := fun z => (sf_pos B1509 (by decide) z)
                    refine pm_R_lo pm_M185 (pc' := 52) (ls' := [.ref 41, .int 0, .int 2, .int 4, .int 10, .int 0, .int (f2 0), .int 3]) (st' := []) rfl rfl rfl ?_
                    refine pm_R_br pm_M185 (pc' := 19) rfl rfl ?_
                    refine pm_R_lo pm_M185 (pc' := 21) rfl rfl rfl ?_
                    refine pm_R_lo pm_M185 (pc' := 22) rfl rfl rfl ?_
                    refine pm_R_br pm_M185 (pc' := 25) (st' := []) rfl rfl ?_
                    refine pm_R_lo pm_M185 (pc' := 26) rfl rfl rfl ?_
                    refine rf_R_get pm_M185 T1558 (pc' := 29) (v := .ref 51) rfl rfl rfl rfl ?_
                    refine pm_R_lo pm_M185 (pc' := 30) rfl rfl rfl ?_
                    refine pm_R_lo pm_M185 (pc' := 31) rfl rfl rfl ?_
                    refine pm_R_lo pm_M185 (pc' := 33) rfl rfl rfl ?_
                    refine sf_R_imulV pm_M185 (pc' := 34) rfl rfl sf_k4 B968 (by decide) (by decide) (by decide) e1521 ?_
                    refine sf_R_iaddV pm_M185 (pc' := 35) rfl rfl sf_k2 B1522 (by decide) (by decide) e1524 ?_
                    refine pm_R_lo pm_M185 (pc' := 37) rfl rfl rfl ?_
                    refine sf_R_iadd pm_M185 (pc' := 38) rfl rfl B1525 sf_k3 (by decide) (by decide) (fun z1564 e1565 B1566 => ?_)
                    refine pm_R_lo pm_M185 (pc' := 39) rfl rfl rfl ?_
                    refine rf_R_get pm_M185 T1558 (pc' := 42) (v := .ref 52) rfl rfl rfl rfl ?_
                    refine pm_R_lo pm_M185 (pc' := 44) rfl rfl rfl ?_
                    refine pm_R_lo pm_M185 (pc' := 46) rfl rfl rfl ?_
                    refine pm_R_op pm_M185 (pc' := 47) (st' := [.int 3, .ref 52, .int z1564, .ref 51]) rfl rfl rfl ?_
                    have e1567 := (F1559.cell (by decide) e1554)
                    refine pm_R_iald pm_M185 (pc' := 48) (v := v1513) rfl e1567 (Nat.lt_of_lt_of_le (by decide) T1558.1) rfl rfl rfl ?_
                    refine rf_R_ist pm_M185 T1558 (pc' := 49) rfl e1560 (by decide) (by decide) (sf_in B1566 (by decide) (by decide)) ⟨_, rfl⟩ rfl (fun h1570 T1571 F1572 e1573 => ?_)
                    have F1574 := F1561.trans F1572 (by decide)
                    have ct1575 : rf_ct 0 (upd (upd (upd (upd f2 (Int32.toNatClampNeg z1526) (m976 14)) (Int32.toNatClampNeg z1538) (m1035 14)) (Int32.toNatClampNeg z1551) (m1413 14)) (Int32.toNatClampNeg z1564) v1513) := ⟨(sf_eqL (Eq.trans (sf_upd_ne (j := Int32.toNatClampNeg 0) B1566 (by decide) (by decide)) (Eq.trans (sf_upd_ne (j := Int32.toNatClampNeg 0) B1553 (by decide) (by decide)) (Eq.trans (sf_upd_ne (j := Int32.toNatClampNeg 0) B1540 (by decide) (by decide)) (Eq.trans (sf_upd_ne (j := Int32.toNatClampNeg 0) B1528 (by decide) (by decide)) rfl)))) (sf_weak B968 (by decide) (by decide))), (sf_eqL (Eq.trans (sf_upd_ne (j := Int32.toNatClampNeg 1) B1566 (by decide) (by decide)) (Eq.trans (sf_upd_ne (j := Int32.toNatClampNeg 1) B1553 (by decide) (by decide)) (Eq.trans (sf_upd_ne (j := Int32.toNatClampNeg 1) B1540 (by decide) (by decide)) (Eq.trans (sf_upd_ne (j := Int32.toNatClampNeg 1) B1528 (by decide) (by decide)) rfl)))) ct4.2)⟩
                    have bd1576 : (m1494 17).toInt = 0 → rf_bd 0 (upd (upd (upd (upd f2 (Int32.toNatClampNeg z1526) (m976 14)) (Int32.toNatClampNeg z1538) (m1035 14)) (Int32.toNatClampNeg z1551) (m1413 14)) (Int32.toNatClampNeg z1564) v1513) := fun z => (sf_pos B1509 (by decide) z)
                    refine pm_R_lo pm_M185 (pc' := 52) (ls' := [.ref 41, .int 0, .int 2, .int 4, .int 10, .int 0, .int (f2 0), .int 4]) (st' := []) rfl rfl rfl ?_
                    refine pm_R_br pm_M185 (pc' := 19) rfl rfl ?_
                    refine pm_R_lo pm_M185 (pc' := 21) rfl rfl rfl ?_
                    refine pm_R_lo pm_M185 (pc' := 22) rfl rfl rfl ?_
                    refine pm_R_br pm_M185 (pc' := 55) (st' := []) rfl rfl ?_
                    refine pm_R_lo pm_M185 (pc' := 56) rfl rfl rfl ?_
                    refine rf_R_get pm_M185 T1571 (pc' := 59) (v := .ref 51) rfl rfl rfl rfl ?_
                    refine pm_R_lo pm_M185 (pc' := 60) rfl rfl rfl ?_
                    refine pm_R_op pm_M185 (pc' := 61) (st' := [.int 0, .ref 51, .int 0, .ref 51]) rfl rfl rfl ?_
                    refine pm_R_iald pm_M185 (pc' := 62) (v := (f2 0)) rfl e1573 (Nat.lt_of_lt_of_le (by decide) T1571.1) rfl (Eq.trans (sf_upd_ne (j := Int32.toNatClampNeg 0) B1566 (by decide) (by decide)) (Eq.trans (sf_upd_ne (j := Int32.toNatClampNeg 0) B1553 (by decide) (by decide)) (Eq.trans (sf_upd_ne (j := Int32.toNatClampNeg 0) B1540 (by decide) (by decide)) (Eq.trans (sf_upd_ne (j := Int32.toNatClampNeg 0) B1528 (by decide) (by decide)) rfl)))) rfl ?_
                    refine pm_R_op pm_M185 (pc' := 63) (st' := [.int 1, .int (f2 0), .int 0, .ref 51]) rfl rfl rfl ?_
                    refine sf_R_iadd pm_M185 (pc' := 64) rfl rfl B968 sf_k1 (by decide) (by decide) (fun z1579 e1580 B1581 => ?_)
                    refine rf_R_ist pm_M185 T1571 (pc' := 65) rfl e1573 (by decide) (by decide) rfl ⟨_, rfl⟩ rfl (fun h1582 T1583 F1584 e1585 => ?_)
                    have F1586 := F1574.trans F1584 (by decide)
                    have ct1587 : rf_ct 0 (upd (upd (upd (upd (upd f2 (Int32.toNatClampNeg z1526) (m976 14)) (Int32.toNatClampNeg z1538) (m1035 14)) (Int32.toNatClampNeg z1551) (m1413 14)) (Int32.toNatClampNeg z1564) v1513) (Int32.toNatClampNeg 0) z1579) := ⟨(sf_eqL rfl (sf_weak B1581 (by decide) (by decide))), (sf_eqL (Eq.trans (show (upd (upd (upd (upd (upd f2 (Int32.toNatClampNeg z1526) (m976 14)) (Int32.toNatClampNeg z1538) (m1035 14)) (Int32.toNatClampNeg z1551) (m1413 14)) (Int32.toNatClampNeg z1564) v1513) (Int32.toNatClampNeg 0) z1579) (Int32.toNatClampNeg 1) = (upd (upd (upd (upd f2 (Int32.toNatClampNeg z1526) (m976 14)) (Int32.toNatClampNeg z1538) (m1035 14)) (Int32.toNatClampNeg z1551) (m1413 14)) (Int32.toNatClampNeg z1564) v1513) (Int32.toNatClampNeg 1) from rfl) (Eq.trans (sf_upd_ne (j := Int32.toNatClampNeg 1) B1566 (by decide) (by decide)) (Eq.trans (sf_upd_ne (j := Int32.toNatClampNeg 1) B1553 (by decide) (by decide)) (Eq.trans (sf_upd_ne (j := Int32.toNatClampNeg 1) B1540 (by decide) (by decide)) (Eq.trans (sf_upd_ne (j := Int32.toNatClampNeg 1) B1528 (by decide) (by decide)) rfl))))) ct4.2)⟩
                    have bd1588 : (m1494 17).toInt = 0 → rf_bd 0 (upd (upd (upd (upd (upd f2 (Int32.toNatClampNeg z1526) (m976 14)) (Int32.toNatClampNeg z1538) (m1035 14)) (Int32.toNatClampNeg z1551) (m1413 14)) (Int32.toNatClampNeg z1564) v1513) (Int32.toNatClampNeg 0) z1579) := fun z => (sf_pos B1509 (by decide) z)
                    refine pm_R_ret pm_M185 (r := none) rfl rfl ?_
                    show pm_R _ 187 134 [.ref 41, .long a0, pm_no, .int a1] [] _ _
                    refine pm_R_op pm_M187 (pc' := 135) (st' := [.int 1]) (pm_q187_1 (Nat.le_of_ble_eq_true rfl)) rfl rfl ?_
                    have B1589 : sf_B 0 600 (m1494 10) := T1583.2.2.1 10
                    exact pm_R_ret pm_M187 (r := some (.int 1)) (pm_q187_1 (Nat.le_of_ble_eq_true rfl)) rfl (K1 m1494 w1495 h1582 T1583 F1586 W1512 (⟨(upd (upd (upd (upd (upd f2 (Int32.toNatClampNeg z1526) (m976 14)) (Int32.toNatClampNeg z1538) (m1035 14)) (Int32.toNatClampNeg z1551) (m1413 14)) (Int32.toNatClampNeg z1564) v1513) (Int32.toNatClampNeg 0) z1579), e1585, ct1587, fun z => (sf_pos B1509 (by decide) z)⟩) (sf_aux80 _ _ _ _ _ _ _ _ X982 X1041 X1419 X1475 X1501))
                · have B1590 : sf_B 0 5 (m1413 14) := sf_leL (Int32.not_lt.mp c1436) B1429 sf_k5
                  refine pm_R_lo pm_M183 (pc' := 32) rfl rfl rfl ?_
                  refine rf_R_get pm_M183 T1432 (pc' := 35) (v := .int (m1413 14)) rfl rfl rfl rfl ?_
                  refine pm_R_lo pm_M183 (pc' := 36) rfl rfl rfl ?_
                  refine pm_R_icmp pm_M183 (t := 53) (pc' := 39) rfl rfl rfl (fun c1591 => ?_) (fun c1591 => absurd (Classical.not_not.mp c1591) (sf_neq1 B1590 sf_kn1 (by decide)))
                  skip
                  refine pm_R_lo pm_M183 (pc' := 54) rfl rfl rfl ?_
                  refine pm_R_cv pm_M183 (pc' := 57) (a := 41) (ra := []) (rest := []) (ls' := [.ref 41, pm_no, pm_no]) rfl rfl (Or.inl rfl) pm_M179 T1432.2.1 rfl (by decide) (Nat.lt_of_lt_of_le (by decide) T1432.1) rfl rfl (Nat.le_of_ble_eq_true rfl) rfl rfl ?_
                  have B1592 : sf_B 0 600 (m1413 10) := T1432.2.2.1 10
                  refine rf_c179 (d := d + 0) T1432  (fun m1595 w1596 h1597 T1598 F1599 W1600 X1601 X1602 => ?_)
                  have F1603 := F1435.trans F1599 (by decide)
                  have B1604 : sf_B 1 4 (m1595 17) := by rw [W1600 17 (by decide)]; exact B1422
                  have ek1605 : (m1595 17).toInt = ((m1008 17)).toInt := by rw [W1600 17 (by decide)]; exact ek1423
                  have B1606 : sf_B 0 0 (m1595 22) := by rw [W1600 22 (by decide)]; exact B1424
                  have W1607 : rf_W [10, 12, 13, 14, 16, 17, 18, 22] m m1595 := W1425.trans W1600 (by decide)
                  show pm_R _ 183 57 [.ref 41, .int 2, .int 5, .int (-1)] [] _ _
                  refine pm_R_op pm_M183 (pc' := 58) (st' := [.int 1]) rfl rfl rfl ?_
                  refine pm_R_ret pm_M183 (r := some (.int 1)) rfl rfl ?_
                  show pm_R _ 187 112 [.ref 41, .long a0, pm_no, .int a1] [.int 1] _ _
                  refine pm_R_br pm_M187 (pc' := 115) (st' := []) (pm_q187_1 (Nat.le_of_ble_eq_true rfl)) rfl ?_
                  refine pm_R_lo pm_M187 (pc' := 116) (pm_q187_1 (Nat.le_of_ble_eq_true rfl)) rfl rfl ?_
                  refine pm_R_cv pm_M187 (pc' := 119) (a := 41) (ra := []) (rest := []) (ls' := [.ref 41, pm_no, pm_no]) (pm_q187_1 (Nat.le_of_ble_eq_true rfl)) rfl (Or.inl rfl) pm_M188 T1598.2.1 rfl (by decide) (Nat.lt_of_lt_of_le (by decide) T1598.1) rfl rfl (Nat.le_of_ble_eq_true rfl) rfl rfl ?_
                  have e1608 := (F1599.cell (by decide) e1434)
                  refine rf_c188 (d := d + 0) T1598  (fun m1611 w1612 h1613 T1614 F1615 W1616 X1617 => ?_) (fun m1620 w1621 h1622 T1623 F1624 W1625 X1626 X1627 => ?_)
                  · have F1628 := F1603.trans F1615 (by decide)
                    have B1629 : sf_B 1 4 (m1611 17) := by rw [W1616 17 (by decide)]; exact B1604
                    have ek1630 : (m1611 17).toInt = ((m1008 17)).toInt := by rw [W1616 17 (by decide)]; exact ek1605
                    have B1631 : sf_B 0 0 (m1611 22) := by rw [W1616 22 (by decide)]; exact B1606
                    have W1632 : rf_W [10, 12, 13, 14, 16, 17, 18, 22] m m1611 := W1607.trans W1616 (by decide)
                    show pm_R _ 187 119 [.ref 41, .long a0, pm_no, .int a1] [.int 0] _ _
                    refine pm_R_br pm_M187 (pc' := 122) (st' := []) (pm_q187_1 (Nat.le_of_ble_eq_true rfl)) rfl ?_
                    refine pm_R_op pm_M187 (pc' := 123) (st' := [.int 0]) (pm_q187_1 (Nat.le_of_ble_eq_true rfl)) rfl rfl ?_
                    have B1633 : sf_B 0 600 (m1611 10) := T1614.2.2.1 10
                    exact pm_R_ret pm_M187 (r := some (.int 0)) (pm_q187_1 (Nat.le_of_ble_eq_true rfl)) rfl (K0 m1611 w1612 h1613 T1614 F1628 W1632 (sf_aux81 _ _ _ _ _ _ _ X982 X1041 X1419 X1601 X1617))
                  · have F1634 := F1603.trans F1624 (by decide)
                    have B1635 : sf_B 1 4 (m1620 17) := by rw [W1625 17 (by decide)]; exact B1604
                    have ek1636 : (m1620 17).toInt = ((m1008 17)).toInt := by rw [W1625 17 (by decide)]; exact ek1605
                    have B1637 : sf_B 0 0 (m1620 22) := by rw [W1625 22 (by decide)]; exact B1606
                    have W1638 : rf_W [10, 12, 13, 14, 16, 17, 18, 22] m m1620 := W1607.trans W1625 (by decide)
                    show pm_R _ 187 119 [.ref 41, .long a0, pm_no, .int a1] [.int 1] _ _
                    obtain ⟨v1639, B1640, e1641⟩ := X1626 _ e1608
                    refine pm_R_br pm_M187 (pc' := 124) (st' := []) (pm_q187_1 (Nat.le_of_ble_eq_true rfl)) rfl ?_
                    refine pm_R_lo pm_M187 (pc' := 125) (pm_q187_1 (Nat.le_of_ble_eq_true rfl)) rfl rfl ?_
                    refine pm_R_op pm_M187 (pc' := 126) (st' := [.int 0, .ref 41]) (pm_q187_1 (Nat.le_of_ble_eq_true rfl)) rfl rfl ?_
                    refine pm_R_op pm_M187 (pc' := 127) (st' := [.int 2, .int 0, .ref 41]) (pm_q187_1 (Nat.le_of_ble_eq_true rfl)) rfl rfl ?_
                    refine pm_R_op pm_M187 (pc' := 128) (st' := [.int 4, .int 2, .int 0, .ref 41]) (pm_q187_1 (Nat.le_of_ble_eq_true rfl)) rfl rfl ?_
                    refine pm_R_op pm_M187 (pc' := 130) (st' := [.int 10, .int 4, .int 2, .int 0, .ref 41]) (pm_q187_1 (Nat.le_of_ble_eq_true rfl)) rfl rfl ?_
                    refine pm_R_op pm_M187 (pc' := 131) (st' := [.int 0, .int 10, .int 4, .int 2, .int 0, .ref 41]) (pm_q187_1 (Nat.le_of_ble_eq_true rfl)) rfl rfl ?_
                    refine pm_R_cv pm_M187 (pc' := 134) (a := 41) (ra := [.int 0, .int 10, .int 4, .int 2, .int 0]) (rest := []) (ls' := [.ref 41, .int 0, .int 2, .int 4, .int 10, .int 0, pm_no, pm_no]) (pm_q187_1 (Nat.le_of_ble_eq_true rfl)) rfl (Or.inl rfl) pm_M185 T1623.2.1 rfl (by decide) (Nat.lt_of_lt_of_le (by decide) T1623.1) rfl rfl (Nat.le_of_ble_eq_true rfl) rfl rfl ?_
                    refine pm_R_lo pm_M185 (pc' := 1) rfl rfl rfl ?_
                    refine rf_R_get pm_M185 T1623 (pc' := 4) (v := .ref 51) rfl rfl rfl rfl ?_
                    refine pm_R_lo pm_M185 (pc' := 5) rfl rfl rfl ?_
                    have e1642 := (F1624.cell (by decide) (F1599.cell (by decide) (F1433.cell (by decide) (F1417.cell (by decide) (F1055.cell (by decide) (F1039.cell (by decide) (F1021.cell (by decide) (F1012.cell (by decide) (F1000.cell (by decide) (F980.cell (by decide) e3))))))))))
                    refine pm_R_iald pm_M185 (pc' := 6) (v := (f2 0)) rfl e1642 (Nat.lt_of_lt_of_le (by decide) T1623.1) rfl rfl rfl ?_
                    refine pm_R_lo pm_M185 (pc' := 8) (ls' := [.ref 41, .int 0, .int 2, .int 4, .int 10, .int 0, .int (f2 0), pm_no]) (st' := []) rfl rfl rfl ?_
                    refine pm_R_lo pm_M185 (pc' := 10) rfl rfl rfl ?_
                    refine pm_R_lo pm_M185 (pc' := 12) rfl rfl rfl ?_
                    refine pm_R_icmp pm_M185 (t := 16) (pc' := 15) rfl rfl rfl (fun c1645 => ?_) (fun c1645 => absurd (Classical.not_not.mp c1645) (sf_neq2 B968 sf_k10 (by decide)))
                    skip
                    refine pm_R_op pm_M185 (pc' := 17) (st' := [.int 0]) rfl rfl rfl ?_
                    refine pm_R_lo pm_M185 (pc' := 19) (ls' := [.ref 41, .int 0, .int 2, .int 4, .int 10, .int 0, .int (f2 0), .int 0]) (st' := []) rfl rfl rfl ?_
                    refine pm_R_lo pm_M185 (pc' := 21) rfl rfl rfl ?_
                    refine pm_R_lo pm_M185 (pc' := 22) rfl rfl rfl ?_
                    refine pm_R_br pm_M185 (pc' := 25) (st' := []) rfl rfl ?_
                    refine pm_R_lo pm_M185 (pc' := 26) rfl rfl rfl ?_
                    refine rf_R_get pm_M185 T1623 (pc' := 29) (v := .ref 51) rfl rfl rfl rfl ?_
                    refine pm_R_lo pm_M185 (pc' := 30) rfl rfl rfl ?_
                    refine pm_R_lo pm_M185 (pc' := 31) rfl rfl rfl ?_
                    refine pm_R_lo pm_M185 (pc' := 33) rfl rfl rfl ?_
                    refine sf_R_imul pm_M185 (pc' := 34) rfl rfl sf_k4 B968 (by decide) (by decide) (by decide) (fun z1646 e1647 B1648 => ?_)
                    refine sf_R_iadd pm_M185 (pc' := 35) rfl rfl sf_k2 B1648 (by decide) (by decide) (fun z1649 e1650 B1651 => ?_)
                    refine pm_R_lo pm_M185 (pc' := 37) rfl rfl rfl ?_
                    refine sf_R_iadd pm_M185 (pc' := 38) rfl rfl B1651 sf_k0 (by decide) (by decide) (fun z1652 e1653 B1654 => ?_)
                    refine pm_R_lo pm_M185 (pc' := 39) rfl rfl rfl ?_
                    refine rf_R_get pm_M185 T1623 (pc' := 42) (v := .ref 52) rfl rfl rfl rfl ?_
                    refine pm_R_lo pm_M185 (pc' := 44) rfl rfl rfl ?_
                    refine pm_R_lo pm_M185 (pc' := 46) rfl rfl rfl ?_
                    refine pm_R_op pm_M185 (pc' := 47) (st' := [.int 0, .ref 52, .int z1652, .ref 51]) rfl rfl rfl ?_
                    refine pm_R_iald pm_M185 (pc' := 48) (v := (m976 14)) rfl e1641 (Nat.lt_of_lt_of_le (by decide) T1623.1) rfl (Eq.trans (show (upd (upd (upd (upd f995 (Int32.toNatClampNeg 0) (m976 14)) (Int32.toNatClampNeg 1) (m1035 14)) (Int32.toNatClampNeg 2) (m1413 14)) (Int32.toNatClampNeg 3) v1639) (Int32.toNatClampNeg 0) = (upd (upd (upd f995 (Int32.toNatClampNeg 0) (m976 14)) (Int32.toNatClampNeg 1) (m1035 14)) (Int32.toNatClampNeg 2) (m1413 14)) (Int32.toNatClampNeg 0) from rfl) (Eq.trans (show (upd (upd (upd f995 (Int32.toNatClampNeg 0) (m976 14)) (Int32.toNatClampNeg 1) (m1035 14)) (Int32.toNatClampNeg 2) (m1413 14)) (Int32.toNatClampNeg 0) = (upd (upd f995 (Int32.toNatClampNeg 0) (m976 14)) (Int32.toNatClampNeg 1) (m1035 14)) (Int32.toNatClampNeg 0) from rfl) (Eq.trans (show (upd (upd f995 (Int32.toNatClampNeg 0) (m976 14)) (Int32.toNatClampNeg 1) (m1035 14)) (Int32.toNatClampNeg 0) = (upd f995 (Int32.toNatClampNeg 0) (m976 14)) (Int32.toNatClampNeg 0) from rfl) rfl))) rfl ?_
                    refine rf_R_ist pm_M185 T1623 (pc' := 49) rfl e1642 (by decide) (by decide) (sf_in B1654 (by decide) (by decide)) ⟨_, rfl⟩ rfl (fun h1657 T1658 F1659 e1660 => ?_)
                    have F1661 := F1634.trans F1659 (by decide)
                    have ct1662 : rf_ct 0 (upd f2 (Int32.toNatClampNeg z1652) (m976 14)) := ⟨(sf_eqL (Eq.trans (sf_upd_ne (j := Int32.toNatClampNeg 0) B1654 (by decide) (by decide)) rfl) (sf_weak B968 (by decide) (by decide))), (sf_eqL (Eq.trans (sf_upd_ne (j := Int32.toNatClampNeg 1) B1654 (by decide) (by decide)) rfl) ct4.2)⟩
                    have bd1663 : (m1620 17).toInt = 0 → rf_bd 0 (upd f2 (Int32.toNatClampNeg z1652) (m976 14)) := fun z => (sf_pos B1635 (by decide) z)
                    refine pm_R_lo pm_M185 (pc' := 52) (ls' := [.ref 41, .int 0, .int 2, .int 4, .int 10, .int 0, .int (f2 0), .int 1]) (st' := []) rfl rfl rfl ?_
                    refine pm_R_br pm_M185 (pc' := 19) rfl rfl ?_
                    refine pm_R_lo pm_M185 (pc' := 21) rfl rfl rfl ?_
                    refine pm_R_lo pm_M185 (pc' := 22) rfl rfl rfl ?_
                    refine pm_R_br pm_M185 (pc' := 25) (st' := []) rfl rfl ?_
                    refine pm_R_lo pm_M185 (pc' := 26) rfl rfl rfl ?_
                    refine rf_R_get pm_M185 T1658 (pc' := 29) (v := .ref 51) rfl rfl rfl rfl ?_
                    refine pm_R_lo pm_M185 (pc' := 30) rfl rfl rfl ?_
                    refine pm_R_lo pm_M185 (pc' := 31) rfl rfl rfl ?_
                    refine pm_R_lo pm_M185 (pc' := 33) rfl rfl rfl ?_
                    refine sf_R_imulV pm_M185 (pc' := 34) rfl rfl sf_k4 B968 (by decide) (by decide) (by decide) e1647 ?_
                    refine sf_R_iaddV pm_M185 (pc' := 35) rfl rfl sf_k2 B1648 (by decide) (by decide) e1650 ?_
                    refine pm_R_lo pm_M185 (pc' := 37) rfl rfl rfl ?_
                    refine sf_R_iadd pm_M185 (pc' := 38) rfl rfl B1651 sf_k1 (by decide) (by decide) (fun z1664 e1665 B1666 => ?_)
                    refine pm_R_lo pm_M185 (pc' := 39) rfl rfl rfl ?_
                    refine rf_R_get pm_M185 T1658 (pc' := 42) (v := .ref 52) rfl rfl rfl rfl ?_
                    refine pm_R_lo pm_M185 (pc' := 44) rfl rfl rfl ?_
                    refine pm_R_lo pm_M185 (pc' := 46) rfl rfl rfl ?_
                    refine pm_R_op pm_M185 (pc' := 47) (st' := [.int 1, .ref 52, .int z1664, .ref 51]) rfl rfl rfl ?_
                    have e1667 := (F1659.cell (by decide) e1641)
                    refine pm_R_iald pm_M185 (pc' := 48) (v := (m1035 14)) rfl e1667 (Nat.lt_of_lt_of_le (by decide) T1658.1) rfl (Eq.trans (show (upd (upd (upd (upd f995 (Int32.toNatClampNeg 0) (m976 14)) (Int32.toNatClampNeg 1) (m1035 14)) (Int32.toNatClampNeg 2) (m1413 14)) (Int32.toNatClampNeg 3) v1639) (Int32.toNatClampNeg 1) = (upd (upd (upd f995 (Int32.toNatClampNeg 0) (m976 14)) (Int32.toNatClampNeg 1) (m1035 14)) (Int32.toNatClampNeg 2) (m1413 14)) (Int32.toNatClampNeg 1) from rfl) (Eq.trans (show (upd (upd (upd f995 (Int32.toNatClampNeg 0) (m976 14)) (Int32.toNatClampNeg 1) (m1035 14)) (Int32.toNatClampNeg 2) (m1413 14)) (Int32.toNatClampNeg 1) = (upd (upd f995 (Int32.toNatClampNeg 0) (m976 14)) (Int32.toNatClampNeg 1) (m1035 14)) (Int32.toNatClampNeg 1) from rfl) rfl)) rfl ?_
                    refine rf_R_ist pm_M185 T1658 (pc' := 49) rfl e1660 (by decide) (by decide) (sf_in B1666 (by decide) (by decide)) ⟨_, rfl⟩ rfl (fun h1670 T1671 F1672 e1673 => ?_)
                    have F1674 := F1661.trans F1672 (by decide)
                    have ct1675 : rf_ct 0 (upd (upd f2 (Int32.toNatClampNeg z1652) (m976 14)) (Int32.toNatClampNeg z1664) (m1035 14)) := ⟨(sf_eqL (Eq.trans (sf_upd_ne (j := Int32.toNatClampNeg 0) B1666 (by decide) (by decide)) (Eq.trans (sf_upd_ne (j := Int32.toNatClampNeg 0) B1654 (by decide) (by decide)) rfl)) (sf_weak B968 (by decide) (by decide))), (sf_eqL (Eq.trans (sf_upd_ne (j := Int32.toNatClampNeg 1) B1666 (by decide) (by decide)) (Eq.trans (sf_upd_ne (j := Int32.toNatClampNeg 1) B1654 (by decide) (by decide)) rfl)) ct4.2)⟩
                    have bd1676 : (m1620 17).toInt = 0 → rf_bd 0 (upd (upd f2 (Int32.toNatClampNeg z1652) (m976 14)) (Int32.toNatClampNeg z1664) (m1035 14)) := fun z => (sf_pos B1635 (by decide) z)
                    refine pm_R_lo pm_M185 (pc' := 52) (ls' := [.ref 41, .int 0, .int 2, .int 4, .int 10, .int 0, .int (f2 0), .int 2]) (st' := []) rfl rfl rfl ?_
                    refine pm_R_br pm_M185 (pc' := 19) rfl rfl ?_
                    refine pm_R_lo pm_M185 (pc' := 21) rfl rfl rfl ?_
                    refine pm_R_lo pm_M185 (pc' := 22) rfl rfl rfl ?_
                    refine pm_R_br pm_M185 (pc' := 25) (st' := []) rfl rfl ?_
                    refine pm_R_lo pm_M185 (pc' := 26) rfl rfl rfl ?_
                    refine rf_R_get pm_M185 T1671 (pc' := 29) (v := .ref 51) rfl rfl rfl rfl ?_
                    refine pm_R_lo pm_M185 (pc' := 30) rfl rfl rfl ?_
                    refine pm_R_lo pm_M185 (pc' := 31) rfl rfl rfl ?_
                    refine pm_R_lo pm_M185 (pc' := 33) rfl rfl rfl ?_
                    refine sf_R_imulV pm_M185 (pc' := 34) rfl rfl sf_k4 B968 (by decide) (by decide) (by decide) e1647 ?_
                    refine sf_R_iaddV pm_M185 (pc' := 35) rfl rfl sf_k2 B1648 (by decide) (by decide) e1650 ?_
                    refine pm_R_lo pm_M185 (pc' := 37) rfl rfl rfl ?_
                    refine sf_R_iadd pm_M185 (pc' := 38) rfl rfl B1651 sf_k2 (by decide) (by decide) (fun z1677 e1678 B1679 => ?_)
                    refine pm_R_lo pm_M185 (pc' := 39) rfl rfl rfl ?_
                    refine rf_R_get pm_M185 T1671 (pc' := 42) (v := .ref 52) rfl rfl rfl rfl ?_
                    refine pm_R_lo pm_M185 (pc' := 44) rfl rfl rfl ?_
                    refine pm_R_lo pm_M185 (pc' := 46) rfl rfl rfl ?_
                    refine pm_R_op pm_M185 (pc' := 47) (st' := [.int 2, .ref 52, .int z1677, .ref 51]) rfl rfl rfl ?_
                    have e1680 := (F1672.cell (by decide) e1667)
                    refine pm_R_iald pm_M185 (pc' := 48) (v := (m1413 14)) rfl e1680 (Nat.lt_of_lt_of_le (by decide) T1671.1) rfl (Eq.trans (show (upd (upd (upd (upd f995 (Int32.toNatClampNeg 0) (m976 14)) (Int32.toNatClampNeg 1) (m1035 14)) (Int32.toNatClampNeg 2) (m1413 14)) (Int32.toNatClampNeg 3) v1639) (Int32.toNatClampNeg 2) = (upd (upd (upd f995 (Int32.toNatClampNeg 0) (m976 14)) (Int32.toNatClampNeg 1) (m1035 14)) (Int32.toNatClampNeg 2) (m1413 14)) (Int32.toNatClampNeg 2) from rfl) rfl) rfl ?_
                    refine rf_R_ist pm_M185 T1671 (pc' := 49) rfl e1673 (by decide) (by decide) (sf_in B1679 (by decide) (by decide)) ⟨_, rfl⟩ rfl (fun h1683 T1684 F1685 e1686 => ?_)
                    have F1687 := F1674.trans F1685 (by decide)
                    have ct1688 : rf_ct 0 (upd (upd (upd f2 (Int32.toNatClampNeg z1652) (m976 14)) (Int32.toNatClampNeg z1664) (m1035 14)) (Int32.toNatClampNeg z1677) (m1413 14)) := ⟨(sf_eqL (Eq.trans (sf_upd_ne (j := Int32.toNatClampNeg 0) B1679 (by decide) (by decide)) (Eq.trans (sf_upd_ne (j := Int32.toNatClampNeg 0) B1666 (by decide) (by decide)) (Eq.trans (sf_upd_ne (j := Int32.toNatClampNeg 0) B1654 (by decide) (by decide)) rfl))) (sf_weak B968 (by decide) (by decide))), (sf_eqL (Eq.trans (sf_upd_ne (j := Int32.toNatClampNeg 1) B1679 (by decide) (by decide)) (Eq.trans (sf_upd_ne (j := Int32.toNatClampNeg 1) B1666 (by decide) (by decide)) (Eq.trans (sf_upd_ne (j := Int32.toNatClampNeg 1) B1654 (by decide) (by decide)) rfl))) ct4.2)⟩
                    have bd1689 : (m1620 17).toInt = 0 → rf_bd 0 (upd (upd (upd f2 (Int32.toNatClampNeg z1652) (m976 14)) (Int32.toNatClampNeg z1664) (m1035 14)) (Int32.toNatClampNeg z1677) (m1413 14)) := fun z => (sf_pos B1635 (by decide) z)
                    refine pm_R_lo pm_M185 (pc' := 52) (ls' := [.ref 41, .int 0, .int 2, .int 4, .int 10, .int 0, .int (f2 0), .int 3]) (st' := []) rfl rfl rfl ?_
                    refine pm_R_br pm_M185 (pc' := 19) rfl rfl ?_
                    refine pm_R_lo pm_M185 (pc' := 21) rfl rfl rfl ?_
                    refine pm_R_lo pm_M185 (pc' := 22) rfl rfl rfl ?_
                    refine pm_R_br pm_M185 (pc' := 25) (st' := []) rfl rfl ?_
                    refine pm_R_lo pm_M185 (pc' := 26) rfl rfl rfl ?_
                    refine rf_R_get pm_M185 T1684 (pc' := 29) (v := .ref 51) rfl rfl rfl rfl ?_
                    refine pm_R_lo pm_M185 (pc' := 30) rfl rfl rfl ?_
                    refine pm_R_lo pm_M185 (pc' := 31) rfl rfl rfl ?_
                    refine pm_R_lo pm_M185 (pc' := 33) rfl rfl rfl ?_
                    refine sf_R_imulV pm_M185 (pc' := 34) rfl rfl sf_k4 B968 (by decide) (by decide) (by decide) e1647 ?_
                    refine sf_R_iaddV pm_M185 (pc' := 35) rfl rfl sf_k2 B1648 (by decide) (by decide) e1650 ?_
                    refine pm_R_lo pm_M185 (pc' := 37) rfl rfl rfl ?_
                    refine sf_R_iadd pm_M185 (pc' := 38) rfl rfl B1651 sf_k3 (by decide) (by decide) (fun z1690 e1691 B1692 => ?_)
                    refine pm_R_lo pm_M185 (pc' := 39) rfl rfl rfl ?_
                    refine rf_R_get pm_M185 T1684 (pc' := 42) (v := .ref 52) rfl rfl rfl rfl ?_
                    refine pm_R_lo pm_M185 (pc' := 44) rfl rfl rfl ?_
                    refine pm_R_lo pm_M185 (pc' := 46) rfl rfl rfl ?_
                    refine pm_R_op pm_M185 (pc' := 47) (st' := [.int 3, .ref 52, .int z1690, .ref 51]) rfl rfl rfl ?_
                    have e1693 := (F1685.cell (by decide) e1680)
                    refine pm_R_iald pm_M185 (pc' := 48) (v := v1639) rfl e1693 (Nat.lt_of_lt_of_le (by decide) T1684.1) rfl rfl rfl ?_
                    refine rf_R_ist pm_M185 T1684 (pc' := 49) rfl e1686 (by decide) (by decide) (sf_in B1692 (by decide) (by decide)) ⟨_, rfl⟩ rfl (fun h1696 T1697 F1698 e1699 => ?_)
                    have F1700 := F1687.trans F1698 (by decide)
                    have ct1701 : rf_ct 0 (upd (upd (upd (upd f2 (Int32.toNatClampNeg z1652) (m976 14)) (Int32.toNatClampNeg z1664) (m1035 14)) (Int32.toNatClampNeg z1677) (m1413 14)) (Int32.toNatClampNeg z1690) v1639) := ⟨(sf_eqL (Eq.trans (sf_upd_ne (j := Int32.toNatClampNeg 0) B1692 (by decide) (by decide)) (Eq.trans (sf_upd_ne (j := Int32.toNatClampNeg 0) B1679 (by decide) (by decide)) (Eq.trans (sf_upd_ne (j := Int32.toNatClampNeg 0) B1666 (by decide) (by decide)) (Eq.trans (sf_upd_ne (j := Int32.toNatClampNeg 0) B1654 (by decide) (by decide)) rfl)))) (sf_weak B968 (by decide) (by decide))), (sf_eqL (Eq.trans (sf_upd_ne (j := Int32.toNatClampNeg 1) B1692 (by decide) (by decide)) (Eq.trans (sf_upd_ne (j := Int32.toNatClampNeg 1) B1679 (by decide) (by decide)) (Eq.trans (sf_upd_ne (j := Int32.toNatClampNeg 1) B1666 (by decide) (by decide)) (Eq.trans (sf_upd_ne (j := Int32.toNatClampNeg 1) B1654 (by decide) (by decide)) rfl)))) ct4.2)⟩
                    have bd1702 : (m1620 17).toInt = 0 → rf_bd 0 (upd (upd (upd (upd f2 (Int32.toNatClampNeg z1652) (m976 14)) (Int32.toNatClampNeg z1664) (m1035 14)) (Int32.toNatClampNeg z1677) (m1413 14)) (Int32.toNatClampNeg z1690) v1639) := fun z => (sf_pos B1635 (by decide) z)
                    refine pm_R_lo pm_M185 (pc' := 52) (ls' := [.ref 41, .int 0, .int 2, .int 4, .int 10, .int 0, .int (f2 0), .int 4]) (st' := []) rfl rfl rfl ?_
                    refine pm_R_br pm_M185 (pc' := 19) rfl rfl ?_
                    refine pm_R_lo pm_M185 (pc' := 21) rfl rfl rfl ?_
                    refine pm_R_lo pm_M185 (pc' := 22) rfl rfl rfl ?_
                    refine pm_R_br pm_M185 (pc' := 55) (st' := []) rfl rfl ?_
                    refine pm_R_lo pm_M185 (pc' := 56) rfl rfl rfl ?_
                    refine rf_R_get pm_M185 T1697 (pc' := 59) (v := .ref 51) rfl rfl rfl rfl ?_
                    refine pm_R_lo pm_M185 (pc' := 60) rfl rfl rfl ?_
                    refine pm_R_op pm_M185 (pc' := 61) (st' := [.int 0, .ref 51, .int 0, .ref 51]) rfl rfl rfl ?_
                    refine pm_R_iald pm_M185 (pc' := 62) (v := (f2 0)) rfl e1699 (Nat.lt_of_lt_of_le (by decide) T1697.1) rfl (Eq.trans (sf_upd_ne (j := Int32.toNatClampNeg 0) B1692 (by decide) (by decide)) (Eq.trans (sf_upd_ne (j := Int32.toNatClampNeg 0) B1679 (by decide) (by decide)) (Eq.trans (sf_upd_ne (j := Int32.toNatClampNeg 0) B1666 (by decide) (by decide)) (Eq.trans (sf_upd_ne (j := Int32.toNatClampNeg 0) B1654 (by decide) (by decide)) rfl)))) rfl ?_
                    refine pm_R_op pm_M185 (pc' := 63) (st' := [.int 1, .int (f2 0), .int 0, .ref 51]) rfl rfl rfl ?_
                    refine sf_R_iadd pm_M185 (pc' := 64) rfl rfl B968 sf_k1 (by decide) (by decide) (fun z1705 e1706 B1707 => ?_)
                    refine rf_R_ist pm_M185 T1697 (pc' := 65) rfl e1699 (by decide) (by decide) rfl ⟨_, rfl⟩ rfl (fun h1708 T1709 F1710 e1711 => ?_)
                    have F1712 := F1700.trans F1710 (by decide)
                    have ct1713 : rf_ct 0 (upd (upd (upd (upd (upd f2 (Int32.toNatClampNeg z1652) (m976 14)) (Int32.toNatClampNeg z1664) (m1035 14)) (Int32.toNatClampNeg z1677) (m1413 14)) (Int32.toNatClampNeg z1690) v1639) (Int32.toNatClampNeg 0) z1705) := ⟨(sf_eqL rfl (sf_weak B1707 (by decide) (by decide))), (sf_eqL (Eq.trans (show (upd (upd (upd (upd (upd f2 (Int32.toNatClampNeg z1652) (m976 14)) (Int32.toNatClampNeg z1664) (m1035 14)) (Int32.toNatClampNeg z1677) (m1413 14)) (Int32.toNatClampNeg z1690) v1639) (Int32.toNatClampNeg 0) z1705) (Int32.toNatClampNeg 1) = (upd (upd (upd (upd f2 (Int32.toNatClampNeg z1652) (m976 14)) (Int32.toNatClampNeg z1664) (m1035 14)) (Int32.toNatClampNeg z1677) (m1413 14)) (Int32.toNatClampNeg z1690) v1639) (Int32.toNatClampNeg 1) from rfl) (Eq.trans (sf_upd_ne (j := Int32.toNatClampNeg 1) B1692 (by decide) (by decide)) (Eq.trans (sf_upd_ne (j := Int32.toNatClampNeg 1) B1679 (by decide) (by decide)) (Eq.trans (sf_upd_ne (j := Int32.toNatClampNeg 1) B1666 (by decide) (by decide)) (Eq.trans (sf_upd_ne (j := Int32.toNatClampNeg 1) B1654 (by decide) (by decide)) rfl))))) ct4.2)⟩
                    have bd1714 : (m1620 17).toInt = 0 → rf_bd 0 (upd (upd (upd (upd (upd f2 (Int32.toNatClampNeg z1652) (m976 14)) (Int32.toNatClampNeg z1664) (m1035 14)) (Int32.toNatClampNeg z1677) (m1413 14)) (Int32.toNatClampNeg z1690) v1639) (Int32.toNatClampNeg 0) z1705) := fun z => (sf_pos B1635 (by decide) z)
                    refine pm_R_ret pm_M185 (r := none) rfl rfl ?_
                    show pm_R _ 187 134 [.ref 41, .long a0, pm_no, .int a1] [] _ _
                    refine pm_R_op pm_M187 (pc' := 135) (st' := [.int 1]) (pm_q187_1 (Nat.le_of_ble_eq_true rfl)) rfl rfl ?_
                    have B1715 : sf_B 0 600 (m1620 10) := T1709.2.2.1 10
                    exact pm_R_ret pm_M187 (r := some (.int 1)) (pm_q187_1 (Nat.le_of_ble_eq_true rfl)) rfl (K1 m1620 w1621 h1708 T1709 F1712 W1638 (⟨(upd (upd (upd (upd (upd f2 (Int32.toNatClampNeg z1652) (m976 14)) (Int32.toNatClampNeg z1664) (m1035 14)) (Int32.toNatClampNeg z1677) (m1413 14)) (Int32.toNatClampNeg z1690) v1639) (Int32.toNatClampNeg 0) z1705), e1711, ct1713, fun z => (sf_pos B1635 (by decide) z)⟩) (sf_aux81 _ _ _ _ _ _ _ X982 X1041 X1419 X1601 X1627))
              · skip
                refine pm_R_lo pm_M183 (pc' := 9) rfl rfl rfl ?_
                refine pm_R_cv pm_M183 (pc' := 12) (a := 41) (ra := []) (rest := []) (ls' := [.ref 41]) rfl rfl (Or.inl rfl) pm_M184 T1416.2.1 rfl (by decide) (Nat.lt_of_lt_of_le (by decide) T1416.1) rfl rfl (Nat.le_of_ble_eq_true rfl) rfl rfl ?_
                refine pm_R_lo pm_M184 (pc' := 1) rfl rfl rfl ?_
                refine pm_R_lo pm_M184 (pc' := 2) rfl rfl rfl ?_
                have B1716 : sf_B 0 600 (m1413 12) := T1416.2.2.1 12
                refine rf_R_get pm_M184 T1416 (pc' := 5) (v := .int (m1413 12)) rfl rfl rfl rfl ?_
                refine rf_R_put pm_M184 T1416 (pc' := 8) rfl rfl rfl (by decide) rfl rfl B1716 rfl rfl (fun h1717 m1720 em1721 T1718 F1719 => ?_)
                have F1722 := F1421.trans F1719 (by decide)
                have B1723 : sf_B 1 4 (m1720 17) := by rw [em1721]; exact B1422
                have ek1724 : (m1720 17).toInt = ((m1008 17)).toInt := by rw [em1721]; exact ek1423
                have B1725 : sf_B 0 0 (m1720 22) := by rw [em1721]; exact B1424
                have B1726 : sf_B 0 600 (m1720 16) := by rw [em1721]; exact B1716
                have ek1727 : (m1720 16).toInt = ((m1413 12)).toInt := by rw [em1721]; rfl
                have W1728 : rf_W [10, 12, 13, 14, 16, 17, 18, 22] m m1720 := by rw [em1721]; exact W1425.put (by decide)
                refine pm_R_op pm_M184 (pc' := 9) (st' := [.int 0]) rfl rfl rfl ?_
                refine pm_R_ret pm_M184 (r := some (.int 0)) rfl rfl ?_
                show pm_R _ 183 12 [.ref 41, .int 2, .int 5, .int (-1)] [.int 0] _ _
                refine pm_R_ret pm_M183 (r := some (.int 0)) rfl rfl ?_
                show pm_R _ 187 112 [.ref 41, .long a0, pm_no, .int a1] [.int 0] _ _
                refine pm_R_br pm_M187 (pc' := 122) (st' := []) (pm_q187_1 (Nat.le_of_ble_eq_true rfl)) rfl ?_
                refine pm_R_op pm_M187 (pc' := 123) (st' := [.int 0]) (pm_q187_1 (Nat.le_of_ble_eq_true rfl)) rfl rfl ?_
                have B1729 : sf_B 0 600 (m1720 10) := T1718.2.2.1 10
                exact pm_R_ret pm_M187 (r := some (.int 0)) (pm_q187_1 (Nat.le_of_ble_eq_true rfl)) rfl (K0 m1720 w1414 h1717 T1718 F1722 W1728 (sf_aux82 _ _ _ _ _ _ X982 X1041 X1419))
          · skip
            refine pm_R_lo pm_M183 (pc' := 9) rfl rfl rfl ?_
            refine pm_R_cv pm_M183 (pc' := 12) (a := 41) (ra := []) (rest := []) (ls' := [.ref 41]) rfl rfl (Or.inl rfl) pm_M184 T1038.2.1 rfl (by decide) (Nat.lt_of_lt_of_le (by decide) T1038.1) rfl rfl (Nat.le_of_ble_eq_true rfl) rfl rfl ?_
            refine pm_R_lo pm_M184 (pc' := 1) rfl rfl rfl ?_
            refine pm_R_lo pm_M184 (pc' := 2) rfl rfl rfl ?_
            have B1730 : sf_B 0 600 (m1035 12) := T1038.2.2.1 12
            refine rf_R_get pm_M184 T1038 (pc' := 5) (v := .int (m1035 12)) rfl rfl rfl rfl ?_
            refine rf_R_put pm_M184 T1038 (pc' := 8) rfl rfl rfl (by decide) rfl rfl B1730 rfl rfl (fun h1731 m1734 em1735 T1732 F1733 => ?_)
            have F1736 := F1043.trans F1733 (by decide)
            have B1737 : sf_B 1 4 (m1734 17) := by rw [em1735]; exact B1044
            have ek1738 : (m1734 17).toInt = ((m1008 17)).toInt := by rw [em1735]; exact ek1045
            have B1739 : sf_B 0 0 (m1734 22) := by rw [em1735]; exact B1046
            have B1740 : sf_B 0 600 (m1734 16) := by rw [em1735]; exact B1730
            have ek1741 : (m1734 16).toInt = ((m1035 12)).toInt := by rw [em1735]; rfl
            have W1742 : rf_W [10, 12, 13, 14, 16, 17, 18, 22] m m1734 := by rw [em1735]; exact W1047.put (by decide)
            refine pm_R_op pm_M184 (pc' := 9) (st' := [.int 0]) rfl rfl rfl ?_
            refine pm_R_ret pm_M184 (r := some (.int 0)) rfl rfl ?_
            show pm_R _ 183 12 [.ref 41, .int 1, .int 5, .int (-1)] [.int 0] _ _
            refine pm_R_ret pm_M183 (r := some (.int 0)) rfl rfl ?_
            show pm_R _ 187 102 [.ref 41, .long a0, pm_no, .int a1] [.int 0] _ _
            refine pm_R_br pm_M187 (pc' := 122) (st' := []) rfl rfl ?_
            refine pm_R_op pm_M187 (pc' := 123) (st' := [.int 0]) (pm_q187_1 (Nat.le_of_ble_eq_true rfl)) rfl rfl ?_
            have B1743 : sf_B 0 600 (m1734 10) := T1732.2.2.1 10
            exact pm_R_ret pm_M187 (r := some (.int 0)) (pm_q187_1 (Nat.le_of_ble_eq_true rfl)) rfl (K0 m1734 w1036 h1731 T1732 F1736 W1742 (sf_aux83 _ _ _ _ _ X982 X1041))
        · have B1744 : sf_B 0 5 (m976 14) := sf_leL (Int32.not_lt.mp c1003) B994 sf_k5
          refine pm_R_lo pm_M183 (pc' := 32) rfl rfl rfl ?_
          refine rf_R_get pm_M183 T999 (pc' := 35) (v := .int (m976 14)) rfl rfl rfl rfl ?_
          refine pm_R_lo pm_M183 (pc' := 36) rfl rfl rfl ?_
          refine pm_R_icmp pm_M183 (t := 53) (pc' := 39) rfl rfl rfl (fun c1745 => ?_) (fun c1745 => absurd (Classical.not_not.mp c1745) (sf_neq1 B1744 sf_kn1 (by decide)))
          skip
          refine pm_R_lo pm_M183 (pc' := 54) rfl rfl rfl ?_
          refine pm_R_cv pm_M183 (pc' := 57) (a := 41) (ra := []) (rest := []) (ls' := [.ref 41, pm_no, pm_no]) rfl rfl (Or.inl rfl) pm_M179 T999.2.1 rfl (by decide) (Nat.lt_of_lt_of_le (by decide) T999.1) rfl rfl (Nat.le_of_ble_eq_true rfl) rfl rfl ?_
          have B1746 : sf_B 0 600 (m976 10) := T999.2.2.1 10
          refine rf_c179 (d := d + 0) T999  (fun m1749 w1750 h1751 T1752 F1753 W1754 X1755 X1756 => ?_)
          have F1757 := F1002.trans F1753 (by decide)
          have B1758 : sf_B 0 4 (m1749 17) := by rw [W1754 17 (by decide)]; exact B985
          have ek1759 : (m1749 17).toInt = ((m 17)).toInt := by rw [W1754 17 (by decide)]; exact ek986
          have W1760 : rf_W [10, 12, 13, 14, 16, 17, 18, 22] m m1749 := W987.trans W1754 (by decide)
          show pm_R _ 183 57 [.ref 41, .int 0, .int 5, .int (-1)] [] _ _
          refine pm_R_op pm_M183 (pc' := 58) (st' := [.int 1]) rfl rfl rfl ?_
          refine pm_R_ret pm_M183 (r := some (.int 1)) rfl rfl ?_
          show pm_R _ 187 92 [.ref 41, .long a0, pm_no, .int a1] [.int 1] _ _
          refine pm_R_br pm_M187 (pc' := 95) (st' := []) rfl rfl ?_
          refine pm_R_lo pm_M187 (pc' := 96) rfl rfl rfl ?_
          refine pm_R_op pm_M187 (pc' := 97) (st' := [.int 1, .ref 41]) rfl rfl rfl ?_
          refine pm_R_op pm_M187 (pc' := 98) (st' := [.int 5, .int 1, .ref 41]) rfl rfl rfl ?_
          refine pm_R_op pm_M187 (pc' := 99) (st' := [.int (-1), .int 5, .int 1, .ref 41]) rfl rfl rfl ?_
          refine pm_R_cv pm_M187 (pc' := 102) (a := 41) (ra := [.int (-1), .int 5, .int 1]) (rest := []) (ls' := [.ref 41, .int 1, .int 5, .int (-1)]) rfl rfl (Or.inl rfl) pm_M183 T1752.2.1 rfl (by decide) (Nat.lt_of_lt_of_le (by decide) T1752.1) rfl rfl (Nat.le_of_ble_eq_true rfl) rfl rfl ?_
          refine pm_R_lo pm_M183 (pc' := 1) rfl rfl rfl ?_
          have B1761 : sf_B 0 4 (m1749 13) := T1752.2.2.1 13
          refine rf_R_get pm_M183 T1752 (pc' := 4) (v := .int (m1749 13)) rfl rfl rfl rfl ?_
          refine pm_R_op pm_M183 (pc' := 5) (st' := [.int 3, .int (m1749 13)]) rfl rfl rfl ?_
          refine pm_R_icmp pm_M183 (t := 13) (pc' := 8) rfl rfl rfl (fun c1762 => ?_) (fun c1762 => ?_)
          · have B1763 : sf_B 3 3 (m1749 13) := sf_eqL c1762 sf_k3
            refine pm_R_lo pm_M183 (pc' := 14) rfl rfl rfl ?_
            refine rf_R_get pm_M183 T1752 (pc' := 17) (v := .ref 52) rfl rfl rfl rfl ?_
            refine pm_R_lo pm_M183 (pc' := 18) rfl rfl rfl ?_
            refine pm_R_lo pm_M183 (pc' := 19) rfl rfl rfl ?_
            have B1764 : sf_B 0 99 (m1749 14) := T1752.2.2.1 14
            refine rf_R_get pm_M183 T1752 (pc' := 22) (v := .int (m1749 14)) rfl rfl rfl rfl ?_
            have e1765 := (F1753.cell (by decide) e1001)
            refine rf_R_ist pm_M183 T1752 (pc' := 23) rfl e1765 (by decide) (by decide) rfl ⟨_, rfl, sf_upd (sf_upd b997 (sf_weak B994 (by decide) (by decide)) _) (sf_weak B1764 (by decide) (by decide)) _⟩ rfl (fun h1766 T1767 F1768 e1769 => ?_)
            have F1770 := F1757.trans F1768 (by decide)
            refine pm_R_lo pm_M183 (pc' := 24) rfl rfl rfl ?_
            refine rf_R_get pm_M183 T1767 (pc' := 27) (v := .int (m1749 14)) rfl rfl rfl rfl ?_
            refine pm_R_lo pm_M183 (pc' := 28) rfl rfl rfl ?_
            refine pm_R_icmp pm_M183 (t := 39) (pc' := 31) rfl rfl rfl (fun c1771 => ?_) (fun c1771 => ?_)
            · have B1772 : sf_B 6 99 (m1749 14) := sf_ltR c1771 sf_k5 B1764
              refine pm_R_lo pm_M183 (pc' := 40) rfl rfl rfl ?_
              refine pm_R_op pm_M183 (pc' := 41) (st' := [.int 2, .ref 41]) rfl rfl rfl ?_
              refine pm_R_lo pm_M183 (pc' := 42) rfl rfl rfl ?_
              have B1773 : sf_B 0 600 (m1749 12) := T1767.2.2.1 12
              refine rf_R_get pm_M183 T1767 (pc' := 45) (v := .int (m1749 12)) rfl rfl rfl rfl ?_
              refine pm_R_cv pm_M183 (pc' := 48) (a := 41) (ra := [.int (m1749 12), .int 2]) (rest := []) (ls' := [.ref 41, .int 2, .int (m1749 12)]) rfl rfl (Or.inl rfl) pm_M182 T1767.2.1 rfl (by decide) (Nat.lt_of_lt_of_le (by decide) T1767.1) rfl rfl (Nat.le_of_ble_eq_true rfl) rfl rfl ?_
              refine rf_c182 (d := d + 1) T1767 (sf_weak sf_k2 (by decide) (by decide)) B1773 (fun m1776 w1777 h1778 T1779 F1780 W1781 B1782 => ?_)
              have F1783 := F1770.trans F1780 (by decide)
              have B1784 : sf_B 3 3 (m1776 13) := by rw [W1781 13 (by decide)]; exact B1763
              have B1785 : sf_B 6 99 (m1776 14) := by rw [W1781 14 (by decide)]; exact B1772
              have W1786 : rf_W [10, 12, 13, 14, 16, 17, 18, 22] m m1776 := W1760.trans W1781 (by decide)
              show pm_R _ 183 48 [.ref 41, .int 1, .int 5, .int (-1)] [] _ _
              refine pm_R_lo pm_M183 (pc' := 49) rfl rfl rfl ?_
              refine pm_R_op pm_M183 (pc' := 50) (st' := [.int 0, .ref 41]) rfl rfl rfl ?_
              refine rf_R_put pm_M183 T1779 (pc' := 53) rfl rfl rfl (by decide) rfl rfl (sf_weak sf_k0 (by decide) (by decide)) rfl rfl (fun h1787 m1790 em1791 T1788 F1789 => ?_)
              have F1792 := F1783.trans F1789 (by decide)
              have B1793 : sf_B 3 3 (m1790 13) := by rw [em1791]; exact B1784
              have B1794 : sf_B 6 99 (m1790 14) := by rw [em1791]; exact B1785
              have B1795 : sf_B 1 4 (m1790 17) := by rw [em1791]; exact B1782
              have ek1796 : (m1790 17).toInt = ((m1776 17)).toInt := by rw [em1791]; rfl
              have B1797 : sf_B 0 0 (m1790 22) := by rw [em1791]; exact sf_k0
              have W1799 : rf_W [10, 12, 13, 14, 16, 17, 18, 22] m m1790 := by rw [em1791]; exact W1786.put (by decide)
              refine pm_R_lo pm_M183 (pc' := 54) rfl rfl rfl ?_
              refine pm_R_cv pm_M183 (pc' := 57) (a := 41) (ra := []) (rest := []) (ls' := [.ref 41, pm_no, pm_no]) rfl rfl (Or.inl rfl) pm_M179 T1788.2.1 rfl (by decide) (Nat.lt_of_lt_of_le (by decide) T1788.1) rfl rfl (Nat.le_of_ble_eq_true rfl) rfl rfl ?_
              have B1800 : sf_B 0 600 (m1790 10) := T1788.2.2.1 10
              refine rf_c179 (d := d + 0) T1788  (fun m1803 w1804 h1805 T1806 F1807 W1808 X1809 X1810 => ?_)
              have F1811 := F1792.trans F1807 (by decide)
              have B1812 : sf_B 1 4 (m1803 17) := by rw [W1808 17 (by decide)]; exact B1795
              have ek1813 : (m1803 17).toInt = ((m1776 17)).toInt := by rw [W1808 17 (by decide)]; exact ek1796
              have B1814 : sf_B 0 0 (m1803 22) := by rw [W1808 22 (by decide)]; exact B1797
              have W1815 : rf_W [10, 12, 13, 14, 16, 17, 18, 22] m m1803 := W1799.trans W1808 (by decide)
              show pm_R _ 183 57 [.ref 41, .int 1, .int 5, .int (-1)] [] _ _
              refine pm_R_op pm_M183 (pc' := 58) (st' := [.int 1]) rfl rfl rfl ?_
              refine pm_R_ret pm_M183 (r := some (.int 1)) rfl rfl ?_
              show pm_R _ 187 102 [.ref 41, .long a0, pm_no, .int a1] [.int 1] _ _
              refine pm_R_br pm_M187 (pc' := 105) (st' := []) rfl rfl ?_
              refine pm_R_lo pm_M187 (pc' := 106) rfl rfl rfl ?_
              refine pm_R_op pm_M187 (pc' := 107) (st' := [.int 2, .ref 41]) rfl rfl rfl ?_
              refine pm_R_op pm_M187 (pc' := 108) (st' := [.int 5, .int 2, .ref 41]) rfl rfl rfl ?_
              refine pm_R_op pm_M187 (pc' := 109) (st' := [.int (-1), .int 5, .int 2, .ref 41]) (pm_q187_1 (Nat.le_of_ble_eq_true rfl)) rfl rfl ?_
              refine pm_R_cv pm_M187 (pc' := 112) (a := 41) (ra := [.int (-1), .int 5, .int 2]) (rest := []) (ls' := [.ref 41, .int 2, .int 5, .int (-1)]) (pm_q187_1 (Nat.le_of_ble_eq_true rfl)) rfl (Or.inl rfl) pm_M183 T1806.2.1 rfl (by decide) (Nat.lt_of_lt_of_le (by decide) T1806.1) rfl rfl (Nat.le_of_ble_eq_true rfl) rfl rfl ?_
              refine pm_R_lo pm_M183 (pc' := 1) rfl rfl rfl ?_
              have B1816 : sf_B 0 4 (m1803 13) := T1806.2.2.1 13
              refine rf_R_get pm_M183 T1806 (pc' := 4) (v := .int (m1803 13)) rfl rfl rfl rfl ?_
              refine pm_R_op pm_M183 (pc' := 5) (st' := [.int 3, .int (m1803 13)]) rfl rfl rfl ?_
              refine pm_R_icmp pm_M183 (t := 13) (pc' := 8) rfl rfl rfl (fun c1817 => ?_) (fun c1817 => ?_)
              · have B1818 : sf_B 3 3 (m1803 13) := sf_eqL c1817 sf_k3
                refine pm_R_lo pm_M183 (pc' := 14) rfl rfl rfl ?_
                refine rf_R_get pm_M183 T1806 (pc' := 17) (v := .ref 52) rfl rfl rfl rfl ?_
                refine pm_R_lo pm_M183 (pc' := 18) rfl rfl rfl ?_
                refine pm_R_lo pm_M183 (pc' := 19) rfl rfl rfl ?_
                have B1819 : sf_B 0 99 (m1803 14) := T1806.2.2.1 14
                refine rf_R_get pm_M183 T1806 (pc' := 22) (v := .int (m1803 14)) rfl rfl rfl rfl ?_
                have e1820 := (F1807.cell (by decide) (F1789.cell (by decide) (F1780.cell (by decide) e1769)))
                refine rf_R_ist pm_M183 T1806 (pc' := 23) rfl e1820 (by decide) (by decide) rfl ⟨_, rfl, sf_upd (sf_upd (sf_upd b997 (sf_weak B994 (by decide) (by decide)) _) (sf_weak B1764 (by decide) (by decide)) _) (sf_weak B1819 (by decide) (by decide)) _⟩ rfl (fun h1821 T1822 F1823 e1824 => ?_)
                have F1825 := F1811.trans F1823 (by decide)
                refine pm_R_lo pm_M183 (pc' := 24) rfl rfl rfl ?_
                refine rf_R_get pm_M183 T1822 (pc' := 27) (v := .int (m1803 14)) rfl rfl rfl rfl ?_
                refine pm_R_lo pm_M183 (pc' := 28) rfl rfl rfl ?_
                refine pm_R_icmp pm_M183 (t := 39) (pc' := 31) rfl rfl rfl (fun c1826 => ?_) (fun c1826 => ?_)
                · have B1827 : sf_B 6 99 (m1803 14) := sf_ltR c1826 sf_k5 B1819
                  refine pm_R_lo pm_M183 (pc' := 40) rfl rfl rfl ?_
                  refine pm_R_op pm_M183 (pc' := 41) (st' := [.int 2, .ref 41]) rfl rfl rfl ?_
                  refine pm_R_lo pm_M183 (pc' := 42) rfl rfl rfl ?_
                  have B1828 : sf_B 0 600 (m1803 12) := T1822.2.2.1 12
                  refine rf_R_get pm_M183 T1822 (pc' := 45) (v := .int (m1803 12)) rfl rfl rfl rfl ?_
                  refine pm_R_cv pm_M183 (pc' := 48) (a := 41) (ra := [.int (m1803 12), .int 2]) (rest := []) (ls' := [.ref 41, .int 2, .int (m1803 12)]) rfl rfl (Or.inl rfl) pm_M182 T1822.2.1 rfl (by decide) (Nat.lt_of_lt_of_le (by decide) T1822.1) rfl rfl (Nat.le_of_ble_eq_true rfl) rfl rfl ?_
                  refine rf_c182 (d := d + 1) T1822 (sf_weak sf_k2 (by decide) (by decide)) B1828 (fun m1831 w1832 h1833 T1834 F1835 W1836 B1837 => ?_)
                  have F1838 := F1825.trans F1835 (by decide)
                  have B1839 : sf_B 0 0 (m1831 22) := by rw [W1836 22 (by decide)]; exact B1814
                  have B1840 : sf_B 3 3 (m1831 13) := by rw [W1836 13 (by decide)]; exact B1818
                  have B1841 : sf_B 6 99 (m1831 14) := by rw [W1836 14 (by decide)]; exact B1827
                  have W1842 : rf_W [10, 12, 13, 14, 16, 17, 18, 22] m m1831 := W1815.trans W1836 (by decide)
                  show pm_R _ 183 48 [.ref 41, .int 2, .int 5, .int (-1)] [] _ _
                  refine pm_R_lo pm_M183 (pc' := 49) rfl rfl rfl ?_
                  refine pm_R_op pm_M183 (pc' := 50) (st' := [.int 0, .ref 41]) rfl rfl rfl ?_
                  refine rf_R_put pm_M183 T1834 (pc' := 53) rfl rfl rfl (by decide) rfl rfl (sf_weak sf_k0 (by decide) (by decide)) rfl rfl (fun h1843 m1846 em1847 T1844 F1845 => ?_)
                  have F1848 := F1838.trans F1845 (by decide)
                  have B1849 : sf_B 3 3 (m1846 13) := by rw [em1847]; exact B1840
                  have B1850 : sf_B 6 99 (m1846 14) := by rw [em1847]; exact B1841
                  have B1851 : sf_B 1 4 (m1846 17) := by rw [em1847]; exact B1837
                  have ek1852 : (m1846 17).toInt = ((m1831 17)).toInt := by rw [em1847]; rfl
                  have B1853 : sf_B 0 0 (m1846 22) := by rw [em1847]; exact sf_k0
                  have W1855 : rf_W [10, 12, 13, 14, 16, 17, 18, 22] m m1846 := by rw [em1847]; exact W1842.put (by decide)
                  refine pm_R_lo pm_M183 (pc' := 54) rfl rfl rfl ?_
                  refine pm_R_cv pm_M183 (pc' := 57) (a := 41) (ra := []) (rest := []) (ls' := [.ref 41, pm_no, pm_no]) rfl rfl (Or.inl rfl) pm_M179 T1844.2.1 rfl (by decide) (Nat.lt_of_lt_of_le (by decide) T1844.1) rfl rfl (Nat.le_of_ble_eq_true rfl) rfl rfl ?_
                  have B1856 : sf_B 0 600 (m1846 10) := T1844.2.2.1 10
                  refine rf_c179 (d := d + 0) T1844  (fun m1859 w1860 h1861 T1862 F1863 W1864 X1865 X1866 => ?_)
                  have F1867 := F1848.trans F1863 (by decide)
                  have B1868 : sf_B 1 4 (m1859 17) := by rw [W1864 17 (by decide)]; exact B1851
                  have ek1869 : (m1859 17).toInt = ((m1831 17)).toInt := by rw [W1864 17 (by decide)]; exact ek1852
                  have B1870 : sf_B 0 0 (m1859 22) := by rw [W1864 22 (by decide)]; exact B1853
                  have W1871 : rf_W [10, 12, 13, 14, 16, 17, 18, 22] m m1859 := W1855.trans W1864 (by decide)
                  show pm_R _ 183 57 [.ref 41, .int 2, .int 5, .int (-1)] [] _ _
                  refine pm_R_op pm_M183 (pc' := 58) (st' := [.int 1]) rfl rfl rfl ?_
                  refine pm_R_ret pm_M183 (r := some (.int 1)) rfl rfl ?_
                  show pm_R _ 187 112 [.ref 41, .long a0, pm_no, .int a1] [.int 1] _ _
                  refine pm_R_br pm_M187 (pc' := 115) (st' := []) (pm_q187_1 (Nat.le_of_ble_eq_true rfl)) rfl ?_
                  refine pm_R_lo pm_M187 (pc' := 116) (pm_q187_1 (Nat.le_of_ble_eq_true rfl)) rfl rfl ?_
                  refine pm_R_cv pm_M187 (pc' := 119) (a := 41) (ra := []) (rest := []) (ls' := [.ref 41, pm_no, pm_no]) (pm_q187_1 (Nat.le_of_ble_eq_true rfl)) rfl (Or.inl rfl) pm_M188 T1862.2.1 rfl (by decide) (Nat.lt_of_lt_of_le (by decide) T1862.1) rfl rfl (Nat.le_of_ble_eq_true rfl) rfl rfl ?_
                  have e1872 := (F1863.cell (by decide) (F1845.cell (by decide) (F1835.cell (by decide) e1824)))
                  refine rf_c188 (d := d + 0) T1862  (fun m1875 w1876 h1877 T1878 F1879 W1880 X1881 => ?_) (fun m1884 w1885 h1886 T1887 F1888 W1889 X1890 X1891 => ?_)
                  · have F1892 := F1867.trans F1879 (by decide)
                    have B1893 : sf_B 1 4 (m1875 17) := by rw [W1880 17 (by decide)]; exact B1868
                    have ek1894 : (m1875 17).toInt = ((m1831 17)).toInt := by rw [W1880 17 (by decide)]; exact ek1869
                    have B1895 : sf_B 0 0 (m1875 22) := by rw [W1880 22 (by decide)]; exact B1870
                    have W1896 : rf_W [10, 12, 13, 14, 16, 17, 18, 22] m m1875 := W1871.trans W1880 (by decide)
                    show pm_R _ 187 119 [.ref 41, .long a0, pm_no, .int a1] [.int 0] _ _
                    refine pm_R_br pm_M187 (pc' := 122) (st' := []) (pm_q187_1 (Nat.le_of_ble_eq_true rfl)) rfl ?_
                    refine pm_R_op pm_M187 (pc' := 123) (st' := [.int 0]) (pm_q187_1 (Nat.le_of_ble_eq_true rfl)) rfl rfl ?_
                    have B1897 : sf_B 0 600 (m1875 10) := T1878.2.2.1 10
                    exact pm_R_ret pm_M187 (r := some (.int 0)) (pm_q187_1 (Nat.le_of_ble_eq_true rfl)) rfl (K0 m1875 w1876 h1877 T1878 F1892 W1896 (sf_aux84 _ _ _ _ _ _ _ _ X982 X1755 X1809 X1865 X1881))
                  · have F1898 := F1867.trans F1888 (by decide)
                    have B1899 : sf_B 1 4 (m1884 17) := by rw [W1889 17 (by decide)]; exact B1868
                    have ek1900 : (m1884 17).toInt = ((m1831 17)).toInt := by rw [W1889 17 (by decide)]; exact ek1869
                    have B1901 : sf_B 0 0 (m1884 22) := by rw [W1889 22 (by decide)]; exact B1870
                    have W1902 : rf_W [10, 12, 13, 14, 16, 17, 18, 22] m m1884 := W1871.trans W1889 (by decide)
                    show pm_R _ 187 119 [.ref 41, .long a0, pm_no, .int a1] [.int 1] _ _
                    obtain ⟨v1903, B1904, e1905⟩ := X1890 _ e1872
                    refine pm_R_br pm_M187 (pc' := 124) (st' := []) (pm_q187_1 (Nat.le_of_ble_eq_true rfl)) rfl ?_
                    refine pm_R_lo pm_M187 (pc' := 125) (pm_q187_1 (Nat.le_of_ble_eq_true rfl)) rfl rfl ?_
                    refine pm_R_op pm_M187 (pc' := 126) (st' := [.int 0, .ref 41]) (pm_q187_1 (Nat.le_of_ble_eq_true rfl)) rfl rfl ?_
                    refine pm_R_op pm_M187 (pc' := 127) (st' := [.int 2, .int 0, .ref 41]) (pm_q187_1 (Nat.le_of_ble_eq_true rfl)) rfl rfl ?_
                    refine pm_R_op pm_M187 (pc' := 128) (st' := [.int 4, .int 2, .int 0, .ref 41]) (pm_q187_1 (Nat.le_of_ble_eq_true rfl)) rfl rfl ?_
                    refine pm_R_op pm_M187 (pc' := 130) (st' := [.int 10, .int 4, .int 2, .int 0, .ref 41]) (pm_q187_1 (Nat.le_of_ble_eq_true rfl)) rfl rfl ?_
                    refine pm_R_op pm_M187 (pc' := 131) (st' := [.int 0, .int 10, .int 4, .int 2, .int 0, .ref 41]) (pm_q187_1 (Nat.le_of_ble_eq_true rfl)) rfl rfl ?_
                    refine pm_R_cv pm_M187 (pc' := 134) (a := 41) (ra := [.int 0, .int 10, .int 4, .int 2, .int 0]) (rest := []) (ls' := [.ref 41, .int 0, .int 2, .int 4, .int 10, .int 0, pm_no, pm_no]) (pm_q187_1 (Nat.le_of_ble_eq_true rfl)) rfl (Or.inl rfl) pm_M185 T1887.2.1 rfl (by decide) (Nat.lt_of_lt_of_le (by decide) T1887.1) rfl rfl (Nat.le_of_ble_eq_true rfl) rfl rfl ?_
                    refine pm_R_lo pm_M185 (pc' := 1) rfl rfl rfl ?_
                    refine rf_R_get pm_M185 T1887 (pc' := 4) (v := .ref 51) rfl rfl rfl rfl ?_
                    refine pm_R_lo pm_M185 (pc' := 5) rfl rfl rfl ?_
                    have e1906 := (F1888.cell (by decide) (F1863.cell (by decide) (F1845.cell (by decide) (F1835.cell (by decide) (F1823.cell (by decide) (F1807.cell (by decide) (F1789.cell (by decide) (F1780.cell (by decide) (F1768.cell (by decide) (F1753.cell (by decide) (F1000.cell (by decide) (F980.cell (by decide) e3))))))))))))
                    refine pm_R_iald pm_M185 (pc' := 6) (v := (f2 0)) rfl e1906 (Nat.lt_of_lt_of_le (by decide) T1887.1) rfl rfl rfl ?_
                    refine pm_R_lo pm_M185 (pc' := 8) (ls' := [.ref 41, .int 0, .int 2, .int 4, .int 10, .int 0, .int (f2 0), pm_no]) (st' := []) rfl rfl rfl ?_
                    refine pm_R_lo pm_M185 (pc' := 10) rfl rfl rfl ?_
                    refine pm_R_lo pm_M185 (pc' := 12) rfl rfl rfl ?_
                    refine pm_R_icmp pm_M185 (t := 16) (pc' := 15) rfl rfl rfl (fun c1909 => ?_) (fun c1909 => absurd (Classical.not_not.mp c1909) (sf_neq2 B968 sf_k10 (by decide)))
                    skip
                    refine pm_R_op pm_M185 (pc' := 17) (st' := [.int 0]) rfl rfl rfl ?_
                    refine pm_R_lo pm_M185 (pc' := 19) (ls' := [.ref 41, .int 0, .int 2, .int 4, .int 10, .int 0, .int (f2 0), .int 0]) (st' := []) rfl rfl rfl ?_
                    refine pm_R_lo pm_M185 (pc' := 21) rfl rfl rfl ?_
                    refine pm_R_lo pm_M185 (pc' := 22) rfl rfl rfl ?_
                    refine pm_R_br pm_M185 (pc' := 25) (st' := []) rfl rfl ?_
                    refine pm_R_lo pm_M185 (pc' := 26) rfl rfl rfl ?_
                    refine rf_R_get pm_M185 T1887 (pc' := 29) (v := .ref 51) rfl rfl rfl rfl ?_
                    refine pm_R_lo pm_M185 (pc' := 30) rfl rfl rfl ?_
                    refine pm_R_lo pm_M185 (pc' := 31) rfl rfl rfl ?_
                    refine pm_R_lo pm_M185 (pc' := 33) rfl rfl rfl ?_
                    refine sf_R_imul pm_M185 (pc' := 34) rfl rfl sf_k4 B968 (by decide) (by decide) (by decide) (fun z1910 e1911 B1912 => ?_)
                    refine sf_R_iadd pm_M185 (pc' := 35) rfl rfl sf_k2 B1912 (by decide) (by decide) (fun z1913 e1914 B1915 => ?_)
                    refine pm_R_lo pm_M185 (pc' := 37) rfl rfl rfl ?_
                    refine sf_R_iadd pm_M185 (pc' := 38) rfl rfl B1915 sf_k0 (by decide) (by decide) (fun z1916 e1917 B1918 => ?_)
                    refine pm_R_lo pm_M185 (pc' := 39) rfl rfl rfl ?_
                    refine rf_R_get pm_M185 T1887 (pc' := 42) (v := .ref 52) rfl rfl rfl rfl ?_
                    refine pm_R_lo pm_M185 (pc' := 44) rfl rfl rfl ?_
                    refine pm_R_lo pm_M185 (pc' := 46) rfl rfl rfl ?_
                    refine pm_R_op pm_M185 (pc' := 47) (st' := [.int 0, .ref 52, .int z1916, .ref 51]) rfl rfl rfl ?_
                    refine pm_R_iald pm_M185 (pc' := 48) (v := (m976 14)) rfl e1905 (Nat.lt_of_lt_of_le (by decide) T1887.1) rfl (Eq.trans (show (upd (upd (upd (upd f995 (Int32.toNatClampNeg 0) (m976 14)) (Int32.toNatClampNeg 1) (m1749 14)) (Int32.toNatClampNeg 2) (m1803 14)) (Int32.toNatClampNeg 3) v1903) (Int32.toNatClampNeg 0) = (upd (upd (upd f995 (Int32.toNatClampNeg 0) (m976 14)) (Int32.toNatClampNeg 1) (m1749 14)) (Int32.toNatClampNeg 2) (m1803 14)) (Int32.toNatClampNeg 0) from rfl) (Eq.trans (show (upd (upd (upd f995 (Int32.toNatClampNeg 0) (m976 14)) (Int32.toNatClampNeg 1) (m1749 14)) (Int32.toNatClampNeg 2) (m1803 14)) (Int32.toNatClampNeg 0) = (upd (upd f995 (Int32.toNatClampNeg 0) (m976 14)) (Int32.toNatClampNeg 1) (m1749 14)) (Int32.toNatClampNeg 0) from rfl) (Eq.trans (show (upd (upd f995 (Int32.toNatClampNeg 0) (m976 14)) (Int32.toNatClampNeg 1) (m1749 14)) (Int32.toNatClampNeg 0) = (upd f995 (Int32.toNatClampNeg 0) (m976 14)) (Int32.toNatClampNeg 0) from rfl) rfl))) rfl ?_
                    refine rf_R_ist pm_M185 T1887 (pc' := 49) rfl e1906 (by decide) (by decide) (sf_in B1918 (by decide) (by decide)) ⟨_, rfl⟩ rfl (fun h1921 T1922 F1923 e1924 => ?_)
                    have F1925 := F1898.trans F1923 (by decide)
                    have ct1926 : rf_ct 0 (upd f2 (Int32.toNatClampNeg z1916) (m976 14)) := ⟨(sf_eqL (Eq.trans (sf_upd_ne (j := Int32.toNatClampNeg 0) B1918 (by decide) (by decide)) rfl) (sf_weak B968 (by decide) (by decide))), (sf_eqL (Eq.trans (sf_upd_ne (j := Int32.toNatClampNeg 1) B1918 (by decide) (by decide)) rfl) ct4.2)⟩
                    have bd1927 : (m1884 17).toInt = 0 → rf_bd 0 (upd f2 (Int32.toNatClampNeg z1916) (m976 14)) := fun z => (sf_pos B1899 (by decide) z)
                    refine pm_R_lo pm_M185 (pc' := 52) (ls' := [.ref 41, .int 0, .int 2, .int 4, .int 10, .int 0, .int (f2 0), .int 1]) (st' := []) rfl rfl rfl ?_
                    refine pm_R_br pm_M185 (pc' := 19) rfl rfl ?_
                    refine pm_R_lo pm_M185 (pc' := 21) rfl rfl rfl ?_
                    refine pm_R_lo pm_M185 (pc' := 22) rfl rfl rfl ?_
                    refine pm_R_br pm_M185 (pc' := 25) (st' := []) rfl rfl ?_
                    refine pm_R_lo pm_M185 (pc' := 26) rfl rfl rfl ?_
                    refine rf_R_get pm_M185 T1922 (pc' := 29) (v := .ref 51) rfl rfl rfl rfl ?_
                    refine pm_R_lo pm_M185 (pc' := 30) rfl rfl rfl ?_
                    refine pm_R_lo pm_M185 (pc' := 31) rfl rfl rfl ?_
                    refine pm_R_lo pm_M185 (pc' := 33) rfl rfl rfl ?_
                    refine sf_R_imulV pm_M185 (pc' := 34) rfl rfl sf_k4 B968 (by decide) (by decide) (by decide) e1911 ?_
                    refine sf_R_iaddV pm_M185 (pc' := 35) rfl rfl sf_k2 B1912 (by decide) (by decide) e1914 ?_
                    refine pm_R_lo pm_M185 (pc' := 37) rfl rfl rfl ?_
                    refine sf_R_iadd pm_M185 (pc' := 38) rfl rfl B1915 sf_k1 (by decide) (by decide) (fun z1928 e1929 B1930 => ?_)
                    refine pm_R_lo pm_M185 (pc' := 39) rfl rfl rfl ?_
                    refine rf_R_get pm_M185 T1922 (pc' := 42) (v := .ref 52) rfl rfl rfl rfl ?_
                    refine pm_R_lo pm_M185 (pc' := 44) rfl rfl rfl ?_
                    refine pm_R_lo pm_M185 (pc' := 46) rfl rfl rfl ?_
                    refine pm_R_op pm_M185 (pc' := 47) (st' := [.int 1, .ref 52, .int z1928, .ref 51]) rfl rfl rfl ?_
                    have e1931 := (F1923.cell (by decide) e1905)
                    refine pm_R_iald pm_M185 (pc' := 48) (v := (m1749 14)) rfl e1931 (Nat.lt_of_lt_of_le (by decide) T1922.1) rfl (Eq.trans (show (upd (upd (upd (upd f995 (Int32.toNatClampNeg 0) (m976 14)) (Int32.toNatClampNeg 1) (m1749 14)) (Int32.toNatClampNeg 2) (m1803 14)) (Int32.toNatClampNeg 3) v1903) (Int32.toNatClampNeg 1) = (upd (upd (upd f995 (Int32.toNatClampNeg 0) (m976 14)) (Int32.toNatClampNeg 1) (m1749 14)) (Int32.toNatClampNeg 2) (m1803 14)) (Int32.toNatClampNeg 1) from rfl) (Eq.trans (show (upd (upd (upd f995 (Int32.toNatClampNeg 0) (m976 14)) (Int32.toNatClampNeg 1) (m1749 14)) (Int32.toNatClampNeg 2) (m1803 14)) (Int32.toNatClampNeg 1) = (upd (upd f995 (Int32.toNatClampNeg 0) (m976 14)) (Int32.toNatClampNeg 1) (m1749 14)) (Int32.toNatClampNeg 1) from rfl) rfl)) rfl ?_
                    refine rf_R_ist pm_M185 T1922 (pc' := 49) rfl e1924 (by decide) (by decide) (sf_in B1930 (by decide) (by decide)) ⟨_, rfl⟩ rfl (fun h1934 T1935 F1936 e1937 => ?_)
                    have F1938 := F1925.trans F1936 (by decide)
                    have ct1939 : rf_ct 0 (upd (upd f2 (Int32.toNatClampNeg z1916) (m976 14)) (Int32.toNatClampNeg z1928) (m1749 14)) := ⟨(sf_eqL (Eq.trans (sf_upd_ne (j := Int32.toNatClampNeg 0) B1930 (by decide) (by decide)) (Eq.trans (sf_upd_ne (j := Int32.toNatClampNeg 0) B1918 (by decide) (by decide)) rfl)) (sf_weak B968 (by decide) (by decide))), (sf_eqL (Eq.trans (sf_upd_ne (j := Int32.toNatClampNeg 1) B1930 (by decide) (by decide)) (Eq.trans (sf_upd_ne (j := Int32.toNatClampNeg 1) B1918 (by decide) (by decide)) rfl)) ct4.2)⟩
                    have bd1940 : (m1884 17).toInt = 0 → rf_bd 0 (upd (upd f2 (Int32.toNatClampNeg z1916) (m976 14)) (Int32.toNatClampNeg z1928) (m1749 14)) := fun z => (sf_pos B1899 (by decide) z)
                    refine pm_R_lo pm_M185 (pc' := 52) (ls' := [.ref 41, .int 0, .int 2, .int 4, .int 10, .int 0, .int (f2 0), .int 2]) (st' := []) rfl rfl rfl ?_
                    refine pm_R_br pm_M185 (pc' := 19) rfl rfl ?_
                    refine pm_R_lo pm_M185 (pc' := 21) rfl rfl rfl ?_
                    refine pm_R_lo pm_M185 (pc' := 22) rfl rfl rfl ?_
                    refine pm_R_br pm_M185 (pc' := 25) (st' := []) rfl rfl ?_
                    refine pm_R_lo pm_M185 (pc' := 26) rfl rfl rfl ?_
                    refine rf_R_get pm_M185 T1935 (pc' := 29) (v := .ref 51) rfl rfl rfl rfl ?_
                    refine pm_R_lo pm_M185 (pc' := 30) rfl rfl rfl ?_
                    refine pm_R_lo pm_M185 (pc' := 31) rfl rfl rfl ?_
                    refine pm_R_lo pm_M185 (pc' := 33) rfl rfl rfl ?_
                    refine sf_R_imulV pm_M185 (pc' := 34) rfl rfl sf_k4 B968 (by decide) (by decide) (by decide) e1911 ?_
                    refine sf_R_iaddV pm_M185 (pc' := 35) rfl rfl sf_k2 B1912 (by decide) (by decide) e1914 ?_
                    refine pm_R_lo pm_M185 (pc' := 37) rfl rfl rfl ?_
                    refine sf_R_iadd pm_M185 (pc' := 38) rfl rfl B1915 sf_k2 (by decide) (by decide) (fun z1941 e1942 B1943 => ?_)
                    refine pm_R_lo pm_M185 (pc' := 39) rfl rfl rfl ?_
                    refine rf_R_get pm_M185 T1935 (pc' := 42) (v := .ref 52) rfl rfl rfl rfl ?_
                    refine pm_R_lo pm_M185 (pc' := 44) rfl rfl rfl ?_
                    refine pm_R_lo pm_M185 (pc' := 46) rfl rfl rfl ?_
                    refine pm_R_op pm_M185 (pc' := 47) (st' := [.int 2, .ref 52, .int z1941, .ref 51]) rfl rfl rfl ?_
                    have e1944 := (F1936.cell (by decide) e1931)
                    refine pm_R_iald pm_M185 (pc' := 48) (v := (m1803 14)) rfl e1944 (Nat.lt_of_lt_of_le (by decide) T1935.1) rfl (Eq.trans (show (upd (upd (upd (upd f995 (Int32.toNatClampNeg 0) (m976 14)) (Int32.toNatClampNeg 1) (m1749 14)) (Int32.toNatClampNeg 2) (m1803 14)) (Int32.toNatClampNeg 3) v1903) (Int32.toNatClampNeg 2) = (upd (upd (upd f995 (Int32.toNatClampNeg 0) (m976 14)) (Int32.toNatClampNeg 1) (m1749 14)) (Int32.toNatClampNeg 2) (m1803 14)) (Int32.toNatClampNeg 2) from rfl) rfl) rfl ?_
                    refine rf_R_ist pm_M185 T1935 (pc' := 49) rfl e1937 (by decide) (by decide) (sf_in B1943 (by decide) (by decide)) ⟨_, rfl⟩ rfl (fun h1947 T1948 F1949 e1950 => ?_)
                    have F1951 := F1938.trans F1949 (by decide)
                    have ct1952 : rf_ct 0 (upd (upd (upd f2 (Int32.toNatClampNeg z1916) (m976 14)) (Int32.toNatClampNeg z1928) (m1749 14)) (Int32.toNatClampNeg z1941) (m1803 14)) := ⟨(sf_eqL (Eq.trans (sf_upd_ne (j := Int32.toNatClampNeg 0) B1943 (by decide) (by decide)) (Eq.trans (sf_upd_ne (j := Int32.toNatClampNeg 0) B1930 (by decide) (by decide)) (Eq.trans (sf_upd_ne (j := Int32.toNatClampNeg 0) B1918 (by decide) (by decide)) rfl))) (sf_weak B968 (by decide) (by decide))), (sf_eqL (Eq.trans (sf_upd_ne (j := Int32.toNatClampNeg 1) B1943 (by decide) (by decide)) (Eq.trans (sf_upd_ne (j := Int32.toNatClampNeg 1) B1930 (by decide) (by decide)) (Eq.trans (sf_upd_ne (j := Int32.toNatClampNeg 1) B1918 (by decide) (by decide)) rfl))) ct4.2)⟩
                    have bd1953 : (m1884 17).toInt = 0 → rf_bd 0 (upd (upd (upd f2 (Int32.toNatClampNeg z1916) (m976 14)) (Int32.toNatClampNeg z1928) (m1749 14)) (Int32.toNatClampNeg z1941) (m1803 14)) := fun z => (sf_pos B1899 (by decide) z)
                    refine pm_R_lo pm_M185 (pc' := 52) (ls' := [.ref 41, .int 0, .int 2, .int 4, .int 10, .int 0, .int (f2 0), .int 3]) (st' := []) rfl rfl rfl ?_
                    refine pm_R_br pm_M185 (pc' := 19) rfl rfl ?_
                    refine pm_R_lo pm_M185 (pc' := 21) rfl rfl rfl ?_
                    refine pm_R_lo pm_M185 (pc' := 22) rfl rfl rfl ?_
                    refine pm_R_br pm_M185 (pc' := 25) (st' := []) rfl rfl ?_
                    refine pm_R_lo pm_M185 (pc' := 26) rfl rfl rfl ?_
                    refine rf_R_get pm_M185 T1948 (pc' := 29) (v := .ref 51) rfl rfl rfl rfl ?_
                    refine pm_R_lo pm_M185 (pc' := 30) rfl rfl rfl ?_
                    refine pm_R_lo pm_M185 (pc' := 31) rfl rfl rfl ?_
                    refine pm_R_lo pm_M185 (pc' := 33) rfl rfl rfl ?_
                    refine sf_R_imulV pm_M185 (pc' := 34) rfl rfl sf_k4 B968 (by decide) (by decide) (by decide) e1911 ?_
                    refine sf_R_iaddV pm_M185 (pc' := 35) rfl rfl sf_k2 B1912 (by decide) (by decide) e1914 ?_
                    refine pm_R_lo pm_M185 (pc' := 37) rfl rfl rfl ?_
                    refine sf_R_iadd pm_M185 (pc' := 38) rfl rfl B1915 sf_k3 (by decide) (by decide) (fun z1954 e1955 B1956 => ?_)
                    refine pm_R_lo pm_M185 (pc' := 39) rfl rfl rfl ?_
                    refine rf_R_get pm_M185 T1948 (pc' := 42) (v := .ref 52) rfl rfl rfl rfl ?_
                    refine pm_R_lo pm_M185 (pc' := 44) rfl rfl rfl ?_
                    refine pm_R_lo pm_M185 (pc' := 46) rfl rfl rfl ?_
                    refine pm_R_op pm_M185 (pc' := 47) (st' := [.int 3, .ref 52, .int z1954, .ref 51]) rfl rfl rfl ?_
                    have e1957 := (F1949.cell (by decide) e1944)
                    refine pm_R_iald pm_M185 (pc' := 48) (v := v1903) rfl e1957 (Nat.lt_of_lt_of_le (by decide) T1948.1) rfl rfl rfl ?_
                    refine rf_R_ist pm_M185 T1948 (pc' := 49) rfl e1950 (by decide) (by decide) (sf_in B1956 (by decide) (by decide)) ⟨_, rfl⟩ rfl (fun h1960 T1961 F1962 e1963 => ?_)
                    have F1964 := F1951.trans F1962 (by decide)
                    have ct1965 : rf_ct 0 (upd (upd (upd (upd f2 (Int32.toNatClampNeg z1916) (m976 14)) (Int32.toNatClampNeg z1928) (m1749 14)) (Int32.toNatClampNeg z1941) (m1803 14)) (Int32.toNatClampNeg z1954) v1903) := ⟨(sf_eqL (Eq.trans (sf_upd_ne (j := Int32.toNatClampNeg 0) B1956 (by decide) (by decide)) (Eq.trans (sf_upd_ne (j := Int32.toNatClampNeg 0) B1943 (by decide) (by decide)) (Eq.trans (sf_upd_ne (j := Int32.toNatClampNeg 0) B1930 (by decide) (by decide)) (Eq.trans (sf_upd_ne (j := Int32.toNatClampNeg 0) B1918 (by decide) (by decide)) rfl)))) (sf_weak B968 (by decide) (by decide))), (sf_eqL (Eq.trans (sf_upd_ne (j := Int32.toNatClampNeg 1) B1956 (by decide) (by decide)) (Eq.trans (sf_upd_ne (j := Int32.toNatClampNeg 1) B1943 (by decide) (by decide)) (Eq.trans (sf_upd_ne (j := Int32.toNatClampNeg 1) B1930 (by decide) (by decide)) (Eq.trans (sf_upd_ne (j := Int32.toNatClampNeg 1) B1918 (by decide) (by decide)) rfl)))) ct4.2)⟩
                    have bd1966 : (m1884 17).toInt = 0 → rf_bd 0 (upd (upd (upd (upd f2 (Int32.toNatClampNeg z1916) (m976 14)) (Int32.toNatClampNeg z1928) (m1749 14)) (Int32.toNatClampNeg z1941) (m1803 14)) (Int32.toNatClampNeg z1954) v1903) := fun z => (sf_pos B1899 (by decide) z)
                    refine pm_R_lo pm_M185 (pc' := 52) (ls' := [.ref 41, .int 0, .int 2, .int 4, .int 10, .int 0, .int (f2 0), .int 4]) (st' := []) rfl rfl rfl ?_
                    refine pm_R_br pm_M185 (pc' := 19) rfl rfl ?_
                    refine pm_R_lo pm_M185 (pc' := 21) rfl rfl rfl ?_
                    refine pm_R_lo pm_M185 (pc' := 22) rfl rfl rfl ?_
                    refine pm_R_br pm_M185 (pc' := 55) (st' := []) rfl rfl ?_
                    refine pm_R_lo pm_M185 (pc' := 56) rfl rfl rfl ?_
                    refine rf_R_get pm_M185 T1961 (pc' := 59) (v := .ref 51) rfl rfl rfl rfl ?_
                    refine pm_R_lo pm_M185 (pc' := 60) rfl rfl rfl ?_
                    refine pm_R_op pm_M185 (pc' := 61) (st' := [.int 0, .ref 51, .int 0, .ref 51]) rfl rfl rfl ?_
                    refine pm_R_iald pm_M185 (pc' := 62) (v := (f2 0)) rfl e1963 (Nat.lt_of_lt_of_le (by decide) T1961.1) rfl (Eq.trans (sf_upd_ne (j := Int32.toNatClampNeg 0) B1956 (by decide) (by decide)) (Eq.trans (sf_upd_ne (j := Int32.toNatClampNeg 0) B1943 (by decide) (by decide)) (Eq.trans (sf_upd_ne (j := Int32.toNatClampNeg 0) B1930 (by decide) (by decide)) (Eq.trans (sf_upd_ne (j := Int32.toNatClampNeg 0) B1918 (by decide) (by decide)) rfl)))) rfl ?_
                    refine pm_R_op pm_M185 (pc' := 63) (st' := [.int 1, .int (f2 0), .int 0, .ref 51]) rfl rfl rfl ?_
                    refine sf_R_iadd pm_M185 (pc' := 64) rfl rfl B968 sf_k1 (by decide) (by decide) (fun z1969 e1970 B1971 => ?_)
                    refine rf_R_ist pm_M185 T1961 (pc' := 65) rfl e1963 (by decide) (by decide) rfl ⟨_, rfl⟩ rfl (fun h1972 T1973 F1974 e1975 => ?_)
                    have F1976 := F1964.trans F1974 (by decide)
                    have ct1977 : rf_ct 0 (upd (upd (upd (upd (upd f2 (Int32.toNatClampNeg z1916) (m976 14)) (Int32.toNatClampNeg z1928) (m1749 14)) (Int32.toNatClampNeg z1941) (m1803 14)) (Int32.toNatClampNeg z1954) v1903) (Int32.toNatClampNeg 0) z1969) := ⟨(sf_eqL rfl (sf_weak B1971 (by decide) (by decide))), (sf_eqL (Eq.trans (show (upd (upd (upd (upd (upd f2 (Int32.toNatClampNeg z1916) (m976 14)) (Int32.toNatClampNeg z1928) (m1749 14)) (Int32.toNatClampNeg z1941) (m1803 14)) (Int32.toNatClampNeg z1954) v1903) (Int32.toNatClampNeg 0) z1969) (Int32.toNatClampNeg 1) = (upd (upd (upd (upd f2 (Int32.toNatClampNeg z1916) (m976 14)) (Int32.toNatClampNeg z1928) (m1749 14)) (Int32.toNatClampNeg z1941) (m1803 14)) (Int32.toNatClampNeg z1954) v1903) (Int32.toNatClampNeg 1) from rfl) (Eq.trans (sf_upd_ne (j := Int32.toNatClampNeg 1) B1956 (by decide) (by decide)) (Eq.trans (sf_upd_ne (j := Int32.toNatClampNeg 1) B1943 (by decide) (by decide)) (Eq.trans (sf_upd_ne (j := Int32.toNatClampNeg 1) B1930 (by decide) (by decide)) (Eq.trans (sf_upd_ne (j := Int32.toNatClampNeg 1) B1918 (by decide) (by decide)) rfl))))) ct4.2)⟩
                    have bd1978 : (m1884 17).toInt = 0 → rf_bd 0 (upd (upd (upd (upd (upd f2 (Int32.toNatClampNeg z1916) (m976 14)) (Int32.toNatClampNeg z1928) (m1749 14)) (Int32.toNatClampNeg z1941) (m1803 14)) (Int32.toNatClampNeg z1954) v1903) (Int32.toNatClampNeg 0) z1969) := fun z => (sf_pos B1899 (by decide) z)
                    refine pm_R_ret pm_M185 (r := none) rfl rfl ?_
                    show pm_R _ 187 134 [.ref 41, .long a0, pm_no, .int a1] [] _ _
                    refine pm_R_op pm_M187 (pc' := 135) (st' := [.int 1]) (pm_q187_1 (Nat.le_of_ble_eq_true rfl)) rfl rfl ?_
                    have B1979 : sf_B 0 600 (m1884 10) := T1973.2.2.1 10
                    exact pm_R_ret pm_M187 (r := some (.int 1)) (pm_q187_1 (Nat.le_of_ble_eq_true rfl)) rfl (K1 m1884 w1885 h1972 T1973 F1976 W1902 (⟨(upd (upd (upd (upd (upd f2 (Int32.toNatClampNeg z1916) (m976 14)) (Int32.toNatClampNeg z1928) (m1749 14)) (Int32.toNatClampNeg z1941) (m1803 14)) (Int32.toNatClampNeg z1954) v1903) (Int32.toNatClampNeg 0) z1969), e1975, ct1977, fun z => (sf_pos B1899 (by decide) z)⟩) (sf_aux84 _ _ _ _ _ _ _ _ X982 X1755 X1809 X1865 X1891))
                · have B1980 : sf_B 0 5 (m1803 14) := sf_leL (Int32.not_lt.mp c1826) B1819 sf_k5
                  refine pm_R_lo pm_M183 (pc' := 32) rfl rfl rfl ?_
                  refine rf_R_get pm_M183 T1822 (pc' := 35) (v := .int (m1803 14)) rfl rfl rfl rfl ?_
                  refine pm_R_lo pm_M183 (pc' := 36) rfl rfl rfl ?_
                  refine pm_R_icmp pm_M183 (t := 53) (pc' := 39) rfl rfl rfl (fun c1981 => ?_) (fun c1981 => absurd (Classical.not_not.mp c1981) (sf_neq1 B1980 sf_kn1 (by decide)))
                  skip
                  refine pm_R_lo pm_M183 (pc' := 54) rfl rfl rfl ?_
                  refine pm_R_cv pm_M183 (pc' := 57) (a := 41) (ra := []) (rest := []) (ls' := [.ref 41, pm_no, pm_no]) rfl rfl (Or.inl rfl) pm_M179 T1822.2.1 rfl (by decide) (Nat.lt_of_lt_of_le (by decide) T1822.1) rfl rfl (Nat.le_of_ble_eq_true rfl) rfl rfl ?_
                  have B1982 : sf_B 0 600 (m1803 10) := T1822.2.2.1 10
                  refine rf_c179 (d := d + 0) T1822  (fun m1985 w1986 h1987 T1988 F1989 W1990 X1991 X1992 => ?_)
                  have F1993 := F1825.trans F1989 (by decide)
                  have B1994 : sf_B 1 4 (m1985 17) := by rw [W1990 17 (by decide)]; exact B1812
                  have ek1995 : (m1985 17).toInt = ((m1776 17)).toInt := by rw [W1990 17 (by decide)]; exact ek1813
                  have B1996 : sf_B 0 0 (m1985 22) := by rw [W1990 22 (by decide)]; exact B1814
                  have W1997 : rf_W [10, 12, 13, 14, 16, 17, 18, 22] m m1985 := W1815.trans W1990 (by decide)
                  show pm_R _ 183 57 [.ref 41, .int 2, .int 5, .int (-1)] [] _ _
                  refine pm_R_op pm_M183 (pc' := 58) (st' := [.int 1]) rfl rfl rfl ?_
                  refine pm_R_ret pm_M183 (r := some (.int 1)) rfl rfl ?_
                  show pm_R _ 187 112 [.ref 41, .long a0, pm_no, .int a1] [.int 1] _ _
                  refine pm_R_br pm_M187 (pc' := 115) (st' := []) (pm_q187_1 (Nat.le_of_ble_eq_true rfl)) rfl ?_
                  refine pm_R_lo pm_M187 (pc' := 116) (pm_q187_1 (Nat.le_of_ble_eq_true rfl)) rfl rfl ?_
                  refine pm_R_cv pm_M187 (pc' := 119) (a := 41) (ra := []) (rest := []) (ls' := [.ref 41, pm_no, pm_no]) (pm_q187_1 (Nat.le_of_ble_eq_true rfl)) rfl (Or.inl rfl) pm_M188 T1988.2.1 rfl (by decide) (Nat.lt_of_lt_of_le (by decide) T1988.1) rfl rfl (Nat.le_of_ble_eq_true rfl) rfl rfl ?_
                  have e1998 := (F1989.cell (by decide) e1824)
                  refine rf_c188 (d := d + 0) T1988  (fun m2001 w2002 h2003 T2004 F2005 W2006 X2007 => ?_) (fun m2010 w2011 h2012 T2013 F2014 W2015 X2016 X2017 => ?_)
                  · have F2018 := F1993.trans F2005 (by decide)
                    have B2019 : sf_B 1 4 (m2001 17) := by rw [W2006 17 (by decide)]; exact B1994
                    have ek2020 : (m2001 17).toInt = ((m1776 17)).toInt := by rw [W2006 17 (by decide)]; exact ek1995
                    have B2021 : sf_B 0 0 (m2001 22) := by rw [W2006 22 (by decide)]; exact B1996
                    have W2022 : rf_W [10, 12, 13, 14, 16, 17, 18, 22] m m2001 := W1997.trans W2006 (by decide)
                    show pm_R _ 187 119 [.ref 41, .long a0, pm_no, .int a1] [.int 0] _ _
                    refine pm_R_br pm_M187 (pc' := 122) (st' := []) (pm_q187_1 (Nat.le_of_ble_eq_true rfl)) rfl ?_
                    refine pm_R_op pm_M187 (pc' := 123) (st' := [.int 0]) (pm_q187_1 (Nat.le_of_ble_eq_true rfl)) rfl rfl ?_
                    have B2023 : sf_B 0 600 (m2001 10) := T2004.2.2.1 10
                    exact pm_R_ret pm_M187 (r := some (.int 0)) (pm_q187_1 (Nat.le_of_ble_eq_true rfl)) rfl (K0 m2001 w2002 h2003 T2004 F2018 W2022 (sf_aux85 _ _ _ _ _ _ _ X982 X1755 X1809 X1991 X2007))
                  · have F2024 := F1993.trans F2014 (by decide)
                    have B2025 : sf_B 1 4 (m2010 17) := by rw [W2015 17 (by decide)]; exact B1994
                    have ek2026 : (m2010 17).toInt = ((m1776 17)).toInt := by rw [W2015 17 (by decide)]; exact ek1995
                    have B2027 : sf_B 0 0 (m2010 22) := by rw [W2015 22 (by decide)]; exact B1996
                    have W2028 : rf_W [10, 12, 13, 14, 16, 17, 18, 22] m m2010 := W1997.trans W2015 (by decide)
                    show pm_R _ 187 119 [.ref 41, .long a0, pm_no, .int a1] [.int 1] _ _
                    obtain ⟨v2029, B2030, e2031⟩ := X2016 _ e1998
                    refine pm_R_br pm_M187 (pc' := 124) (st' := []) (pm_q187_1 (Nat.le_of_ble_eq_true rfl)) rfl ?_
                    refine pm_R_lo pm_M187 (pc' := 125) (pm_q187_1 (Nat.le_of_ble_eq_true rfl)) rfl rfl ?_
                    refine pm_R_op pm_M187 (pc' := 126) (st' := [.int 0, .ref 41]) (pm_q187_1 (Nat.le_of_ble_eq_true rfl)) rfl rfl ?_
                    refine pm_R_op pm_M187 (pc' := 127) (st' := [.int 2, .int 0, .ref 41]) (pm_q187_1 (Nat.le_of_ble_eq_true rfl)) rfl rfl ?_
                    refine pm_R_op pm_M187 (pc' := 128) (st' := [.int 4, .int 2, .int 0, .ref 41]) (pm_q187_1 (Nat.le_of_ble_eq_true rfl)) rfl rfl ?_
                    refine pm_R_op pm_M187 (pc' := 130) (st' := [.int 10, .int 4, .int 2, .int 0, .ref 41]) (pm_q187_1 (Nat.le_of_ble_eq_true rfl)) rfl rfl ?_
                    refine pm_R_op pm_M187 (pc' := 131) (st' := [.int 0, .int 10, .int 4, .int 2, .int 0, .ref 41]) (pm_q187_1 (Nat.le_of_ble_eq_true rfl)) rfl rfl ?_
                    refine pm_R_cv pm_M187 (pc' := 134) (a := 41) (ra := [.int 0, .int 10, .int 4, .int 2, .int 0]) (rest := []) (ls' := [.ref 41, .int 0, .int 2, .int 4, .int 10, .int 0, pm_no, pm_no]) (pm_q187_1 (Nat.le_of_ble_eq_true rfl)) rfl (Or.inl rfl) pm_M185 T2013.2.1 rfl (by decide) (Nat.lt_of_lt_of_le (by decide) T2013.1) rfl rfl (Nat.le_of_ble_eq_true rfl) rfl rfl ?_
                    refine pm_R_lo pm_M185 (pc' := 1) rfl rfl rfl ?_
                    refine rf_R_get pm_M185 T2013 (pc' := 4) (v := .ref 51) rfl rfl rfl rfl ?_
                    refine pm_R_lo pm_M185 (pc' := 5) rfl rfl rfl ?_
                    have e2032 := (F2014.cell (by decide) (F1989.cell (by decide) (F1823.cell (by decide) (F1807.cell (by decide) (F1789.cell (by decide) (F1780.cell (by decide) (F1768.cell (by decide) (F1753.cell (by decide) (F1000.cell (by decide) (F980.cell (by decide) e3))))))))))
                    refine pm_R_iald pm_M185 (pc' := 6) (v := (f2 0)) rfl e2032 (Nat.lt_of_lt_of_le (by decide) T2013.1) rfl rfl rfl ?_
                    refine pm_R_lo pm_M185 (pc' := 8) (ls' := [.ref 41, .int 0, .int 2, .int 4, .int 10, .int 0, .int (f2 0), pm_no]) (st' := []) rfl rfl rfl ?_
                    refine pm_R_lo pm_M185 (pc' := 10) rfl rfl rfl ?_
                    refine pm_R_lo pm_M185 (pc' := 12) rfl rfl rfl ?_
                    refine pm_R_icmp pm_M185 (t := 16) (pc' := 15) rfl rfl rfl (fun c2035 => ?_) (fun c2035 => absurd (Classical.not_not.mp c2035) (sf_neq2 B968 sf_k10 (by decide)))
                    skip
                    refine pm_R_op pm_M185 (pc' := 17) (st' := [.int 0]) rfl rfl rfl ?_
                    refine pm_R_lo pm_M185 (pc' := 19) (ls' := [.ref 41, .int 0, .int 2, .int 4, .int 10, .int 0, .int (f2 0), .int 0]) (st' := []) rfl rfl rfl ?_
                    refine pm_R_lo pm_M185 (pc' := 21) rfl rfl rfl ?_
                    refine pm_R_lo pm_M185 (pc' := 22) rfl rfl rfl ?_
                    refine pm_R_br pm_M185 (pc' := 25) (st' := []) rfl rfl ?_
                    refine pm_R_lo pm_M185 (pc' := 26) rfl rfl rfl ?_
                    refine rf_R_get pm_M185 T2013 (pc' := 29) (v := .ref 51) rfl rfl rfl rfl ?_
                    refine pm_R_lo pm_M185 (pc' := 30) rfl rfl rfl ?_
                    refine pm_R_lo pm_M185 (pc' := 31) rfl rfl rfl ?_
                    refine pm_R_lo pm_M185 (pc' := 33) rfl rfl rfl ?_
                    refine sf_R_imul pm_M185 (pc' := 34) rfl rfl sf_k4 B968 (by decide) (by decide) (by decide) (fun z2036 e2037 B2038 => ?_)
                    refine sf_R_iadd pm_M185 (pc' := 35) rfl rfl sf_k2 B2038 (by decide) (by decide) (fun z2039 e2040 B2041 => ?_)
                    refine pm_R_lo pm_M185 (pc' := 37) rfl rfl rfl ?_
                    refine sf_R_iadd pm_M185 (pc' := 38) rfl rfl B2041 sf_k0 (by decide) (by decide) (fun z2042 e2043 B2044 => ?_)
                    refine pm_R_lo pm_M185 (pc' := 39) rfl rfl rfl ?_
                    refine rf_R_get pm_M185 T2013 (pc' := 42) (v := .ref 52) rfl rfl rfl rfl ?_
                    refine pm_R_lo pm_M185 (pc' := 44) rfl rfl rfl ?_
                    refine pm_R_lo pm_M185 (pc' := 46) rfl rfl rfl ?_
                    refine pm_R_op pm_M185 (pc' := 47) (st' := [.int 0, .ref 52, .int z2042, .ref 51]) rfl rfl rfl ?_
                    refine pm_R_iald pm_M185 (pc' := 48) (v := (m976 14)) rfl e2031 (Nat.lt_of_lt_of_le (by decide) T2013.1) rfl (Eq.trans (show (upd (upd (upd (upd f995 (Int32.toNatClampNeg 0) (m976 14)) (Int32.toNatClampNeg 1) (m1749 14)) (Int32.toNatClampNeg 2) (m1803 14)) (Int32.toNatClampNeg 3) v2029) (Int32.toNatClampNeg 0) = (upd (upd (upd f995 (Int32.toNatClampNeg 0) (m976 14)) (Int32.toNatClampNeg 1) (m1749 14)) (Int32.toNatClampNeg 2) (m1803 14)) (Int32.toNatClampNeg 0) from rfl) (Eq.trans (show (upd (upd (upd f995 (Int32.toNatClampNeg 0) (m976 14)) (Int32.toNatClampNeg 1) (m1749 14)) (Int32.toNatClampNeg 2) (m1803 14)) (Int32.toNatClampNeg 0) = (upd (upd f995 (Int32.toNatClampNeg 0) (m976 14)) (Int32.toNatClampNeg 1) (m1749 14)) (Int32.toNatClampNeg 0) from rfl) (Eq.trans (show (upd (upd f995 (Int32.toNatClampNeg 0) (m976 14)) (Int32.toNatClampNeg 1) (m1749 14)) (Int32.toNatClampNeg 0) = (upd f995 (Int32.toNatClampNeg 0) (m976 14)) (Int32.toNatClampNeg 0) from rfl) rfl))) rfl ?_
                    refine rf_R_ist pm_M185 T2013 (pc' := 49) rfl e2032 (by decide) (by decide) (sf_in B2044 (by decide) (by decide)) ⟨_, rfl⟩ rfl (fun h2047 T2048 F2049 e2050 => ?_)
                    have F2051 := F2024.trans F2049 (by decide)
                    have ct2052 : rf_ct 0 (upd f2 (Int32.toNatClampNeg z2042) (m976 14)) := ⟨(sf_eqL (Eq.trans (sf_upd_ne (j := Int32.toNatClampNeg 0) B2044 (by decide) (by decide)) rfl) (sf_weak B968 (by decide) (by decide))), (sf_eqL (Eq.trans (sf_upd_ne (j := Int32.toNatClampNeg 1) B2044 (by decide) (by decide)) rfl) ct4.2)⟩
                    have bd2053 : (m2010 17).toInt = 0 → rf_bd 0 (upd f2 (Int32.toNatClampNeg z2042) (m976 14)) := fun z => (sf_pos B2025 (by decide) z)
                    refine pm_R_lo pm_M185 (pc' := 52) (ls' := [.ref 41, .int 0, .int 2, .int 4, .int 10, .int 0, .int (f2 0), .int 1]) (st' := []) rfl rfl rfl ?_
                    refine pm_R_br pm_M185 (pc' := 19) rfl rfl ?_
                    refine pm_R_lo pm_M185 (pc' := 21) rfl rfl rfl ?_
                    refine pm_R_lo pm_M185 (pc' := 22) rfl rfl rfl ?_
                    refine pm_R_br pm_M185 (pc' := 25) (st' := []) rfl rfl ?_
                    refine pm_R_lo pm_M185 (pc' := 26) rfl rfl rfl ?_
                    refine rf_R_get pm_M185 T2048 (pc' := 29) (v := .ref 51) rfl rfl rfl rfl ?_
                    refine pm_R_lo pm_M185 (pc' := 30) rfl rfl rfl ?_
                    refine pm_R_lo pm_M185 (pc' := 31) rfl rfl rfl ?_
                    refine pm_R_lo pm_M185 (pc' := 33) rfl rfl rfl ?_
                    refine sf_R_imulV pm_M185 (pc' := 34) rfl rfl sf_k4 B968 (by decide) (by decide) (by decide) e2037 ?_
                    refine sf_R_iaddV pm_M185 (pc' := 35) rfl rfl sf_k2 B2038 (by decide) (by decide) e2040 ?_
                    refine pm_R_lo pm_M185 (pc' := 37) rfl rfl rfl ?_
                    refine sf_R_iadd pm_M185 (pc' := 38) rfl rfl B2041 sf_k1 (by decide) (by decide) (fun z2054 e2055 B2056 => ?_)
                    refine pm_R_lo pm_M185 (pc' := 39) rfl rfl rfl ?_
                    refine rf_R_get pm_M185 T2048 (pc' := 42) (v := .ref 52) rfl rfl rfl rfl ?_
                    refine pm_R_lo pm_M185 (pc' := 44) rfl rfl rfl ?_
                    refine pm_R_lo pm_M185 (pc' := 46) rfl rfl rfl ?_
                    refine pm_R_op pm_M185 (pc' := 47) (st' := [.int 1, .ref 52, .int z2054, .ref 51]) rfl rfl rfl ?_
                    have e2057 := (F2049.cell (by decide) e2031)
                    refine pm_R_iald pm_M185 (pc' := 48) (v := (m1749 14)) rfl e2057 (Nat.lt_of_lt_of_le (by decide) T2048.1) rfl (Eq.trans (show (upd (upd (upd (upd f995 (Int32.toNatClampNeg 0) (m976 14)) (Int32.toNatClampNeg 1) (m1749 14)) (Int32.toNatClampNeg 2) (m1803 14)) (Int32.toNatClampNeg 3) v2029) (Int32.toNatClampNeg 1) = (upd (upd (upd f995 (Int32.toNatClampNeg 0) (m976 14)) (Int32.toNatClampNeg 1) (m1749 14)) (Int32.toNatClampNeg 2) (m1803 14)) (Int32.toNatClampNeg 1) from rfl) (Eq.trans (show (upd (upd (upd f995 (Int32.toNatClampNeg 0) (m976 14)) (Int32.toNatClampNeg 1) (m1749 14)) (Int32.toNatClampNeg 2) (m1803 14)) (Int32.toNatClampNeg 1) = (upd (upd f995 (Int32.toNatClampNeg 0) (m976 14)) (Int32.toNatClampNeg 1) (m1749 14)) (Int32.toNatClampNeg 1) from rfl) rfl)) rfl ?_
                    refine rf_R_ist pm_M185 T2048 (pc' := 49) rfl e2050 (by decide) (by decide) (sf_in B2056 (by decide) (by decide)) ⟨_, rfl⟩ rfl (fun h2060 T2061 F2062 e2063 => ?_)
                    have F2064 := F2051.trans F2062 (by decide)
                    have ct2065 : rf_ct 0 (upd (upd f2 (Int32.toNatClampNeg z2042) (m976 14)) (Int32.toNatClampNeg z2054) (m1749 14)) := ⟨(sf_eqL (Eq.trans (sf_upd_ne (j := Int32.toNatClampNeg 0) B2056 (by decide) (by decide)) (Eq.trans (sf_upd_ne (j := Int32.toNatClampNeg 0) B2044 (by decide) (by decide)) rfl)) (sf_weak B968 (by decide) (by decide))), (sf_eqL (Eq.trans (sf_upd_ne (j := Int32.toNatClampNeg 1) B2056 (by decide) (by decide)) (Eq.trans (sf_upd_ne (j := Int32.toNatClampNeg 1) B2044 (by decide) (by decide)) rfl)) ct4.2)⟩
                    have bd2066 : (m2010 17).toInt = 0 → rf_bd 0 (upd (upd f2 (Int32.toNatClampNeg z2042) (m976 14)) (Int32.toNatClampNeg z2054) (m1749 14)) := fun z => (sf_pos B2025 (by decide) z)
                    refine pm_R_lo pm_M185 (pc' := 52) (ls' := [.ref 41, .int 0, .int 2, .int 4, .int 10, .int 0, .int (f2 0), .int 2]) (st' := []) rfl rfl rfl ?_
                    refine pm_R_br pm_M185 (pc' := 19) rfl rfl ?_
                    refine pm_R_lo pm_M185 (pc' := 21) rfl rfl rfl ?_
                    refine pm_R_lo pm_M185 (pc' := 22) rfl rfl rfl ?_
                    refine pm_R_br pm_M185 (pc' := 25) (st' := []) rfl rfl ?_
                    refine pm_R_lo pm_M185 (pc' := 26) rfl rfl rfl ?_
                    refine rf_R_get pm_M185 T2061 (pc' := 29) (v := .ref 51) rfl rfl rfl rfl ?_
                    refine pm_R_lo pm_M185 (pc' := 30) rfl rfl rfl ?_
                    refine pm_R_lo pm_M185 (pc' := 31) rfl rfl rfl ?_
                    refine pm_R_lo pm_M185 (pc' := 33) rfl rfl rfl ?_
                    refine sf_R_imulV pm_M185 (pc' := 34) rfl rfl sf_k4 B968 (by decide) (by decide) (by decide) e2037 ?_
                    refine sf_R_iaddV pm_M185 (pc' := 35) rfl rfl sf_k2 B2038 (by decide) (by decide) e2040 ?_
                    refine pm_R_lo pm_M185 (pc' := 37) rfl rfl rfl ?_
                    refine sf_R_iadd pm_M185 (pc' := 38) rfl rfl B2041 sf_k2 (by decide) (by decide) (fun z2067 e2068 B2069 => ?_)
                    refine pm_R_lo pm_M185 (pc' := 39) rfl rfl rfl ?_
                    refine rf_R_get pm_M185 T2061 (pc' := 42) (v := .ref 52) rfl rfl rfl rfl ?_
                    refine pm_R_lo pm_M185 (pc' := 44) rfl rfl rfl ?_
                    refine pm_R_lo pm_M185 (pc' := 46) rfl rfl rfl ?_
                    refine pm_R_op pm_M185 (pc' := 47) (st' := [.int 2, .ref 52, .int z2067, .ref 51]) rfl rfl rfl ?_
                    have e2070 := (F2062.cell (by decide) e2057)
                    refine pm_R_iald pm_M185 (pc' := 48) (v := (m1803 14)) rfl e2070 (Nat.lt_of_lt_of_le (by decide) T2061.1) rfl (Eq.trans (show (upd (upd (upd (upd f995 (Int32.toNatClampNeg 0) (m976 14)) (Int32.toNatClampNeg 1) (m1749 14)) (Int32.toNatClampNeg 2) (m1803 14)) (Int32.toNatClampNeg 3) v2029) (Int32.toNatClampNeg 2) = (upd (upd (upd f995 (Int32.toNatClampNeg 0) (m976 14)) (Int32.toNatClampNeg 1) (m1749 14)) (Int32.toNatClampNeg 2) (m1803 14)) (Int32.toNatClampNeg 2) from rfl) rfl) rfl ?_
                    refine rf_R_ist pm_M185 T2061 (pc' := 49) rfl e2063 (by decide) (by decide) (sf_in B2069 (by decide) (by decide)) ⟨_, rfl⟩ rfl (fun h2073 T2074 F2075 e2076 => ?_)
                    have F2077 := F2064.trans F2075 (by decide)
                    have ct2078 : rf_ct 0 (upd (upd (upd f2 (Int32.toNatClampNeg z2042) (m976 14)) (Int32.toNatClampNeg z2054) (m1749 14)) (Int32.toNatClampNeg z2067) (m1803 14)) := ⟨(sf_eqL (Eq.trans (sf_upd_ne (j := Int32.toNatClampNeg 0) B2069 (by decide) (by decide)) (Eq.trans (sf_upd_ne (j := Int32.toNatClampNeg 0) B2056 (by decide) (by decide)) (Eq.trans (sf_upd_ne (j := Int32.toNatClampNeg 0) B2044 (by decide) (by decide)) rfl))) (sf_weak B968 (by decide) (by decide))), (sf_eqL (Eq.trans (sf_upd_ne (j := Int32.toNatClampNeg 1) B2069 (by decide) (by decide)) (Eq.trans (sf_upd_ne (j := Int32.toNatClampNeg 1) B2056 (by decide) (by decide)) (Eq.trans (sf_upd_ne (j := Int32.toNatClampNeg 1) B2044 (by decide) (by decide)) rfl))) ct4.2)⟩
                    have bd2079 : (m2010 17).toInt = 0 → rf_bd 0 (upd (upd (upd f2 (Int32.toNatClampNeg z2042) (m976 14)) (Int32.toNatClampNeg z2054) (m1749 14)) (Int32.toNatClampNeg z2067) (m1803 14)) := fun z => (sf_pos B2025 (by decide) z)
                    refine pm_R_lo pm_M185 (pc' := 52) (ls' := [.ref 41, .int 0, .int 2, .int 4, .int 10, .int 0, .int (f2 0), .int 3]) (st' := []) rfl rfl rfl ?_
                    refine pm_R_br pm_M185 (pc' := 19) rfl rfl ?_
                    refine pm_R_lo pm_M185 (pc' := 21) rfl rfl rfl ?_
                    refine pm_R_lo pm_M185 (pc' := 22) rfl rfl rfl ?_
                    refine pm_R_br pm_M185 (pc' := 25) (st' := []) rfl rfl ?_
                    refine pm_R_lo pm_M185 (pc' := 26) rfl rfl rfl ?_
                    refine rf_R_get pm_M185 T2074 (pc' := 29) (v := .ref 51) rfl rfl rfl rfl ?_
                    refine pm_R_lo pm_M185 (pc' := 30) rfl rfl rfl ?_
                    refine pm_R_lo pm_M185 (pc' := 31) rfl rfl rfl ?_
                    refine pm_R_lo pm_M185 (pc' := 33) rfl rfl rfl ?_
                    refine sf_R_imulV pm_M185 (pc' := 34) rfl rfl sf_k4 B968 (by decide) (by decide) (by decide) e2037 ?_
                    refine sf_R_iaddV pm_M185 (pc' := 35) rfl rfl sf_k2 B2038 (by decide) (by decide) e2040 ?_
                    refine pm_R_lo pm_M185 (pc' := 37) rfl rfl rfl ?_
                    refine sf_R_iadd pm_M185 (pc' := 38) rfl rfl B2041 sf_k3 (by decide) (by decide) (fun z2080 e2081 B2082 => ?_)
                    refine pm_R_lo pm_M185 (pc' := 39) rfl rfl rfl ?_
                    refine rf_R_get pm_M185 T2074 (pc' := 42) (v := .ref 52) rfl rfl rfl rfl ?_
                    refine pm_R_lo pm_M185 (pc' := 44) rfl rfl rfl ?_
                    refine pm_R_lo pm_M185 (pc' := 46) rfl rfl rfl ?_
                    refine pm_R_op pm_M185 (pc' := 47) (st' := [.int 3, .ref 52, .int z2080, .ref 51]) rfl rfl rfl ?_
                    have e2083 := (F2075.cell (by decide) e2070)
                    refine pm_R_iald pm_M185 (pc' := 48) (v := v2029) rfl e2083 (Nat.lt_of_lt_of_le (by decide) T2074.1) rfl rfl rfl ?_
                    refine rf_R_ist pm_M185 T2074 (pc' := 49) rfl e2076 (by decide) (by decide) (sf_in B2082 (by decide) (by decide)) ⟨_, rfl⟩ rfl (fun h2086 T2087 F2088 e2089 => ?_)
                    have F2090 := F2077.trans F2088 (by decide)
                    have ct2091 : rf_ct 0 (upd (upd (upd (upd f2 (Int32.toNatClampNeg z2042) (m976 14)) (Int32.toNatClampNeg z2054) (m1749 14)) (Int32.toNatClampNeg z2067) (m1803 14)) (Int32.toNatClampNeg z2080) v2029) := ⟨(sf_eqL (Eq.trans (sf_upd_ne (j := Int32.toNatClampNeg 0) B2082 (by decide) (by decide)) (Eq.trans (sf_upd_ne (j := Int32.toNatClampNeg 0) B2069 (by decide) (by decide)) (Eq.trans (sf_upd_ne (j := Int32.toNatClampNeg 0) B2056 (by decide) (by decide)) (Eq.trans (sf_upd_ne (j := Int32.toNatClampNeg 0) B2044 (by decide) (by decide)) rfl)))) (sf_weak B968 (by decide) (by decide))), (sf_eqL (Eq.trans (sf_upd_ne (j := Int32.toNatClampNeg 1) B2082 (by decide) (by decide)) (Eq.trans (sf_upd_ne (j := Int32.toNatClampNeg 1) B2069 (by decide) (by decide)) (Eq.trans (sf_upd_ne (j := Int32.toNatClampNeg 1) B2056 (by decide) (by decide)) (Eq.trans (sf_upd_ne (j := Int32.toNatClampNeg 1) B2044 (by decide) (by decide)) rfl)))) ct4.2)⟩
                    have bd2092 : (m2010 17).toInt = 0 → rf_bd 0 (upd (upd (upd (upd f2 (Int32.toNatClampNeg z2042) (m976 14)) (Int32.toNatClampNeg z2054) (m1749 14)) (Int32.toNatClampNeg z2067) (m1803 14)) (Int32.toNatClampNeg z2080) v2029) := fun z => (sf_pos B2025 (by decide) z)
                    refine pm_R_lo pm_M185 (pc' := 52) (ls' := [.ref 41, .int 0, .int 2, .int 4, .int 10, .int 0, .int (f2 0), .int 4]) (st' := []) rfl rfl rfl ?_
                    refine pm_R_br pm_M185 (pc' := 19) rfl rfl ?_
                    refine pm_R_lo pm_M185 (pc' := 21) rfl rfl rfl ?_
                    refine pm_R_lo pm_M185 (pc' := 22) rfl rfl rfl ?_
                    refine pm_R_br pm_M185 (pc' := 55) (st' := []) rfl rfl ?_
                    refine pm_R_lo pm_M185 (pc' := 56) rfl rfl rfl ?_
                    refine rf_R_get pm_M185 T2087 (pc' := 59) (v := .ref 51) rfl rfl rfl rfl ?_
                    refine pm_R_lo pm_M185 (pc' := 60) rfl rfl rfl ?_
                    refine pm_R_op pm_M185 (pc' := 61) (st' := [.int 0, .ref 51, .int 0, .ref 51]) rfl rfl rfl ?_
                    refine pm_R_iald pm_M185 (pc' := 62) (v := (f2 0)) rfl e2089 (Nat.lt_of_lt_of_le (by decide) T2087.1) rfl (Eq.trans (sf_upd_ne (j := Int32.toNatClampNeg 0) B2082 (by decide) (by decide)) (Eq.trans (sf_upd_ne (j := Int32.toNatClampNeg 0) B2069 (by decide) (by decide)) (Eq.trans (sf_upd_ne (j := Int32.toNatClampNeg 0) B2056 (by decide) (by decide)) (Eq.trans (sf_upd_ne (j := Int32.toNatClampNeg 0) B2044 (by decide) (by decide)) rfl)))) rfl ?_
                    refine pm_R_op pm_M185 (pc' := 63) (st' := [.int 1, .int (f2 0), .int 0, .ref 51]) rfl rfl rfl ?_
                    refine sf_R_iadd pm_M185 (pc' := 64) rfl rfl B968 sf_k1 (by decide) (by decide) (fun z2095 e2096 B2097 => ?_)
                    refine rf_R_ist pm_M185 T2087 (pc' := 65) rfl e2089 (by decide) (by decide) rfl ⟨_, rfl⟩ rfl (fun h2098 T2099 F2100 e2101 => ?_)
                    have F2102 := F2090.trans F2100 (by decide)
                    have ct2103 : rf_ct 0 (upd (upd (upd (upd (upd f2 (Int32.toNatClampNeg z2042) (m976 14)) (Int32.toNatClampNeg z2054) (m1749 14)) (Int32.toNatClampNeg z2067) (m1803 14)) (Int32.toNatClampNeg z2080) v2029) (Int32.toNatClampNeg 0) z2095) := ⟨(sf_eqL rfl (sf_weak B2097 (by decide) (by decide))), (sf_eqL (Eq.trans (show (upd (upd (upd (upd (upd f2 (Int32.toNatClampNeg z2042) (m976 14)) (Int32.toNatClampNeg z2054) (m1749 14)) (Int32.toNatClampNeg z2067) (m1803 14)) (Int32.toNatClampNeg z2080) v2029) (Int32.toNatClampNeg 0) z2095) (Int32.toNatClampNeg 1) = (upd (upd (upd (upd f2 (Int32.toNatClampNeg z2042) (m976 14)) (Int32.toNatClampNeg z2054) (m1749 14)) (Int32.toNatClampNeg z2067) (m1803 14)) (Int32.toNatClampNeg z2080) v2029) (Int32.toNatClampNeg 1) from rfl) (Eq.trans (sf_upd_ne (j := Int32.toNatClampNeg 1) B2082 (by decide) (by decide)) (Eq.trans (sf_upd_ne (j := Int32.toNatClampNeg 1) B2069 (by decide) (by decide)) (Eq.trans (sf_upd_ne (j := Int32.toNatClampNeg 1) B2056 (by decide) (by decide)) (Eq.trans (sf_upd_ne (j := Int32.toNatClampNeg 1) B2044 (by decide) (by decide)) rfl))))) ct4.2)⟩
                    have bd2104 : (m2010 17).toInt = 0 → rf_bd 0 (upd (upd (upd (upd (upd f2 (Int32.toNatClampNeg z2042) (m976 14)) (Int32.toNatClampNeg z2054) (m1749 14)) (Int32.toNatClampNeg z2067) (m1803 14)) (Int32.toNatClampNeg z2080) v2029) (Int32.toNatClampNeg 0) z2095) := fun z => (sf_pos B2025 (by decide) z)
                    refine pm_R_ret pm_M185 (r := none) rfl rfl ?_
                    show pm_R _ 187 134 [.ref 41, .long a0, pm_no, .int a1] [] _ _
                    refine pm_R_op pm_M187 (pc' := 135) (st' := [.int 1]) (pm_q187_1 (Nat.le_of_ble_eq_true rfl)) rfl rfl ?_
                    have B2105 : sf_B 0 600 (m2010 10) := T2099.2.2.1 10
                    exact pm_R_ret pm_M187 (r := some (.int 1)) (pm_q187_1 (Nat.le_of_ble_eq_true rfl)) rfl (K1 m2010 w2011 h2098 T2099 F2102 W2028 (⟨(upd (upd (upd (upd (upd f2 (Int32.toNatClampNeg z2042) (m976 14)) (Int32.toNatClampNeg z2054) (m1749 14)) (Int32.toNatClampNeg z2067) (m1803 14)) (Int32.toNatClampNeg z2080) v2029) (Int32.toNatClampNeg 0) z2095), e2101, ct2103, fun z => (sf_pos B2025 (by decide) z)⟩) (sf_aux85 _ _ _ _ _ _ _ X982 X1755 X1809 X1991 X2017))
              · skip
                refine pm_R_lo pm_M183 (pc' := 9) rfl rfl rfl ?_
                refine pm_R_cv pm_M183 (pc' := 12) (a := 41) (ra := []) (rest := []) (ls' := [.ref 41]) rfl rfl (Or.inl rfl) pm_M184 T1806.2.1 rfl (by decide) (Nat.lt_of_lt_of_le (by decide) T1806.1) rfl rfl (Nat.le_of_ble_eq_true rfl) rfl rfl ?_
                refine pm_R_lo pm_M184 (pc' := 1) rfl rfl rfl ?_
                refine pm_R_lo pm_M184 (pc' := 2) rfl rfl rfl ?_
                have B2106 : sf_B 0 600 (m1803 12) := T1806.2.2.1 12
                refine rf_R_get pm_M184 T1806 (pc' := 5) (v := .int (m1803 12)) rfl rfl rfl rfl ?_
                refine rf_R_put pm_M184 T1806 (pc' := 8) rfl rfl rfl (by decide) rfl rfl B2106 rfl rfl (fun h2107 m2110 em2111 T2108 F2109 => ?_)
                have F2112 := F1811.trans F2109 (by decide)
                have B2113 : sf_B 1 4 (m2110 17) := by rw [em2111]; exact B1812
                have ek2114 : (m2110 17).toInt = ((m1776 17)).toInt := by rw [em2111]; exact ek1813
                have B2115 : sf_B 0 0 (m2110 22) := by rw [em2111]; exact B1814
                have B2116 : sf_B 0 600 (m2110 16) := by rw [em2111]; exact B2106
                have ek2117 : (m2110 16).toInt = ((m1803 12)).toInt := by rw [em2111]; rfl
                have W2118 : rf_W [10, 12, 13, 14, 16, 17, 18, 22] m m2110 := by rw [em2111]; exact W1815.put (by decide)
                refine pm_R_op pm_M184 (pc' := 9) (st' := [.int 0]) rfl rfl rfl ?_
                refine pm_R_ret pm_M184 (r := some (.int 0)) rfl rfl ?_
                show pm_R _ 183 12 [.ref 41, .int 2, .int 5, .int (-1)] [.int 0] _ _
                refine pm_R_ret pm_M183 (r := some (.int 0)) rfl rfl ?_
                show pm_R _ 187 112 [.ref 41, .long a0, pm_no, .int a1] [.int 0] _ _
                refine pm_R_br pm_M187 (pc' := 122) (st' := []) (pm_q187_1 (Nat.le_of_ble_eq_true rfl)) rfl ?_
                refine pm_R_op pm_M187 (pc' := 123) (st' := [.int 0]) (pm_q187_1 (Nat.le_of_ble_eq_true rfl)) rfl rfl ?_
                have B2119 : sf_B 0 600 (m2110 10) := T2108.2.2.1 10
                exact pm_R_ret pm_M187 (r := some (.int 0)) (pm_q187_1 (Nat.le_of_ble_eq_true rfl)) rfl (K0 m2110 w1804 h2107 T2108 F2112 W2118 (sf_aux86 _ _ _ _ _ _ X982 X1755 X1809))
            · have B2120 : sf_B 0 5 (m1749 14) := sf_leL (Int32.not_lt.mp c1771) B1764 sf_k5
              refine pm_R_lo pm_M183 (pc' := 32) rfl rfl rfl ?_
              refine rf_R_get pm_M183 T1767 (pc' := 35) (v := .int (m1749 14)) rfl rfl rfl rfl ?_
              refine pm_R_lo pm_M183 (pc' := 36) rfl rfl rfl ?_
              refine pm_R_icmp pm_M183 (t := 53) (pc' := 39) rfl rfl rfl (fun c2121 => ?_) (fun c2121 => absurd (Classical.not_not.mp c2121) (sf_neq1 B2120 sf_kn1 (by decide)))
              skip
              refine pm_R_lo pm_M183 (pc' := 54) rfl rfl rfl ?_
              refine pm_R_cv pm_M183 (pc' := 57) (a := 41) (ra := []) (rest := []) (ls' := [.ref 41, pm_no, pm_no]) rfl rfl (Or.inl rfl) pm_M179 T1767.2.1 rfl (by decide) (Nat.lt_of_lt_of_le (by decide) T1767.1) rfl rfl (Nat.le_of_ble_eq_true rfl) rfl rfl ?_
              have B2122 : sf_B 0 600 (m1749 10) := T1767.2.2.1 10
              refine rf_c179 (d := d + 0) T1767  (fun m2125 w2126 h2127 T2128 F2129 W2130 X2131 X2132 => ?_)
              have F2133 := F1770.trans F2129 (by decide)
              have B2134 : sf_B 0 4 (m2125 17) := by rw [W2130 17 (by decide)]; exact B1758
              have ek2135 : (m2125 17).toInt = ((m 17)).toInt := by rw [W2130 17 (by decide)]; exact ek1759
              have W2136 : rf_W [10, 12, 13, 14, 16, 17, 18, 22] m m2125 := W1760.trans W2130 (by decide)
              show pm_R _ 183 57 [.ref 41, .int 1, .int 5, .int (-1)] [] _ _
              refine pm_R_op pm_M183 (pc' := 58) (st' := [.int 1]) rfl rfl rfl ?_
              refine pm_R_ret pm_M183 (r := some (.int 1)) rfl rfl ?_
              show pm_R _ 187 102 [.ref 41, .long a0, pm_no, .int a1] [.int 1] _ _
              refine pm_R_br pm_M187 (pc' := 105) (st' := []) rfl rfl ?_
              refine pm_R_lo pm_M187 (pc' := 106) rfl rfl rfl ?_
              refine pm_R_op pm_M187 (pc' := 107) (st' := [.int 2, .ref 41]) rfl rfl rfl ?_
              refine pm_R_op pm_M187 (pc' := 108) (st' := [.int 5, .int 2, .ref 41]) rfl rfl rfl ?_
              refine pm_R_op pm_M187 (pc' := 109) (st' := [.int (-1), .int 5, .int 2, .ref 41]) (pm_q187_1 (Nat.le_of_ble_eq_true rfl)) rfl rfl ?_
              refine pm_R_cv pm_M187 (pc' := 112) (a := 41) (ra := [.int (-1), .int 5, .int 2]) (rest := []) (ls' := [.ref 41, .int 2, .int 5, .int (-1)]) (pm_q187_1 (Nat.le_of_ble_eq_true rfl)) rfl (Or.inl rfl) pm_M183 T2128.2.1 rfl (by decide) (Nat.lt_of_lt_of_le (by decide) T2128.1) rfl rfl (Nat.le_of_ble_eq_true rfl) rfl rfl ?_
              refine pm_R_lo pm_M183 (pc' := 1) rfl rfl rfl ?_
              have B2137 : sf_B 0 4 (m2125 13) := T2128.2.2.1 13
              refine rf_R_get pm_M183 T2128 (pc' := 4) (v := .int (m2125 13)) rfl rfl rfl rfl ?_
              refine pm_R_op pm_M183 (pc' := 5) (st' := [.int 3, .int (m2125 13)]) rfl rfl rfl ?_
              refine pm_R_icmp pm_M183 (t := 13) (pc' := 8) rfl rfl rfl (fun c2138 => ?_) (fun c2138 => ?_)
              · have B2139 : sf_B 3 3 (m2125 13) := sf_eqL c2138 sf_k3
                refine pm_R_lo pm_M183 (pc' := 14) rfl rfl rfl ?_
                refine rf_R_get pm_M183 T2128 (pc' := 17) (v := .ref 52) rfl rfl rfl rfl ?_
                refine pm_R_lo pm_M183 (pc' := 18) rfl rfl rfl ?_
                refine pm_R_lo pm_M183 (pc' := 19) rfl rfl rfl ?_
                have B2140 : sf_B 0 99 (m2125 14) := T2128.2.2.1 14
                refine rf_R_get pm_M183 T2128 (pc' := 22) (v := .int (m2125 14)) rfl rfl rfl rfl ?_
                have e2141 := (F2129.cell (by decide) e1769)
                refine rf_R_ist pm_M183 T2128 (pc' := 23) rfl e2141 (by decide) (by decide) rfl ⟨_, rfl, sf_upd (sf_upd (sf_upd b997 (sf_weak B994 (by decide) (by decide)) _) (sf_weak B1764 (by decide) (by decide)) _) (sf_weak B2140 (by decide) (by decide)) _⟩ rfl (fun h2142 T2143 F2144 e2145 => ?_)
                have F2146 := F2133.trans F2144 (by decide)
                refine pm_R_lo pm_M183 (pc' := 24) rfl rfl rfl ?_
                refine rf_R_get pm_M183 T2143 (pc' := 27) (v := .int (m2125 14)) rfl rfl rfl rfl ?_
                refine pm_R_lo pm_M183 (pc' := 28) rfl rfl rfl ?_
                refine pm_R_icmp pm_M183 (t := 39) (pc' := 31) rfl rfl rfl (fun c2147 => ?_) (fun c2147 => ?_)
                · have B2148 : sf_B 6 99 (m2125 14) := sf_ltR c2147 sf_k5 B2140
                  refine pm_R_lo pm_M183 (pc' := 40) rfl rfl rfl ?_
                  refine pm_R_op pm_M183 (pc' := 41) (st' := [.int 2, .ref 41]) rfl rfl rfl ?_
                  refine pm_R_lo pm_M183 (pc' := 42) rfl rfl rfl ?_
                  have B2149 : sf_B 0 600 (m2125 12) := T2143.2.2.1 12
                  refine rf_R_get pm_M183 T2143 (pc' := 45) (v := .int (m2125 12)) rfl rfl rfl rfl ?_
                  refine pm_R_cv pm_M183 (pc' := 48) (a := 41) (ra := [.int (m2125 12), .int 2]) (rest := []) (ls' := [.ref 41, .int 2, .int (m2125 12)]) rfl rfl (Or.inl rfl) pm_M182 T2143.2.1 rfl (by decide) (Nat.lt_of_lt_of_le (by decide) T2143.1) rfl rfl (Nat.le_of_ble_eq_true rfl) rfl rfl ?_
                  refine rf_c182 (d := d + 1) T2143 (sf_weak sf_k2 (by decide) (by decide)) B2149 (fun m2152 w2153 h2154 T2155 F2156 W2157 B2158 => ?_)
                  have F2159 := F2146.trans F2156 (by decide)
                  have B2160 : sf_B 3 3 (m2152 13) := by rw [W2157 13 (by decide)]; exact B2139
                  have B2161 : sf_B 6 99 (m2152 14) := by rw [W2157 14 (by decide)]; exact B2148
                  have W2162 : rf_W [10, 12, 13, 14, 16, 17, 18, 22] m m2152 := W2136.trans W2157 (by decide)
                  show pm_R _ 183 48 [.ref 41, .int 2, .int 5, .int (-1)] [] _ _
                  refine pm_R_lo pm_M183 (pc' := 49) rfl rfl rfl ?_
                  refine pm_R_op pm_M183 (pc' := 50) (st' := [.int 0, .ref 41]) rfl rfl rfl ?_
                  refine rf_R_put pm_M183 T2155 (pc' := 53) rfl rfl rfl (by decide) rfl rfl (sf_weak sf_k0 (by decide) (by decide)) rfl rfl (fun h2163 m2166 em2167 T2164 F2165 => ?_)
                  have F2168 := F2159.trans F2165 (by decide)
                  have B2169 : sf_B 3 3 (m2166 13) := by rw [em2167]; exact B2160
                  have B2170 : sf_B 6 99 (m2166 14) := by rw [em2167]; exact B2161
                  have B2171 : sf_B 1 4 (m2166 17) := by rw [em2167]; exact B2158
                  have ek2172 : (m2166 17).toInt = ((m2152 17)).toInt := by rw [em2167]; rfl
                  have B2173 : sf_B 0 0 (m2166 22) := by rw [em2167]; exact sf_k0
                  have W2175 : rf_W [10, 12, 13, 14, 16, 17, 18, 22] m m2166 := by rw [em2167]; exact W2162.put (by decide)
                  refine pm_R_lo pm_M183 (pc' := 54) rfl rfl rfl ?_
                  refine pm_R_cv pm_M183 (pc' := 57) (a := 41) (ra := []) (rest := []) (ls' := [.ref 41, pm_no, pm_no]) rfl rfl (Or.inl rfl) pm_M179 T2164.2.1 rfl (by decide) (Nat.lt_of_lt_of_le (by decide) T2164.1) rfl rfl (Nat.le_of_ble_eq_true rfl) rfl rfl ?_
                  have B2176 : sf_B 0 600 (m2166 10) := T2164.2.2.1 10
                  refine rf_c179 (d := d + 0) T2164  (fun m2179 w2180 h2181 T2182 F2183 W2184 X2185 X2186 => ?_)
                  have F2187 := F2168.trans F2183 (by decide)
                  have B2188 : sf_B 1 4 (m2179 17) := by rw [W2184 17 (by decide)]; exact B2171
                  have ek2189 : (m2179 17).toInt = ((m2152 17)).toInt := by rw [W2184 17 (by decide)]; exact ek2172
                  have B2190 : sf_B 0 0 (m2179 22) := by rw [W2184 22 (by decide)]; exact B2173
                  have W2191 : rf_W [10, 12, 13, 14, 16, 17, 18, 22] m m2179 := W2175.trans W2184 (by decide)
                  show pm_R _ 183 57 [.ref 41, .int 2, .int 5, .int (-1)] [] _ _
                  refine pm_R_op pm_M183 (pc' := 58) (st' := [.int 1]) rfl rfl rfl ?_
                  refine pm_R_ret pm_M183 (r := some (.int 1)) rfl rfl ?_
                  show pm_R _ 187 112 [.ref 41, .long a0, pm_no, .int a1] [.int 1] _ _
                  refine pm_R_br pm_M187 (pc' := 115) (st' := []) (pm_q187_1 (Nat.le_of_ble_eq_true rfl)) rfl ?_
                  refine pm_R_lo pm_M187 (pc' := 116) (pm_q187_1 (Nat.le_of_ble_eq_true rfl)) rfl rfl ?_
                  refine pm_R_cv pm_M187 (pc' := 119) (a := 41) (ra := []) (rest := []) (ls' := [.ref 41, pm_no, pm_no]) (pm_q187_1 (Nat.le_of_ble_eq_true rfl)) rfl (Or.inl rfl) pm_M188 T2182.2.1 rfl (by decide) (Nat.lt_of_lt_of_le (by decide) T2182.1) rfl rfl (Nat.le_of_ble_eq_true rfl) rfl rfl ?_
                  have e2192 := (F2183.cell (by decide) (F2165.cell (by decide) (F2156.cell (by decide) e2145)))
                  refine rf_c188 (d := d + 0) T2182  (fun m2195 w2196 h2197 T2198 F2199 W2200 X2201 => ?_) (fun m2204 w2205 h2206 T2207 F2208 W2209 X2210 X2211 => ?_)
                  · have F2212 := F2187.trans F2199 (by decide)
                    have B2213 : sf_B 1 4 (m2195 17) := by rw [W2200 17 (by decide)]; exact B2188
                    have ek2214 : (m2195 17).toInt = ((m2152 17)).toInt := by rw [W2200 17 (by decide)]; exact ek2189
                    have B2215 : sf_B 0 0 (m2195 22) := by rw [W2200 22 (by decide)]; exact B2190
                    have W2216 : rf_W [10, 12, 13, 14, 16, 17, 18, 22] m m2195 := W2191.trans W2200 (by decide)
                    show pm_R _ 187 119 [.ref 41, .long a0, pm_no, .int a1] [.int 0] _ _
                    refine pm_R_br pm_M187 (pc' := 122) (st' := []) (pm_q187_1 (Nat.le_of_ble_eq_true rfl)) rfl ?_
                    refine pm_R_op pm_M187 (pc' := 123) (st' := [.int 0]) (pm_q187_1 (Nat.le_of_ble_eq_true rfl)) rfl rfl ?_
                    have B2217 : sf_B 0 600 (m2195 10) := T2198.2.2.1 10
                    exact pm_R_ret pm_M187 (r := some (.int 0)) (pm_q187_1 (Nat.le_of_ble_eq_true rfl)) rfl (K0 m2195 w2196 h2197 T2198 F2212 W2216 (sf_aux87 _ _ _ _ _ _ _ X982 X1755 X2131 X2185 X2201))
                  · have F2218 := F2187.trans F2208 (by decide)
                    have B2219 : sf_B 1 4 (m2204 17) := by rw [W2209 17 (by decide)]; exact B2188
                    have ek2220 : (m2204 17).toInt = ((m2152 17)).toInt := by rw [W2209 17 (by decide)]; exact ek2189
                    have B2221 : sf_B 0 0 (m2204 22) := by rw [W2209 22 (by decide)]; exact B2190
                    have W2222 : rf_W [10, 12, 13, 14, 16, 17, 18, 22] m m2204 := W2191.trans W2209 (by decide)
                    show pm_R _ 187 119 [.ref 41, .long a0, pm_no, .int a1] [.int 1] _ _
                    obtain ⟨v2223, B2224, e2225⟩ := X2210 _ e2192
                    refine pm_R_br pm_M187 (pc' := 124) (st' := []) (pm_q187_1 (Nat.le_of_ble_eq_true rfl)) rfl ?_
                    refine pm_R_lo pm_M187 (pc' := 125) (pm_q187_1 (Nat.le_of_ble_eq_true rfl)) rfl rfl ?_
                    refine pm_R_op pm_M187 (pc' := 126) (st' := [.int 0, .ref 41]) (pm_q187_1 (Nat.le_of_ble_eq_true rfl)) rfl rfl ?_
                    refine pm_R_op pm_M187 (pc' := 127) (st' := [.int 2, .int 0, .ref 41]) (pm_q187_1 (Nat.le_of_ble_eq_true rfl)) rfl rfl ?_
                    refine pm_R_op pm_M187 (pc' := 128) (st' := [.int 4, .int 2, .int 0, .ref 41]) (pm_q187_1 (Nat.le_of_ble_eq_true rfl)) rfl rfl ?_
                    refine pm_R_op pm_M187 (pc' := 130) (st' := [.int 10, .int 4, .int 2, .int 0, .ref 41]) (pm_q187_1 (Nat.le_of_ble_eq_true rfl)) rfl rfl ?_
                    refine pm_R_op pm_M187 (pc' := 131) (st' := [.int 0, .int 10, .int 4, .int 2, .int 0, .ref 41]) (pm_q187_1 (Nat.le_of_ble_eq_true rfl)) rfl rfl ?_
                    refine pm_R_cv pm_M187 (pc' := 134) (a := 41) (ra := [.int 0, .int 10, .int 4, .int 2, .int 0]) (rest := []) (ls' := [.ref 41, .int 0, .int 2, .int 4, .int 10, .int 0, pm_no, pm_no]) (pm_q187_1 (Nat.le_of_ble_eq_true rfl)) rfl (Or.inl rfl) pm_M185 T2207.2.1 rfl (by decide) (Nat.lt_of_lt_of_le (by decide) T2207.1) rfl rfl (Nat.le_of_ble_eq_true rfl) rfl rfl ?_
                    refine pm_R_lo pm_M185 (pc' := 1) rfl rfl rfl ?_
                    refine rf_R_get pm_M185 T2207 (pc' := 4) (v := .ref 51) rfl rfl rfl rfl ?_
                    refine pm_R_lo pm_M185 (pc' := 5) rfl rfl rfl ?_
                    have e2226 := (F2208.cell (by decide) (F2183.cell (by decide) (F2165.cell (by decide) (F2156.cell (by decide) (F2144.cell (by decide) (F2129.cell (by decide) (F1768.cell (by decide) (F1753.cell (by decide) (F1000.cell (by decide) (F980.cell (by decide) e3))))))))))
                    refine pm_R_iald pm_M185 (pc' := 6) (v := (f2 0)) rfl e2226 (Nat.lt_of_lt_of_le (by decide) T2207.1) rfl rfl rfl ?_
                    refine pm_R_lo pm_M185 (pc' := 8) (ls' := [.ref 41, .int 0, .int 2, .int 4, .int 10, .int 0, .int (f2 0), pm_no]) (st' := []) rfl rfl rfl ?_
                    refine pm_R_lo pm_M185 (pc' := 10) rfl rfl rfl ?_
                    refine pm_R_lo pm_M185 (pc' := 12) rfl rfl rfl ?_
                    refine pm_R_icmp pm_M185 (t := 16) (pc' := 15) rfl rfl rfl (fun c2229 => ?_) (fun c2229 => absurd (Classical.not_not.mp c2229) (sf_neq2 B968 sf_k10 (by decide)))
                    skip
                    refine pm_R_op pm_M185 (pc' := 17) (st' := [.int 0]) rfl rfl rfl ?_
                    refine pm_R_lo pm_M185 (pc' := 19) (ls' := [.ref 41, .int 0, .int 2, .int 4, .int 10, .int 0, .int (f2 0), .int 0]) (st' := []) rfl rfl rfl ?_
                    refine pm_R_lo pm_M185 (pc' := 21) rfl rfl rfl ?_
                    refine pm_R_lo pm_M185 (pc' := 22) rfl rfl rfl ?_
                    refine pm_R_br pm_M185 (pc' := 25) (st' := []) rfl rfl ?_
                    refine pm_R_lo pm_M185 (pc' := 26) rfl rfl rfl ?_
                    refine rf_R_get pm_M185 T2207 (pc' := 29) (v := .ref 51) rfl rfl rfl rfl ?_
                    refine pm_R_lo pm_M185 (pc' := 30) rfl rfl rfl ?_
                    refine pm_R_lo pm_M185 (pc' := 31) rfl rfl rfl ?_
                    refine pm_R_lo pm_M185 (pc' := 33) rfl rfl rfl ?_
                    refine sf_R_imul pm_M185 (pc' := 34) rfl rfl sf_k4 B968 (by decide) (by decide) (by decide) (fun z2230 e2231 B2232 => ?_)
                    refine sf_R_iadd pm_M185 (pc' := 35) rfl rfl sf_k2 B2232 (by decide) (by decide) (fun z2233 e2234 B2235 => ?_)
                    refine pm_R_lo pm_M185 (pc' := 37) rfl rfl rfl ?_
                    refine sf_R_iadd pm_M185 (pc' := 38) rfl rfl B2235 sf_k0 (by decide) (by decide) (fun z2236 e2237 B2238 => ?_)
                    refine pm_R_lo pm_M185 (pc' := 39) rfl rfl rfl ?_
                    refine rf_R_get pm_M185 T2207 (pc' := 42) (v := .ref 52) rfl rfl rfl rfl ?_
                    refine pm_R_lo pm_M185 (pc' := 44) rfl rfl rfl ?_
                    refine pm_R_lo pm_M185 (pc' := 46) rfl rfl rfl ?_
                    refine pm_R_op pm_M185 (pc' := 47) (st' := [.int 0, .ref 52, .int z2236, .ref 51]) rfl rfl rfl ?_
                    refine pm_R_iald pm_M185 (pc' := 48) (v := (m976 14)) rfl e2225 (Nat.lt_of_lt_of_le (by decide) T2207.1) rfl (Eq.trans (show (upd (upd (upd (upd f995 (Int32.toNatClampNeg 0) (m976 14)) (Int32.toNatClampNeg 1) (m1749 14)) (Int32.toNatClampNeg 2) (m2125 14)) (Int32.toNatClampNeg 3) v2223) (Int32.toNatClampNeg 0) = (upd (upd (upd f995 (Int32.toNatClampNeg 0) (m976 14)) (Int32.toNatClampNeg 1) (m1749 14)) (Int32.toNatClampNeg 2) (m2125 14)) (Int32.toNatClampNeg 0) from rfl) (Eq.trans (show (upd (upd (upd f995 (Int32.toNatClampNeg 0) (m976 14)) (Int32.toNatClampNeg 1) (m1749 14)) (Int32.toNatClampNeg 2) (m2125 14)) (Int32.toNatClampNeg 0) = (upd (upd f995 (Int32.toNatClampNeg 0) (m976 14)) (Int32.toNatClampNeg 1) (m1749 14)) (Int32.toNatClampNeg 0) from rfl) (Eq.trans (show (upd (upd f995 (Int32.toNatClampNeg 0) (m976 14)) (Int32.toNatClampNeg 1) (m1749 14)) (Int32.toNatClampNeg 0) = (upd f995 (Int32.toNatClampNeg 0) (m976 14)) (Int32.toNatClampNeg 0) from rfl) rfl))) rfl ?_
                    refine rf_R_ist pm_M185 T2207 (pc' := 49) rfl e2226 (by decide) (by decide) (sf_in B2238 (by decide) (by decide)) ⟨_, rfl⟩ rfl (fun h2241 T2242 F2243 e2244 => ?_)
                    have F2245 := F2218.trans F2243 (by decide)
                    have ct2246 : rf_ct 0 (upd f2 (Int32.toNatClampNeg z2236) (m976 14)) := ⟨(sf_eqL (Eq.trans (sf_upd_ne (j := Int32.toNatClampNeg 0) B2238 (by decide) (by decide)) rfl) (sf_weak B968 (by decide) (by decide))), (sf_eqL (Eq.trans (sf_upd_ne (j := Int32.toNatClampNeg 1) B2238 (by decide) (by decide)) rfl) ct4.2)⟩
                    have bd2247 : (m2204 17).toInt = 0 → rf_bd 0 (upd f2 (Int32.toNatClampNeg z2236) (m976 14)) := fun z => (sf_pos B2219 (by decide) z)
                    refine pm_R_lo pm_M185 (pc' := 52) (ls' := [.ref 41, .int 0, .int 2, .int 4, .int 10, .int 0, .int (f2 0), .int 1]) (st' := []) rfl rfl rfl ?_
                    refine pm_R_br pm_M185 (pc' := 19) rfl rfl ?_
                    refine pm_R_lo pm_M185 (pc' := 21) rfl rfl rfl ?_
                    refine pm_R_lo pm_M185 (pc' := 22) rfl rfl rfl ?_
                    refine pm_R_br pm_M185 (pc' := 25) (st' := []) rfl rfl ?_
                    refine pm_R_lo pm_M185 (pc' := 26) rfl rfl rfl ?_
                    refine rf_R_get pm_M185 T2242 (pc' := 29) (v := .ref 51) rfl rfl rfl rfl ?_
                    refine pm_R_lo pm_M185 (pc' := 30) rfl rfl rfl ?_
                    refine pm_R_lo pm_M185 (pc' := 31) rfl rfl rfl ?_
                    refine pm_R_lo pm_M185 (pc' := 33) rfl rfl rfl ?_
                    refine sf_R_imulV pm_M185 (pc' := 34) rfl rfl sf_k4 B968 (by decide) (by decide) (by decide) e2231 ?_
                    refine sf_R_iaddV pm_M185 (pc' := 35) rfl rfl sf_k2 B2232 (by decide) (by decide) e2234 ?_
                    refine pm_R_lo pm_M185 (pc' := 37) rfl rfl rfl ?_
                    refine sf_R_iadd pm_M185 (pc' := 38) rfl rfl B2235 sf_k1 (by decide) (by decide) (fun z2248 e2249 B2250 => ?_)
                    refine pm_R_lo pm_M185 (pc' := 39) rfl rfl rfl ?_
                    refine rf_R_get pm_M185 T2242 (pc' := 42) (v := .ref 52) rfl rfl rfl rfl ?_
                    refine pm_R_lo pm_M185 (pc' := 44) rfl rfl rfl ?_
                    refine pm_R_lo pm_M185 (pc' := 46) rfl rfl rfl ?_
                    refine pm_R_op pm_M185 (pc' := 47) (st' := [.int 1, .ref 52, .int z2248, .ref 51]) rfl rfl rfl ?_
                    have e2251 := (F2243.cell (by decide) e2225)
                    refine pm_R_iald pm_M185 (pc' := 48) (v := (m1749 14)) rfl e2251 (Nat.lt_of_lt_of_le (by decide) T2242.1) rfl (Eq.trans (show (upd (upd (upd (upd f995 (Int32.toNatClampNeg 0) (m976 14)) (Int32.toNatClampNeg 1) (m1749 14)) (Int32.toNatClampNeg 2) (m2125 14)) (Int32.toNatClampNeg 3) v2223) (Int32.toNatClampNeg 1) = (upd (upd (upd f995 (Int32.toNatClampNeg 0) (m976 14)) (Int32.toNatClampNeg 1) (m1749 14)) (Int32.toNatClampNeg 2) (m2125 14)) (Int32.toNatClampNeg 1) from rfl) (Eq.trans (show (upd (upd (upd f995 (Int32.toNatClampNeg 0) (m976 14)) (Int32.toNatClampNeg 1) (m1749 14)) (Int32.toNatClampNeg 2) (m2125 14)) (Int32.toNatClampNeg 1) = (upd (upd f995 (Int32.toNatClampNeg 0) (m976 14)) (Int32.toNatClampNeg 1) (m1749 14)) (Int32.toNatClampNeg 1) from rfl) rfl)) rfl ?_
                    refine rf_R_ist pm_M185 T2242 (pc' := 49) rfl e2244 (by decide) (by decide) (sf_in B2250 (by decide) (by decide)) ⟨_, rfl⟩ rfl (fun h2254 T2255 F2256 e2257 => ?_)
                    have F2258 := F2245.trans F2256 (by decide)
                    have ct2259 : rf_ct 0 (upd (upd f2 (Int32.toNatClampNeg z2236) (m976 14)) (Int32.toNatClampNeg z2248) (m1749 14)) := ⟨(sf_eqL (Eq.trans (sf_upd_ne (j := Int32.toNatClampNeg 0) B2250 (by decide) (by decide)) (Eq.trans (sf_upd_ne (j := Int32.toNatClampNeg 0) B2238 (by decide) (by decide)) rfl)) (sf_weak B968 (by decide) (by decide))), (sf_eqL (Eq.trans (sf_upd_ne (j := Int32.toNatClampNeg 1) B2250 (by decide) (by decide)) (Eq.trans (sf_upd_ne (j := Int32.toNatClampNeg 1) B2238 (by decide) (by decide)) rfl)) ct4.2)⟩
                    have bd2260 : (m2204 17).toInt = 0 → rf_bd 0 (upd (upd f2 (Int32.toNatClampNeg z2236) (m976 14)) (Int32.toNatClampNeg z2248) (m1749 14)) := fun z => (sf_pos B2219 (by decide) z)
                    refine pm_R_lo pm_M185 (pc' := 52) (ls' := [.ref 41, .int 0, .int 2, .int 4, .int 10, .int 0, .int (f2 0), .int 2]) (st' := []) rfl rfl rfl ?_
                    refine pm_R_br pm_M185 (pc' := 19) rfl rfl ?_
                    refine pm_R_lo pm_M185 (pc' := 21) rfl rfl rfl ?_
                    refine pm_R_lo pm_M185 (pc' := 22) rfl rfl rfl ?_
                    refine pm_R_br pm_M185 (pc' := 25) (st' := []) rfl rfl ?_
                    refine pm_R_lo pm_M185 (pc' := 26) rfl rfl rfl ?_
                    refine rf_R_get pm_M185 T2255 (pc' := 29) (v := .ref 51) rfl rfl rfl rfl ?_
                    refine pm_R_lo pm_M185 (pc' := 30) rfl rfl rfl ?_
                    refine pm_R_lo pm_M185 (pc' := 31) rfl rfl rfl ?_
                    refine pm_R_lo pm_M185 (pc' := 33) rfl rfl rfl ?_
                    refine sf_R_imulV pm_M185 (pc' := 34) rfl rfl sf_k4 B968 (by decide) (by decide) (by decide) e2231 ?_
                    refine sf_R_iaddV pm_M185 (pc' := 35) rfl rfl sf_k2 B2232 (by decide) (by decide) e2234 ?_
                    refine pm_R_lo pm_M185 (pc' := 37) rfl rfl rfl ?_
                    refine sf_R_iadd pm_M185 (pc' := 38) rfl rfl B2235 sf_k2 (by decide) (by decide) (fun z2261 e2262 B2263 => ?_)
                    refine pm_R_lo pm_M185 (pc' := 39) rfl rfl rfl ?_
                    refine rf_R_get pm_M185 T2255 (pc' := 42) (v := .ref 52) rfl rfl rfl rfl ?_
                    refine pm_R_lo pm_M185 (pc' := 44) rfl rfl rfl ?_
                    refine pm_R_lo pm_M185 (pc' := 46) rfl rfl rfl ?_
                    refine pm_R_op pm_M185 (pc' := 47) (st' := [.int 2, .ref 52, .int z2261, .ref 51]) rfl rfl rfl ?_
                    have e2264 := (F2256.cell (by decide) e2251)
                    refine pm_R_iald pm_M185 (pc' := 48) (v := (m2125 14)) rfl e2264 (Nat.lt_of_lt_of_le (by decide) T2255.1) rfl (Eq.trans (show (upd (upd (upd (upd f995 (Int32.toNatClampNeg 0) (m976 14)) (Int32.toNatClampNeg 1) (m1749 14)) (Int32.toNatClampNeg 2) (m2125 14)) (Int32.toNatClampNeg 3) v2223) (Int32.toNatClampNeg 2) = (upd (upd (upd f995 (Int32.toNatClampNeg 0) (m976 14)) (Int32.toNatClampNeg 1) (m1749 14)) (Int32.toNatClampNeg 2) (m2125 14)) (Int32.toNatClampNeg 2) from rfl) rfl) rfl ?_
                    refine rf_R_ist pm_M185 T2255 (pc' := 49) rfl e2257 (by decide) (by decide) (sf_in B2263 (by decide) (by decide)) ⟨_, rfl⟩ rfl (fun h2267 T2268 F2269 e2270 => ?_)
                    have F2271 := F2258.trans F2269 (by decide)
                    have ct2272 : rf_ct 0 (upd (upd (upd f2 (Int32.toNatClampNeg z2236) (m976 14)) (Int32.toNatClampNeg z2248) (m1749 14)) (Int32.toNatClampNeg z2261) (m2125 14)) := ⟨(sf_eqL (Eq.trans (sf_upd_ne (j := Int32.toNatClampNeg 0) B2263 (by decide) (by decide)) (Eq.trans (sf_upd_ne (j := Int32.toNatClampNeg 0) B2250 (by decide) (by decide)) (Eq.trans (sf_upd_ne (j := Int32.toNatClampNeg 0) B2238 (by decide) (by decide)) rfl))) (sf_weak B968 (by decide) (by decide))), (sf_eqL (Eq.trans (sf_upd_ne (j := Int32.toNatClampNeg 1) B2263 (by decide) (by decide)) (Eq.trans (sf_upd_ne (j := Int32.toNatClampNeg 1) B2250 (by decide) (by decide)) (Eq.trans (sf_upd_ne (j := Int32.toNatClampNeg 1) B2238 (by decide) (by decide)) rfl))) ct4.2)⟩
                    have bd2273 : (m2204 17).toInt = 0 → rf_bd 0 (upd (upd (upd f2 (Int32.toNatClampNeg z2236) (m976 14)) (Int32.toNatClampNeg z2248) (m1749 14)) (Int32.toNatClampNeg z2261) (m2125 14)) := fun z => (sf_pos B2219 (by decide) z)
                    refine pm_R_lo pm_M185 (pc' := 52) (ls' := [.ref 41, .int 0, .int 2, .int 4, .int 10, .int 0, .int (f2 0), .int 3]) (st' := []) rfl rfl rfl ?_
                    refine pm_R_br pm_M185 (pc' := 19) rfl rfl ?_
                    refine pm_R_lo pm_M185 (pc' := 21) rfl rfl rfl ?_
                    refine pm_R_lo pm_M185 (pc' := 22) rfl rfl rfl ?_
                    refine pm_R_br pm_M185 (pc' := 25) (st' := []) rfl rfl ?_
                    refine pm_R_lo pm_M185 (pc' := 26) rfl rfl rfl ?_
                    refine rf_R_get pm_M185 T2268 (pc' := 29) (v := .ref 51) rfl rfl rfl rfl ?_
                    refine pm_R_lo pm_M185 (pc' := 30) rfl rfl rfl ?_
                    refine pm_R_lo pm_M185 (pc' := 31) rfl rfl rfl ?_
                    refine pm_R_lo pm_M185 (pc' := 33) rfl rfl rfl ?_
                    refine sf_R_imulV pm_M185 (pc' := 34) rfl rfl sf_k4 B968 (by decide) (by decide) (by decide) e2231 ?_
                    refine sf_R_iaddV pm_M185 (pc' := 35) rfl rfl sf_k2 B2232 (by decide) (by decide) e2234 ?_
                    refine pm_R_lo pm_M185 (pc' := 37) rfl rfl rfl ?_
                    refine sf_R_iadd pm_M185 (pc' := 38) rfl rfl B2235 sf_k3 (by decide) (by decide) (fun z2274 e2275 B2276 => ?_)
                    refine pm_R_lo pm_M185 (pc' := 39) rfl rfl rfl ?_
                    refine rf_R_get pm_M185 T2268 (pc' := 42) (v := .ref 52) rfl rfl rfl rfl ?_
                    refine pm_R_lo pm_M185 (pc' := 44) rfl rfl rfl ?_
                    refine pm_R_lo pm_M185 (pc' := 46) rfl rfl rfl ?_
                    refine pm_R_op pm_M185 (pc' := 47) (st' := [.int 3, .ref 52, .int z2274, .ref 51]) rfl rfl rfl ?_
                    have e2277 := (F2269.cell (by decide) e2264)
                    refine pm_R_iald pm_M185 (pc' := 48) (v := v2223) rfl e2277 (Nat.lt_of_lt_of_le (by decide) T2268.1) rfl rfl rfl ?_
                    refine rf_R_ist pm_M185 T2268 (pc' := 49) rfl e2270 (by decide) (by decide) (sf_in B2276 (by decide) (by decide)) ⟨_, rfl⟩ rfl (fun h2280 T2281 F2282 e2283 => ?_)
                    have F2284 := F2271.trans F2282 (by decide)
                    have ct2285 : rf_ct 0 (upd (upd (upd (upd f2 (Int32.toNatClampNeg z2236) (m976 14)) (Int32.toNatClampNeg z2248) (m1749 14)) (Int32.toNatClampNeg z2261) (m2125 14)) (Int32.toNatClampNeg z2274) v2223) := ⟨(sf_eqL (Eq.trans (sf_upd_ne (j := Int32.toNatClampNeg 0) B2276 (by decide) (by decide)) (Eq.trans (sf_upd_ne (j := Int32.toNatClampNeg 0) B2263 (by decide) (by decide)) (Eq.trans (sf_upd_ne (j := Int32.toNatClampNeg 0) B2250 (by decide) (by decide)) (Eq.trans (sf_upd_ne (j := Int32.toNatClampNeg 0) B2238 (by decide) (by decide)) rfl)))) (sf_weak B968 (by decide) (by decide))), (sf_eqL (Eq.trans (sf_upd_ne (j := Int32.toNatClampNeg 1) B2276 (by decide) (by decide)) (Eq.trans (sf_upd_ne (j := Int32.toNatClampNeg 1) B2263 (by decide) (by decide)) (Eq.trans (sf_upd_ne (j := Int32.toNatClampNeg 1) B2250 (by decide) (by decide)) (Eq.trans (sf_upd_ne (j := Int32.toNatClampNeg 1) B2238 (by decide) (by decide)) rfl)))) ct4.2)⟩
                    have bd2286 : (m2204 17).toInt = 0 → rf_bd 0 (upd (upd (upd (upd f2 (Int32.toNatClampNeg z2236) (m976 14)) (Int32.toNatClampNeg z2248) (m1749 14)) (Int32.toNatClampNeg z2261) (m2125 14)) (Int32.toNatClampNeg z2274) v2223) := fun z => (sf_pos B2219 (by decide) z)
                    refine pm_R_lo pm_M185 (pc' := 52) (ls' := [.ref 41, .int 0, .int 2, .int 4, .int 10, .int 0, .int (f2 0), .int 4]) (st' := []) rfl rfl rfl ?_
                    refine pm_R_br pm_M185 (pc' := 19) rfl rfl ?_
                    refine pm_R_lo pm_M185 (pc' := 21) rfl rfl rfl ?_
                    refine pm_R_lo pm_M185 (pc' := 22) rfl rfl rfl ?_
                    refine pm_R_br pm_M185 (pc' := 55) (st' := []) rfl rfl ?_
                    refine pm_R_lo pm_M185 (pc' := 56) rfl rfl rfl ?_
                    refine rf_R_get pm_M185 T2281 (pc' := 59) (v := .ref 51) rfl rfl rfl rfl ?_
                    refine pm_R_lo pm_M185 (pc' := 60) rfl rfl rfl ?_
                    refine pm_R_op pm_M185 (pc' := 61) (st' := [.int 0, .ref 51, .int 0, .ref 51]) rfl rfl rfl ?_
                    refine pm_R_iald pm_M185 (pc' := 62) (v := (f2 0)) rfl e2283 (Nat.lt_of_lt_of_le (by decide) T2281.1) rfl (Eq.trans (sf_upd_ne (j := Int32.toNatClampNeg 0) B2276 (by decide) (by decide)) (Eq.trans (sf_upd_ne (j := Int32.toNatClampNeg 0) B2263 (by decide) (by decide)) (Eq.trans (sf_upd_ne (j := Int32.toNatClampNeg 0) B2250 (by decide) (by decide)) (Eq.trans (sf_upd_ne (j := Int32.toNatClampNeg 0) B2238 (by decide) (by decide)) rfl)))) rfl ?_
                    refine pm_R_op pm_M185 (pc' := 63) (st' := [.int 1, .int (f2 0), .int 0, .ref 51]) rfl rfl rfl ?_
                    refine sf_R_iadd pm_M185 (pc' := 64) rfl rfl B968 sf_k1 (by decide) (by decide) (fun z2289 e2290 B2291 => ?_)
                    refine rf_R_ist pm_M185 T2281 (pc' := 65) rfl e2283 (by decide) (by decide) rfl ⟨_, rfl⟩ rfl (fun h2292 T2293 F2294 e2295 => ?_)
                    have F2296 := F2284.trans F2294 (by decide)
                    have ct2297 : rf_ct 0 (upd (upd (upd (upd (upd f2 (Int32.toNatClampNeg z2236) (m976 14)) (Int32.toNatClampNeg z2248) (m1749 14)) (Int32.toNatClampNeg z2261) (m2125 14)) (Int32.toNatClampNeg z2274) v2223) (Int32.toNatClampNeg 0) z2289) := ⟨(sf_eqL rfl (sf_weak B2291 (by decide) (by decide))), (sf_eqL (Eq.trans (show (upd (upd (upd (upd (upd f2 (Int32.toNatClampNeg z2236) (m976 14)) (Int32.toNatClampNeg z2248) (m1749 14)) (Int32.toNatClampNeg z2261) (m2125 14)) (Int32.toNatClampNeg z2274) v2223) (Int32.toNatClampNeg 0) z2289) (Int32.toNatClampNeg 1) = (upd (upd (upd (upd f2 (Int32.toNatClampNeg z2236) (m976 14)) (Int32.toNatClampNeg z2248) (m1749 14)) (Int32.toNatClampNeg z2261) (m2125 14)) (Int32.toNatClampNeg z2274) v2223) (Int32.toNatClampNeg 1) from rfl) (Eq.trans (sf_upd_ne (j := Int32.toNatClampNeg 1) B2276 (by decide) (by decide)) (Eq.trans (sf_upd_ne (j := Int32.toNatClampNeg 1) B2263 (by decide) (by decide)) (Eq.trans (sf_upd_ne (j := Int32.toNatClampNeg 1) B2250 (by decide) (by decide)) (Eq.trans (sf_upd_ne (j := Int32.toNatClampNeg 1) B2238 (by decide) (by decide)) rfl))))) ct4.2)⟩
                    have bd2298 : (m2204 17).toInt = 0 → rf_bd 0 (upd (upd (upd (upd (upd f2 (Int32.toNatClampNeg z2236) (m976 14)) (Int32.toNatClampNeg z2248) (m1749 14)) (Int32.toNatClampNeg z2261) (m2125 14)) (Int32.toNatClampNeg z2274) v2223) (Int32.toNatClampNeg 0) z2289) := fun z => (sf_pos B2219 (by decide) z)
                    refine pm_R_ret pm_M185 (r := none) rfl rfl ?_
                    show pm_R _ 187 134 [.ref 41, .long a0, pm_no, .int a1] [] _ _
                    refine pm_R_op pm_M187 (pc' := 135) (st' := [.int 1]) (pm_q187_1 (Nat.le_of_ble_eq_true rfl)) rfl rfl ?_
                    have B2299 : sf_B 0 600 (m2204 10) := T2293.2.2.1 10
                    exact pm_R_ret pm_M187 (r := some (.int 1)) (pm_q187_1 (Nat.le_of_ble_eq_true rfl)) rfl (K1 m2204 w2205 h2292 T2293 F2296 W2222 (⟨(upd (upd (upd (upd (upd f2 (Int32.toNatClampNeg z2236) (m976 14)) (Int32.toNatClampNeg z2248) (m1749 14)) (Int32.toNatClampNeg z2261) (m2125 14)) (Int32.toNatClampNeg z2274) v2223) (Int32.toNatClampNeg 0) z2289), e2295, ct2297, fun z => (sf_pos B2219 (by decide) z)⟩) (sf_aux87 _ _ _ _ _ _ _ X982 X1755 X2131 X2185 X2211))
                · have B2300 : sf_B 0 5 (m2125 14) := sf_leL (Int32.not_lt.mp c2147) B2140 sf_k5
                  refine pm_R_lo pm_M183 (pc' := 32) rfl rfl rfl ?_
                  refine rf_R_get pm_M183 T2143 (pc' := 35) (v := .int (m2125 14)) rfl rfl rfl rfl ?_
                  refine pm_R_lo pm_M183 (pc' := 36) rfl rfl rfl ?_
                  refine pm_R_icmp pm_M183 (t := 53) (pc' := 39) rfl rfl rfl (fun c2301 => ?_) (fun c2301 => absurd (Classical.not_not.mp c2301) (sf_neq1 B2300 sf_kn1 (by decide)))
                  skip
                  refine pm_R_lo pm_M183 (pc' := 54) rfl rfl rfl ?_
                  refine pm_R_cv pm_M183 (pc' := 57) (a := 41) (ra := []) (rest := []) (ls' := [.ref 41, pm_no, pm_no]) rfl rfl (Or.inl rfl) pm_M179 T2143.2.1 rfl (by decide) (Nat.lt_of_lt_of_le (by decide) T2143.1) rfl rfl (Nat.le_of_ble_eq_true rfl) rfl rfl ?_
                  have B2302 : sf_B 0 600 (m2125 10) := T2143.2.2.1 10
                  refine rf_c179 (d := d + 0) T2143  (fun m2305 w2306 h2307 T2308 F2309 W2310 X2311 X2312 => ?_)
                  have F2313 := F2146.trans F2309 (by decide)
                  have B2314 : sf_B 0 4 (m2305 17) := by rw [W2310 17 (by decide)]; exact B2134
                  have ek2315 : (m2305 17).toInt = ((m 17)).toInt := by rw [W2310 17 (by decide)]; exact ek2135
                  have W2316 : rf_W [10, 12, 13, 14, 16, 17, 18, 22] m m2305 := W2136.trans W2310 (by decide)
                  show pm_R _ 183 57 [.ref 41, .int 2, .int 5, .int (-1)] [] _ _
                  refine pm_R_op pm_M183 (pc' := 58) (st' := [.int 1]) rfl rfl rfl ?_
                  refine pm_R_ret pm_M183 (r := some (.int 1)) rfl rfl ?_
                  show pm_R _ 187 112 [.ref 41, .long a0, pm_no, .int a1] [.int 1] _ _
                  refine pm_R_br pm_M187 (pc' := 115) (st' := []) (pm_q187_1 (Nat.le_of_ble_eq_true rfl)) rfl ?_
                  refine pm_R_lo pm_M187 (pc' := 116) (pm_q187_1 (Nat.le_of_ble_eq_true rfl)) rfl rfl ?_
                  refine pm_R_cv pm_M187 (pc' := 119) (a := 41) (ra := []) (rest := []) (ls' := [.ref 41, pm_no, pm_no]) (pm_q187_1 (Nat.le_of_ble_eq_true rfl)) rfl (Or.inl rfl) pm_M188 T2308.2.1 rfl (by decide) (Nat.lt_of_lt_of_le (by decide) T2308.1) rfl rfl (Nat.le_of_ble_eq_true rfl) rfl rfl ?_
                  have e2317 := (F2309.cell (by decide) e2145)
                  refine rf_c188 (d := d + 0) T2308  (fun m2320 w2321 h2322 T2323 F2324 W2325 X2326 => ?_) (fun m2329 w2330 h2331 T2332 F2333 W2334 X2335 X2336 => ?_)
                  · have F2337 := F2313.trans F2324 (by decide)
                    have B2338 : sf_B 0 4 (m2320 17) := by rw [W2325 17 (by decide)]; exact B2314
                    have ek2339 : (m2320 17).toInt = ((m 17)).toInt := by rw [W2325 17 (by decide)]; exact ek2315
                    have W2340 : rf_W [10, 12, 13, 14, 16, 17, 18, 22] m m2320 := W2316.trans W2325 (by decide)
                    show pm_R _ 187 119 [.ref 41, .long a0, pm_no, .int a1] [.int 0] _ _
                    refine pm_R_br pm_M187 (pc' := 122) (st' := []) (pm_q187_1 (Nat.le_of_ble_eq_true rfl)) rfl ?_
                    refine pm_R_op pm_M187 (pc' := 123) (st' := [.int 0]) (pm_q187_1 (Nat.le_of_ble_eq_true rfl)) rfl rfl ?_
                    have B2341 : sf_B 0 600 (m2320 10) := T2323.2.2.1 10
                    exact pm_R_ret pm_M187 (r := some (.int 0)) (pm_q187_1 (Nat.le_of_ble_eq_true rfl)) rfl (K0 m2320 w2321 h2322 T2323 F2337 W2340 (sf_aux88 _ _ _ _ _ _ X982 X1755 X2131 X2311 X2326))
                  · have F2342 := F2313.trans F2333 (by decide)
                    have B2343 : sf_B 0 4 (m2329 17) := by rw [W2334 17 (by decide)]; exact B2314
                    have ek2344 : (m2329 17).toInt = ((m 17)).toInt := by rw [W2334 17 (by decide)]; exact ek2315
                    have W2345 : rf_W [10, 12, 13, 14, 16, 17, 18, 22] m m2329 := W2316.trans W2334 (by decide)
                    show pm_R _ 187 119 [.ref 41, .long a0, pm_no, .int a1] [.int 1] _ _
                    obtain ⟨v2346, B2347, e2348⟩ := X2335 _ e2317
                    refine pm_R_br pm_M187 (pc' := 124) (st' := []) (pm_q187_1 (Nat.le_of_ble_eq_true rfl)) rfl ?_
                    refine pm_R_lo pm_M187 (pc' := 125) (pm_q187_1 (Nat.le_of_ble_eq_true rfl)) rfl rfl ?_
                    refine pm_R_op pm_M187 (pc' := 126) (st' := [.int 0, .ref 41]) (pm_q187_1 (Nat.le_of_ble_eq_true rfl)) rfl rfl ?_
                    refine pm_R_op pm_M187 (pc' := 127) (st' := [.int 2, .int 0, .ref 41]) (pm_q187_1 (Nat.le_of_ble_eq_true rfl)) rfl rfl ?_
                    refine pm_R_op pm_M187 (pc' := 128) (st' := [.int 4, .int 2, .int 0, .ref 41]) (pm_q187_1 (Nat.le_of_ble_eq_true rfl)) rfl rfl ?_
                    refine pm_R_op pm_M187 (pc' := 130) (st' := [.int 10, .int 4, .int 2, .int 0, .ref 41]) (pm_q187_1 (Nat.le_of_ble_eq_true rfl)) rfl rfl ?_
                    refine pm_R_op pm_M187 (pc' := 131) (st' := [.int 0, .int 10, .int 4, .int 2, .int 0, .ref 41]) (pm_q187_1 (Nat.le_of_ble_eq_true rfl)) rfl rfl ?_
                    refine pm_R_cv pm_M187 (pc' := 134) (a := 41) (ra := [.int 0, .int 10, .int 4, .int 2, .int 0]) (rest := []) (ls' := [.ref 41, .int 0, .int 2, .int 4, .int 10, .int 0, pm_no, pm_no]) (pm_q187_1 (Nat.le_of_ble_eq_true rfl)) rfl (Or.inl rfl) pm_M185 T2332.2.1 rfl (by decide) (Nat.lt_of_lt_of_le (by decide) T2332.1) rfl rfl (Nat.le_of_ble_eq_true rfl) rfl rfl ?_
                    refine pm_R_lo pm_M185 (pc' := 1) rfl rfl rfl ?_
                    refine rf_R_get pm_M185 T2332 (pc' := 4) (v := .ref 51) rfl rfl rfl rfl ?_
                    refine pm_R_lo pm_M185 (pc' := 5) rfl rfl rfl ?_
                    have e2349 := (F2333.cell (by decide) (F2309.cell (by decide) (F2144.cell (by decide) (F2129.cell (by decide) (F1768.cell (by decide) (F1753.cell (by decide) (F1000.cell (by decide) (F980.cell (by decide) e3))))))))
                    refine pm_R_iald pm_M185 (pc' := 6) (v := (f2 0)) rfl e2349 (Nat.lt_of_lt_of_le (by decide) T2332.1) rfl rfl rfl ?_
                    refine pm_R_lo pm_M185 (pc' := 8) (ls' := [.ref 41, .int 0, .int 2, .int 4, .int 10, .int 0, .int (f2 0), pm_no]) (st' := []) rfl rfl rfl ?_
                    refine pm_R_lo pm_M185 (pc' := 10) rfl rfl rfl ?_
                    refine pm_R_lo pm_M185 (pc' := 12) rfl rfl rfl ?_
                    refine pm_R_icmp pm_M185 (t := 16) (pc' := 15) rfl rfl rfl (fun c2352 => ?_) (fun c2352 => absurd (Classical.not_not.mp c2352) (sf_neq2 B968 sf_k10 (by decide)))
                    skip
                    refine pm_R_op pm_M185 (pc' := 17) (st' := [.int 0]) rfl rfl rfl ?_
                    refine pm_R_lo pm_M185 (pc' := 19) (ls' := [.ref 41, .int 0, .int 2, .int 4, .int 10, .int 0, .int (f2 0), .int 0]) (st' := []) rfl rfl rfl ?_
                    refine pm_R_lo pm_M185 (pc' := 21) rfl rfl rfl ?_
                    refine pm_R_lo pm_M185 (pc' := 22) rfl rfl rfl ?_
                    refine pm_R_br pm_M185 (pc' := 25) (st' := []) rfl rfl ?_
                    refine pm_R_lo pm_M185 (pc' := 26) rfl rfl rfl ?_
                    refine rf_R_get pm_M185 T2332 (pc' := 29) (v := .ref 51) rfl rfl rfl rfl ?_
                    refine pm_R_lo pm_M185 (pc' := 30) rfl rfl rfl ?_
                    refine pm_R_lo pm_M185 (pc' := 31) rfl rfl rfl ?_
                    refine pm_R_lo pm_M185 (pc' := 33) rfl rfl rfl ?_
                    refine sf_R_imul pm_M185 (pc' := 34) rfl rfl sf_k4 B968 (by decide) (by decide) (by decide) (fun z2353 e2354 B2355 => ?_)
                    refine sf_R_iadd pm_M185 (pc' := 35) rfl rfl sf_k2 B2355 (by decide) (by decide) (fun z2356 e2357 B2358 => ?_)
                    refine pm_R_lo pm_M185 (pc' := 37) rfl rfl rfl ?_
                    refine sf_R_iadd pm_M185 (pc' := 38) rfl rfl B2358 sf_k0 (by decide) (by decide) (fun z2359 e2360 B2361 => ?_)
                    refine pm_R_lo pm_M185 (pc' := 39) rfl rfl rfl ?_
                    refine rf_R_get pm_M185 T2332 (pc' := 42) (v := .ref 52) rfl rfl rfl rfl ?_
                    refine pm_R_lo pm_M185 (pc' := 44) rfl rfl rfl ?_
                    refine pm_R_lo pm_M185 (pc' := 46) rfl rfl rfl ?_
                    refine pm_R_op pm_M185 (pc' := 47) (st' := [.int 0, .ref 52, .int z2359, .ref 51]) rfl rfl rfl ?_
                    refine pm_R_iald pm_M185 (pc' := 48) (v := (m976 14)) rfl e2348 (Nat.lt_of_lt_of_le (by decide) T2332.1) rfl (Eq.trans (show (upd (upd (upd (upd f995 (Int32.toNatClampNeg 0) (m976 14)) (Int32.toNatClampNeg 1) (m1749 14)) (Int32.toNatClampNeg 2) (m2125 14)) (Int32.toNatClampNeg 3) v2346) (Int32.toNatClampNeg 0) = (upd (upd (upd f995 (Int32.toNatClampNeg 0) (m976 14)) (Int32.toNatClampNeg 1) (m1749 14)) (Int32.toNatClampNeg 2) (m2125 14)) (Int32.toNatClampNeg 0) from rfl) (Eq.trans (show (upd (upd (upd f995 (Int32.toNatClampNeg 0) (m976 14)) (Int32.toNatClampNeg 1) (m1749 14)) (Int32.toNatClampNeg 2) (m2125 14)) (Int32.toNatClampNeg 0) = (upd (upd f995 (Int32.toNatClampNeg 0) (m976 14)) (Int32.toNatClampNeg 1) (m1749 14)) (Int32.toNatClampNeg 0) from rfl) (Eq.trans (show (upd (upd f995 (Int32.toNatClampNeg 0) (m976 14)) (Int32.toNatClampNeg 1) (m1749 14)) (Int32.toNatClampNeg 0) = (upd f995 (Int32.toNatClampNeg 0) (m976 14)) (Int32.toNatClampNeg 0) from rfl) rfl))) rfl ?_
                    refine rf_R_ist pm_M185 T2332 (pc' := 49) rfl e2349 (by decide) (by decide) (sf_in B2361 (by decide) (by decide)) ⟨_, rfl⟩ rfl (fun h2364 T2365 F2366 e2367 => ?_)
                    have F2368 := F2342.trans F2366 (by decide)
                    have w2369 := rf_w0r (sf_aux54 _ _ _ _ e2354 e2357 e2360) B968 (by decide) (by decide)
                    have ct2370 : rf_ct 0 (upd f2 (Int32.toNatClampNeg z2359) (m976 14)) := ⟨(sf_eqL (Eq.trans (sf_upd_ne (j := Int32.toNatClampNeg 0) B2361 (by decide) (by decide)) rfl) (sf_weak B968 (by decide) (by decide))), (sf_eqL (Eq.trans (sf_upd_ne (j := Int32.toNatClampNeg 1) B2361 (by decide) (by decide)) rfl) ct4.2)⟩
                    have bd2371 : (m2329 17).toInt = 0 → rf_bd 0 (upd f2 (Int32.toNatClampNeg z2359) (m976 14)) := fun z => ((bd5 (sf_aux53 _ _ ek2344 z)).set (k := z2359) B1744 w2369.1 w2369.2)
                    refine pm_R_lo pm_M185 (pc' := 52) (ls' := [.ref 41, .int 0, .int 2, .int 4, .int 10, .int 0, .int (f2 0), .int 1]) (st' := []) rfl rfl rfl ?_
                    refine pm_R_br pm_M185 (pc' := 19) rfl rfl ?_
                    refine pm_R_lo pm_M185 (pc' := 21) rfl rfl rfl ?_
                    refine pm_R_lo pm_M185 (pc' := 22) rfl rfl rfl ?_
                    refine pm_R_br pm_M185 (pc' := 25) (st' := []) rfl rfl ?_
                    refine pm_R_lo pm_M185 (pc' := 26) rfl rfl rfl ?_
                    refine rf_R_get pm_M185 T2365 (pc' := 29) (v := .ref 51) rfl rfl rfl rfl ?_
                    refine pm_R_lo pm_M185 (pc' := 30) rfl rfl rfl ?_
                    refine pm_R_lo pm_M185 (pc' := 31) rfl rfl rfl ?_
                    refine pm_R_lo pm_M185 (pc' := 33) rfl rfl rfl ?_
                    refine sf_R_imulV pm_M185 (pc' := 34) rfl rfl sf_k4 B968 (by decide) (by decide) (by decide) e2354 ?_
                    refine sf_R_iaddV pm_M185 (pc' := 35) rfl rfl sf_k2 B2355 (by decide) (by decide) e2357 ?_
                    refine pm_R_lo pm_M185 (pc' := 37) rfl rfl rfl ?_
                    refine sf_R_iadd pm_M185 (pc' := 38) rfl rfl B2358 sf_k1 (by decide) (by decide) (fun z2372 e2373 B2374 => ?_)
                    refine pm_R_lo pm_M185 (pc' := 39) rfl rfl rfl ?_
                    refine rf_R_get pm_M185 T2365 (pc' := 42) (v := .ref 52) rfl rfl rfl rfl ?_
                    refine pm_R_lo pm_M185 (pc' := 44) rfl rfl rfl ?_
                    refine pm_R_lo pm_M185 (pc' := 46) rfl rfl rfl ?_
                    refine pm_R_op pm_M185 (pc' := 47) (st' := [.int 1, .ref 52, .int z2372, .ref 51]) rfl rfl rfl ?_
                    have e2375 := (F2366.cell (by decide) e2348)
                    refine pm_R_iald pm_M185 (pc' := 48) (v := (m1749 14)) rfl e2375 (Nat.lt_of_lt_of_le (by decide) T2365.1) rfl (Eq.trans (show (upd (upd (upd (upd f995 (Int32.toNatClampNeg 0) (m976 14)) (Int32.toNatClampNeg 1) (m1749 14)) (Int32.toNatClampNeg 2) (m2125 14)) (Int32.toNatClampNeg 3) v2346) (Int32.toNatClampNeg 1) = (upd (upd (upd f995 (Int32.toNatClampNeg 0) (m976 14)) (Int32.toNatClampNeg 1) (m1749 14)) (Int32.toNatClampNeg 2) (m2125 14)) (Int32.toNatClampNeg 1) from rfl) (Eq.trans (show (upd (upd (upd f995 (Int32.toNatClampNeg 0) (m976 14)) (Int32.toNatClampNeg 1) (m1749 14)) (Int32.toNatClampNeg 2) (m2125 14)) (Int32.toNatClampNeg 1) = (upd (upd f995 (Int32.toNatClampNeg 0) (m976 14)) (Int32.toNatClampNeg 1) (m1749 14)) (Int32.toNatClampNeg 1) from rfl) rfl)) rfl ?_
                    refine rf_R_ist pm_M185 T2365 (pc' := 49) rfl e2367 (by decide) (by decide) (sf_in B2374 (by decide) (by decide)) ⟨_, rfl⟩ rfl (fun h2378 T2379 F2380 e2381 => ?_)
                    have F2382 := F2368.trans F2380 (by decide)
                    have w2383 := rf_w0r (sf_aux55 _ _ _ _ e2354 e2357 e2373) B968 (by decide) (by decide)
                    have ct2384 : rf_ct 0 (upd (upd f2 (Int32.toNatClampNeg z2359) (m976 14)) (Int32.toNatClampNeg z2372) (m1749 14)) := ⟨(sf_eqL (Eq.trans (sf_upd_ne (j := Int32.toNatClampNeg 0) B2374 (by decide) (by decide)) (Eq.trans (sf_upd_ne (j := Int32.toNatClampNeg 0) B2361 (by decide) (by decide)) rfl)) (sf_weak B968 (by decide) (by decide))), (sf_eqL (Eq.trans (sf_upd_ne (j := Int32.toNatClampNeg 1) B2374 (by decide) (by decide)) (Eq.trans (sf_upd_ne (j := Int32.toNatClampNeg 1) B2361 (by decide) (by decide)) rfl)) ct4.2)⟩
                    have bd2385 : (m2329 17).toInt = 0 → rf_bd 0 (upd (upd f2 (Int32.toNatClampNeg z2359) (m976 14)) (Int32.toNatClampNeg z2372) (m1749 14)) := fun z => ((bd2371 z).set (k := z2372) B2120 w2383.1 w2383.2)
                    refine pm_R_lo pm_M185 (pc' := 52) (ls' := [.ref 41, .int 0, .int 2, .int 4, .int 10, .int 0, .int (f2 0), .int 2]) (st' := []) rfl rfl rfl ?_
                    refine pm_R_br pm_M185 (pc' := 19) rfl rfl ?_
                    refine pm_R_lo pm_M185 (pc' := 21) rfl rfl rfl ?_
                    refine pm_R_lo pm_M185 (pc' := 22) rfl rfl rfl ?_
                    refine pm_R_br pm_M185 (pc' := 25) (st' := []) rfl rfl ?_
                    refine pm_R_lo pm_M185 (pc' := 26) rfl rfl rfl ?_
                    refine rf_R_get pm_M185 T2379 (pc' := 29) (v := .ref 51) rfl rfl rfl rfl ?_
                    refine pm_R_lo pm_M185 (pc' := 30) rfl rfl rfl ?_
                    refine pm_R_lo pm_M185 (pc' := 31) rfl rfl rfl ?_
                    refine pm_R_lo pm_M185 (pc' := 33) rfl rfl rfl ?_
                    refine sf_R_imulV pm_M185 (pc' := 34) rfl rfl sf_k4 B968 (by decide) (by decide) (by decide) e2354 ?_
                    refine sf_R_iaddV pm_M185 (pc' := 35) rfl rfl sf_k2 B2355 (by decide) (by decide) e2357 ?_
                    refine pm_R_lo pm_M185 (pc' := 37) rfl rfl rfl ?_
                    refine sf_R_iadd pm_M185 (pc' := 38) rfl rfl B2358 sf_k2 (by decide) (by decide) (fun z2386 e2387 B2388 => ?_)
                    refine pm_R_lo pm_M185 (pc' := 39) rfl rfl rfl ?_
                    refine rf_R_get pm_M185 T2379 (pc' := 42) (v := .ref 52) rfl rfl rfl rfl ?_
                    refine pm_R_lo pm_M185 (pc' := 44) rfl rfl rfl ?_
                    refine pm_R_lo pm_M185 (pc' := 46) rfl rfl rfl ?_
                    refine pm_R_op pm_M185 (pc' := 47) (st' := [.int 2, .ref 52, .int z2386, .ref 51]) rfl rfl rfl ?_
                    have e2389 := (F2380.cell (by decide) e2375)
                    refine pm_R_iald pm_M185 (pc' := 48) (v := (m2125 14)) rfl e2389 (Nat.lt_of_lt_of_le (by decide) T2379.1) rfl (Eq.trans (show (upd (upd (upd (upd f995 (Int32.toNatClampNeg 0) (m976 14)) (Int32.toNatClampNeg 1) (m1749 14)) (Int32.toNatClampNeg 2) (m2125 14)) (Int32.toNatClampNeg 3) v2346) (Int32.toNatClampNeg 2) = (upd (upd (upd f995 (Int32.toNatClampNeg 0) (m976 14)) (Int32.toNatClampNeg 1) (m1749 14)) (Int32.toNatClampNeg 2) (m2125 14)) (Int32.toNatClampNeg 2) from rfl) rfl) rfl ?_
                    refine rf_R_ist pm_M185 T2379 (pc' := 49) rfl e2381 (by decide) (by decide) (sf_in B2388 (by decide) (by decide)) ⟨_, rfl⟩ rfl (fun h2392 T2393 F2394 e2395 => ?_)
                    have F2396 := F2382.trans F2394 (by decide)
                    have w2397 := rf_w0r (sf_aux56 _ _ _ _ e2354 e2357 e2387) B968 (by decide) (by decide)
                    have ct2398 : rf_ct 0 (upd (upd (upd f2 (Int32.toNatClampNeg z2359) (m976 14)) (Int32.toNatClampNeg z2372) (m1749 14)) (Int32.toNatClampNeg z2386) (m2125 14)) := ⟨(sf_eqL (Eq.trans (sf_upd_ne (j := Int32.toNatClampNeg 0) B2388 (by decide) (by decide)) (Eq.trans (sf_upd_ne (j := Int32.toNatClampNeg 0) B2374 (by decide) (by decide)) (Eq.trans (sf_upd_ne (j := Int32.toNatClampNeg 0) B2361 (by decide) (by decide)) rfl))) (sf_weak B968 (by decide) (by decide))), (sf_eqL (Eq.trans (sf_upd_ne (j := Int32.toNatClampNeg 1) B2388 (by decide) (by decide)) (Eq.trans (sf_upd_ne (j := Int32.toNatClampNeg 1) B2374 (by decide) (by decide)) (Eq.trans (sf_upd_ne (j := Int32.toNatClampNeg 1) B2361 (by decide) (by decide)) rfl))) ct4.2)⟩
                    have bd2399 : (m2329 17).toInt = 0 → rf_bd 0 (upd (upd (upd f2 (Int32.toNatClampNeg z2359) (m976 14)) (Int32.toNatClampNeg z2372) (m1749 14)) (Int32.toNatClampNeg z2386) (m2125 14)) := fun z => ((bd2385 z).set (k := z2386) B2300 w2397.1 w2397.2)
                    refine pm_R_lo pm_M185 (pc' := 52) (ls' := [.ref 41, .int 0, .int 2, .int 4, .int 10, .int 0, .int (f2 0), .int 3]) (st' := []) rfl rfl rfl ?_
                    refine pm_R_br pm_M185 (pc' := 19) rfl rfl ?_
                    refine pm_R_lo pm_M185 (pc' := 21) rfl rfl rfl ?_
                    refine pm_R_lo pm_M185 (pc' := 22) rfl rfl rfl ?_
                    refine pm_R_br pm_M185 (pc' := 25) (st' := []) rfl rfl ?_
                    refine pm_R_lo pm_M185 (pc' := 26) rfl rfl rfl ?_
                    refine rf_R_get pm_M185 T2393 (pc' := 29) (v := .ref 51) rfl rfl rfl rfl ?_
                    refine pm_R_lo pm_M185 (pc' := 30) rfl rfl rfl ?_
                    refine pm_R_lo pm_M185 (pc' := 31) rfl rfl rfl ?_
                    refine pm_R_lo pm_M185 (pc' := 33) rfl rfl rfl ?_
                    refine sf_R_imulV pm_M185 (pc' := 34) rfl rfl sf_k4 B968 (by decide) (by decide) (by decide) e2354 ?_
                    refine sf_R_iaddV pm_M185 (pc' := 35) rfl rfl sf_k2 B2355 (by decide) (by decide) e2357 ?_
                    refine pm_R_lo pm_M185 (pc' := 37) rfl rfl rfl ?_
                    refine sf_R_iadd pm_M185 (pc' := 38) rfl rfl B2358 sf_k3 (by decide) (by decide) (fun z2400 e2401 B2402 => ?_)
                    refine pm_R_lo pm_M185 (pc' := 39) rfl rfl rfl ?_
                    refine rf_R_get pm_M185 T2393 (pc' := 42) (v := .ref 52) rfl rfl rfl rfl ?_
                    refine pm_R_lo pm_M185 (pc' := 44) rfl rfl rfl ?_
                    refine pm_R_lo pm_M185 (pc' := 46) rfl rfl rfl ?_
                    refine pm_R_op pm_M185 (pc' := 47) (st' := [.int 3, .ref 52, .int z2400, .ref 51]) rfl rfl rfl ?_
                    have e2403 := (F2394.cell (by decide) e2389)
                    refine pm_R_iald pm_M185 (pc' := 48) (v := v2346) rfl e2403 (Nat.lt_of_lt_of_le (by decide) T2393.1) rfl rfl rfl ?_
                    refine rf_R_ist pm_M185 T2393 (pc' := 49) rfl e2395 (by decide) (by decide) (sf_in B2402 (by decide) (by decide)) ⟨_, rfl⟩ rfl (fun h2406 T2407 F2408 e2409 => ?_)
                    have F2410 := F2396.trans F2408 (by decide)
                    have w2411 := rf_w0t (sf_aux57 _ _ _ _ e2354 e2357 e2401) B968
                    have ct2412 : rf_ct 0 (upd (upd (upd (upd f2 (Int32.toNatClampNeg z2359) (m976 14)) (Int32.toNatClampNeg z2372) (m1749 14)) (Int32.toNatClampNeg z2386) (m2125 14)) (Int32.toNatClampNeg z2400) v2346) := ⟨(sf_eqL (Eq.trans (sf_upd_ne (j := Int32.toNatClampNeg 0) B2402 (by decide) (by decide)) (Eq.trans (sf_upd_ne (j := Int32.toNatClampNeg 0) B2388 (by decide) (by decide)) (Eq.trans (sf_upd_ne (j := Int32.toNatClampNeg 0) B2374 (by decide) (by decide)) (Eq.trans (sf_upd_ne (j := Int32.toNatClampNeg 0) B2361 (by decide) (by decide)) rfl)))) (sf_weak B968 (by decide) (by decide))), (sf_eqL (Eq.trans (sf_upd_ne (j := Int32.toNatClampNeg 1) B2402 (by decide) (by decide)) (Eq.trans (sf_upd_ne (j := Int32.toNatClampNeg 1) B2388 (by decide) (by decide)) (Eq.trans (sf_upd_ne (j := Int32.toNatClampNeg 1) B2374 (by decide) (by decide)) (Eq.trans (sf_upd_ne (j := Int32.toNatClampNeg 1) B2361 (by decide) (by decide)) rfl)))) ct4.2)⟩
                    have bd2413 : (m2329 17).toInt = 0 → rf_bd 0 (upd (upd (upd (upd f2 (Int32.toNatClampNeg z2359) (m976 14)) (Int32.toNatClampNeg z2372) (m1749 14)) (Int32.toNatClampNeg z2386) (m2125 14)) (Int32.toNatClampNeg z2400) v2346) := fun z => ((bd2399 z).set (k := z2400) B2347 w2411.1 w2411.2)
                    refine pm_R_lo pm_M185 (pc' := 52) (ls' := [.ref 41, .int 0, .int 2, .int 4, .int 10, .int 0, .int (f2 0), .int 4]) (st' := []) rfl rfl rfl ?_
                    refine pm_R_br pm_M185 (pc' := 19) rfl rfl ?_
                    refine pm_R_lo pm_M185 (pc' := 21) rfl rfl rfl ?_
                    refine pm_R_lo pm_M185 (pc' := 22) rfl rfl rfl ?_
                    refine pm_R_br pm_M185 (pc' := 55) (st' := []) rfl rfl ?_
                    refine pm_R_lo pm_M185 (pc' := 56) rfl rfl rfl ?_
                    refine rf_R_get pm_M185 T2407 (pc' := 59) (v := .ref 51) rfl rfl rfl rfl ?_
                    refine pm_R_lo pm_M185 (pc' := 60) rfl rfl rfl ?_
                    refine pm_R_op pm_M185 (pc' := 61) (st' := [.int 0, .ref 51, .int 0, .ref 51]) rfl rfl rfl ?_
                    refine pm_R_iald pm_M185 (pc' := 62) (v := (f2 0)) rfl e2409 (Nat.lt_of_lt_of_le (by decide) T2407.1) rfl (Eq.trans (sf_upd_ne (j := Int32.toNatClampNeg 0) B2402 (by decide) (by decide)) (Eq.trans (sf_upd_ne (j := Int32.toNatClampNeg 0) B2388 (by decide) (by decide)) (Eq.trans (sf_upd_ne (j := Int32.toNatClampNeg 0) B2374 (by decide) (by decide)) (Eq.trans (sf_upd_ne (j := Int32.toNatClampNeg 0) B2361 (by decide) (by decide)) rfl)))) rfl ?_
                    refine pm_R_op pm_M185 (pc' := 63) (st' := [.int 1, .int (f2 0), .int 0, .ref 51]) rfl rfl rfl ?_
                    refine sf_R_iadd pm_M185 (pc' := 64) rfl rfl B968 sf_k1 (by decide) (by decide) (fun z2416 e2417 B2418 => ?_)
                    refine rf_R_ist pm_M185 T2407 (pc' := 65) rfl e2409 (by decide) (by decide) rfl ⟨_, rfl⟩ rfl (fun h2419 T2420 F2421 e2422 => ?_)
                    have F2423 := F2410.trans F2421 (by decide)
                    have ct2424 : rf_ct 0 (upd (upd (upd (upd (upd f2 (Int32.toNatClampNeg z2359) (m976 14)) (Int32.toNatClampNeg z2372) (m1749 14)) (Int32.toNatClampNeg z2386) (m2125 14)) (Int32.toNatClampNeg z2400) v2346) (Int32.toNatClampNeg 0) z2416) := ⟨(sf_eqL rfl (sf_weak B2418 (by decide) (by decide))), (sf_eqL (Eq.trans (show (upd (upd (upd (upd (upd f2 (Int32.toNatClampNeg z2359) (m976 14)) (Int32.toNatClampNeg z2372) (m1749 14)) (Int32.toNatClampNeg z2386) (m2125 14)) (Int32.toNatClampNeg z2400) v2346) (Int32.toNatClampNeg 0) z2416) (Int32.toNatClampNeg 1) = (upd (upd (upd (upd f2 (Int32.toNatClampNeg z2359) (m976 14)) (Int32.toNatClampNeg z2372) (m1749 14)) (Int32.toNatClampNeg z2386) (m2125 14)) (Int32.toNatClampNeg z2400) v2346) (Int32.toNatClampNeg 1) from rfl) (Eq.trans (sf_upd_ne (j := Int32.toNatClampNeg 1) B2402 (by decide) (by decide)) (Eq.trans (sf_upd_ne (j := Int32.toNatClampNeg 1) B2388 (by decide) (by decide)) (Eq.trans (sf_upd_ne (j := Int32.toNatClampNeg 1) B2374 (by decide) (by decide)) (Eq.trans (sf_upd_ne (j := Int32.toNatClampNeg 1) B2361 (by decide) (by decide)) rfl))))) ct4.2)⟩
                    have bd2425 : (m2329 17).toInt = 0 → rf_bd 0 (upd (upd (upd (upd (upd f2 (Int32.toNatClampNeg z2359) (m976 14)) (Int32.toNatClampNeg z2372) (m1749 14)) (Int32.toNatClampNeg z2386) (m2125 14)) (Int32.toNatClampNeg z2400) v2346) (Int32.toNatClampNeg 0) z2416) := fun z => ((bd2413 z).set (k := 0) B2418 (by decide) (by decide))
                    refine pm_R_ret pm_M185 (r := none) rfl rfl ?_
                    show pm_R _ 187 134 [.ref 41, .long a0, pm_no, .int a1] [] _ _
                    refine pm_R_op pm_M187 (pc' := 135) (st' := [.int 1]) (pm_q187_1 (Nat.le_of_ble_eq_true rfl)) rfl rfl ?_
                    have B2426 : sf_B 0 600 (m2329 10) := T2420.2.2.1 10
                    exact pm_R_ret pm_M187 (r := some (.int 1)) (pm_q187_1 (Nat.le_of_ble_eq_true rfl)) rfl (K1 m2329 w2330 h2419 T2420 F2423 W2345 (⟨(upd (upd (upd (upd (upd f2 (Int32.toNatClampNeg z2359) (m976 14)) (Int32.toNatClampNeg z2372) (m1749 14)) (Int32.toNatClampNeg z2386) (m2125 14)) (Int32.toNatClampNeg z2400) v2346) (Int32.toNatClampNeg 0) z2416), e2422, ct2424, fun z => (bd2425 z)⟩) (sf_aux88 _ _ _ _ _ _ X982 X1755 X2131 X2311 X2336))
              · skip
                refine pm_R_lo pm_M183 (pc' := 9) rfl rfl rfl ?_
                refine pm_R_cv pm_M183 (pc' := 12) (a := 41) (ra := []) (rest := []) (ls' := [.ref 41]) rfl rfl (Or.inl rfl) pm_M184 T2128.2.1 rfl (by decide) (Nat.lt_of_lt_of_le (by decide) T2128.1) rfl rfl (Nat.le_of_ble_eq_true rfl) rfl rfl ?_
                refine pm_R_lo pm_M184 (pc' := 1) rfl rfl rfl ?_
                refine pm_R_lo pm_M184 (pc' := 2) rfl rfl rfl ?_
                have B2427 : sf_B 0 600 (m2125 12) := T2128.2.2.1 12
                refine rf_R_get pm_M184 T2128 (pc' := 5) (v := .int (m2125 12)) rfl rfl rfl rfl ?_
                refine rf_R_put pm_M184 T2128 (pc' := 8) rfl rfl rfl (by decide) rfl rfl B2427 rfl rfl (fun h2428 m2431 em2432 T2429 F2430 => ?_)
                have F2433 := F2133.trans F2430 (by decide)
                have B2434 : sf_B 0 4 (m2431 17) := by rw [em2432]; exact B2134
                have ek2435 : (m2431 17).toInt = ((m 17)).toInt := by rw [em2432]; exact ek2135
                have B2436 : sf_B 0 600 (m2431 16) := by rw [em2432]; exact B2427
                have ek2437 : (m2431 16).toInt = ((m2125 12)).toInt := by rw [em2432]; rfl
                have W2438 : rf_W [10, 12, 13, 14, 16, 17, 18, 22] m m2431 := by rw [em2432]; exact W2136.put (by decide)
                refine pm_R_op pm_M184 (pc' := 9) (st' := [.int 0]) rfl rfl rfl ?_
                refine pm_R_ret pm_M184 (r := some (.int 0)) rfl rfl ?_
                show pm_R _ 183 12 [.ref 41, .int 2, .int 5, .int (-1)] [.int 0] _ _
                refine pm_R_ret pm_M183 (r := some (.int 0)) rfl rfl ?_
                show pm_R _ 187 112 [.ref 41, .long a0, pm_no, .int a1] [.int 0] _ _
                refine pm_R_br pm_M187 (pc' := 122) (st' := []) (pm_q187_1 (Nat.le_of_ble_eq_true rfl)) rfl ?_
                refine pm_R_op pm_M187 (pc' := 123) (st' := [.int 0]) (pm_q187_1 (Nat.le_of_ble_eq_true rfl)) rfl rfl ?_
                have B2439 : sf_B 0 600 (m2431 10) := T2429.2.2.1 10
                exact pm_R_ret pm_M187 (r := some (.int 0)) (pm_q187_1 (Nat.le_of_ble_eq_true rfl)) rfl (K0 m2431 w2126 h2428 T2429 F2433 W2438 (sf_aux89 _ _ _ _ _ X982 X1755 X2131))
          · skip
            refine pm_R_lo pm_M183 (pc' := 9) rfl rfl rfl ?_
            refine pm_R_cv pm_M183 (pc' := 12) (a := 41) (ra := []) (rest := []) (ls' := [.ref 41]) rfl rfl (Or.inl rfl) pm_M184 T1752.2.1 rfl (by decide) (Nat.lt_of_lt_of_le (by decide) T1752.1) rfl rfl (Nat.le_of_ble_eq_true rfl) rfl rfl ?_
            refine pm_R_lo pm_M184 (pc' := 1) rfl rfl rfl ?_
            refine pm_R_lo pm_M184 (pc' := 2) rfl rfl rfl ?_
            have B2440 : sf_B 0 600 (m1749 12) := T1752.2.2.1 12
            refine rf_R_get pm_M184 T1752 (pc' := 5) (v := .int (m1749 12)) rfl rfl rfl rfl ?_
            refine rf_R_put pm_M184 T1752 (pc' := 8) rfl rfl rfl (by decide) rfl rfl B2440 rfl rfl (fun h2441 m2444 em2445 T2442 F2443 => ?_)
            have F2446 := F1757.trans F2443 (by decide)
            have B2447 : sf_B 0 4 (m2444 17) := by rw [em2445]; exact B1758
            have ek2448 : (m2444 17).toInt = ((m 17)).toInt := by rw [em2445]; exact ek1759
            have B2449 : sf_B 0 600 (m2444 16) := by rw [em2445]; exact B2440
            have ek2450 : (m2444 16).toInt = ((m1749 12)).toInt := by rw [em2445]; rfl
            have W2451 : rf_W [10, 12, 13, 14, 16, 17, 18, 22] m m2444 := by rw [em2445]; exact W1760.put (by decide)
            refine pm_R_op pm_M184 (pc' := 9) (st' := [.int 0]) rfl rfl rfl ?_
            refine pm_R_ret pm_M184 (r := some (.int 0)) rfl rfl ?_
            show pm_R _ 183 12 [.ref 41, .int 1, .int 5, .int (-1)] [.int 0] _ _
            refine pm_R_ret pm_M183 (r := some (.int 0)) rfl rfl ?_
            show pm_R _ 187 102 [.ref 41, .long a0, pm_no, .int a1] [.int 0] _ _
            refine pm_R_br pm_M187 (pc' := 122) (st' := []) rfl rfl ?_
            refine pm_R_op pm_M187 (pc' := 123) (st' := [.int 0]) (pm_q187_1 (Nat.le_of_ble_eq_true rfl)) rfl rfl ?_
            have B2452 : sf_B 0 600 (m2444 10) := T2442.2.2.1 10
            exact pm_R_ret pm_M187 (r := some (.int 0)) (pm_q187_1 (Nat.le_of_ble_eq_true rfl)) rfl (K0 m2444 w1750 h2441 T2442 F2446 W2451 (sf_aux90 _ _ _ _ X982 X1755))
      · skip
        refine pm_R_lo pm_M183 (pc' := 9) rfl rfl rfl ?_
        refine pm_R_cv pm_M183 (pc' := 12) (a := 41) (ra := []) (rest := []) (ls' := [.ref 41]) rfl rfl (Or.inl rfl) pm_M184 T979.2.1 rfl (by decide) (Nat.lt_of_lt_of_le (by decide) T979.1) rfl rfl (Nat.le_of_ble_eq_true rfl) rfl rfl ?_
        refine pm_R_lo pm_M184 (pc' := 1) rfl rfl rfl ?_
        refine pm_R_lo pm_M184 (pc' := 2) rfl rfl rfl ?_
        have B2453 : sf_B 0 600 (m976 12) := T979.2.2.1 12
        refine rf_R_get pm_M184 T979 (pc' := 5) (v := .int (m976 12)) rfl rfl rfl rfl ?_
        refine rf_R_put pm_M184 T979 (pc' := 8) rfl rfl rfl (by decide) rfl rfl B2453 rfl rfl (fun h2454 m2457 em2458 T2455 F2456 => ?_)
        have F2459 := F984.trans F2456 (by decide)
        have B2460 : sf_B 0 4 (m2457 17) := by rw [em2458]; exact B985
        have ek2461 : (m2457 17).toInt = ((m 17)).toInt := by rw [em2458]; exact ek986
        have B2462 : sf_B 0 600 (m2457 16) := by rw [em2458]; exact B2453
        have ek2463 : (m2457 16).toInt = ((m976 12)).toInt := by rw [em2458]; rfl
        have W2464 : rf_W [10, 12, 13, 14, 16, 17, 18, 22] m m2457 := by rw [em2458]; exact W987.put (by decide)
        refine pm_R_op pm_M184 (pc' := 9) (st' := [.int 0]) rfl rfl rfl ?_
        refine pm_R_ret pm_M184 (r := some (.int 0)) rfl rfl ?_
        show pm_R _ 183 12 [.ref 41, .int 0, .int 5, .int (-1)] [.int 0] _ _
        refine pm_R_ret pm_M183 (r := some (.int 0)) rfl rfl ?_
        show pm_R _ 187 92 [.ref 41, .long a0, pm_no, .int a1] [.int 0] _ _
        refine pm_R_br pm_M187 (pc' := 122) (st' := []) rfl rfl ?_
        refine pm_R_op pm_M187 (pc' := 123) (st' := [.int 0]) (pm_q187_1 (Nat.le_of_ble_eq_true rfl)) rfl rfl ?_
        have B2465 : sf_B 0 600 (m2457 10) := T2455.2.2.1 10
        exact pm_R_ret pm_M187 (r := some (.int 0)) (pm_q187_1 (Nat.le_of_ble_eq_true rfl)) rfl (K0 m2457 w977 h2454 T2455 F2459 W2464 (sf_aux91 _ _ _ X982))
  · have k2466 := sf_lneC e8 c9
    refine pm_R_lo pm_M187 (pc' := 9) rfl rfl rfl ?_
    refine pm_R_ldc2 pm_M187 (pc' := 12) rfl rfl rfl ?_
    refine sf_R_lcmp pm_M187 (pc' := 13) rfl rfl (fun z2467 e2468 => ?_)
    refine pm_R_ifc pm_M187 (t := 29) (pc' := 16) rfl rfl rfl (fun c2469 => ?_) (fun c2469 => ?_)
    · have B2470 : sf_B 0 0 z2467 := sf_eqL c2469 sf_k0
      have B2471 : lf_B 1936287598 1936287598 a0 := lf_eqB e2468 B2470 (⟨by decide, by decide⟩ : lf_B 1936287598 1936287598 1936287598)
      refine pm_R_lo pm_M187 (pc' := 30) rfl rfl rfl ?_
      refine pm_R_ldc2 pm_M187 (pc' := 33) rfl rfl rfl ?_
      refine pm_R_op pm_M187 (pc' := 34) (st' := [.int z7]) rfl (by show some (Value.int (lg_cmp a0 1920298085) :: _) = _; rw [← e8]) rfl ?_
      refine pm_R_ifc pm_M187 (t := 48) (pc' := 37) rfl rfl rfl (fun c2474 => ?_) (fun c2474 => absurd (Classical.not_not.mp c2474) c9)
      have k2475 := sf_lneC e8 c2474
      refine pm_R_lo pm_M187 (pc' := 49) rfl rfl rfl ?_
      refine pm_R_ldc2 pm_M187 (pc' := 52) rfl rfl rfl ?_
      refine pm_R_op pm_M187 (pc' := 53) (st' := [.int z2467]) rfl (by show some (Value.int (lg_cmp a0 1936287598) :: _) = _; rw [← e2468]) rfl ?_
      refine pm_R_ifc pm_M187 (t := 73) (pc' := 56) rfl rfl rfl (fun c2478 => absurd (sf_pt2 B2470 sf_k0) c2478) (fun c2478 => ?_)
      refine pm_R_lo pm_M187 (pc' := 57) rfl rfl rfl ?_
      refine rf_R_get pm_M187 T (pc' := 60) (v := .ref 51) rfl rfl rfl rfl ?_
      refine pm_R_op pm_M187 (pc' := 61) (st' := [.int 1, .ref 51]) rfl rfl rfl ?_
      refine pm_R_iald pm_M187 (pc' := 62) (v := (f2 1)) rfl e3 (Nat.lt_of_lt_of_le (by decide) T.1) rfl rfl rfl ?_
      refine pm_R_op pm_M187 (pc' := 64) (st' := [.int 16, .int (f2 1)]) rfl rfl rfl ?_
      refine pm_R_icmp pm_M187 (t := 73) (pc' := 67) rfl rfl rfl (fun c2481 => ?_) (fun c2481 => ?_)
      · have B2482 : sf_B 0 15 (f2 1) := sf_neH0 c2481 sf_k16 ct4.2
        refine pm_R_lo pm_M187 (pc' := 74) rfl rfl rfl ?_
        refine pm_R_cv pm_M187 (pc' := 77) (a := 41) (ra := []) (rest := []) (ls' := [.ref 41, pm_no, pm_no]) rfl rfl (Or.inl rfl) pm_M179 T.2.1 rfl (by decide) (Nat.lt_of_lt_of_le (by decide) T.1) rfl rfl (Nat.le_of_ble_eq_true rfl) rfl rfl ?_
        refine rf_c179 (d := d + 1) T  (fun m2485 w2486 h2487 T2488 F2489 W2490 X2491 X2492 => ?_)
        have F2493 := (rf_G.refl [41, 51, 52] h).trans F2489 (by decide)
        have B2494 : sf_B 0 4 (m2485 17) := by rw [W2490 17 (by decide)]; exact B6
        have ek2495 : (m2485 17).toInt = ((m 17)).toInt := by rw [W2490 17 (by decide)]
        have W2496 : rf_W [10, 12, 13, 14, 16, 17, 18, 22] m m2485 := (rf_W.refl [10, 12, 13, 14, 16, 17, 18, 22] m).trans W2490 (by decide)
        show pm_R _ 187 77 [.ref 41, .long a0, pm_no, .int a1] [] _ _
        refine pm_R_lo pm_M187 (pc' := 78) rfl rfl rfl ?_
        refine pm_R_ldc2 pm_M187 (pc' := 81) rfl rfl rfl ?_
        refine pm_R_op pm_M187 (pc' := 82) (st' := [.int z7]) rfl (by show some (Value.int (lg_cmp a0 1920298085) :: _) = _; rw [← e8]) rfl ?_
        refine pm_R_ifc pm_M187 (t := 136) (pc' := 85) rfl rfl rfl (fun c2499 => ?_) (fun c2499 => absurd (Classical.not_not.mp c2499) c9)
        have k2500 := sf_lneC e8 c2499
        refine pm_R_lo pm_M187 (pc' := 137) (pm_q187_1 (Nat.le_of_ble_eq_true rfl)) rfl rfl ?_
        refine pm_R_ldc2 pm_M187 (pc' := 140) (pm_q187_1 (Nat.le_of_ble_eq_true rfl)) rfl rfl ?_
        refine pm_R_op pm_M187 (pc' := 141) (st' := [.int z2467]) (pm_q187_1 (Nat.le_of_ble_eq_true rfl)) (by show some (Value.int (lg_cmp a0 1936287598) :: _) = _; rw [← e2468]) rfl ?_
        refine pm_R_ifc pm_M187 (t := 191) (pc' := 144) (pm_q187_1 (Nat.le_of_ble_eq_true rfl)) rfl rfl (fun c2503 => absurd (sf_pt2 B2470 sf_k0) c2503) (fun c2503 => ?_)
        refine pm_R_lo pm_M187 (pc' := 145) (pm_q187_1 (Nat.le_of_ble_eq_true rfl)) rfl rfl ?_
        refine pm_R_op pm_M187 (pc' := 146) (st' := [.int 0, .ref 41]) (pm_q187_1 (Nat.le_of_ble_eq_true rfl)) rfl rfl ?_
        refine pm_R_op pm_M187 (pc' := 148) (st' := [.int 9, .int 0, .ref 41]) (pm_q187_1 (Nat.le_of_ble_eq_true rfl)) rfl rfl ?_
        refine pm_R_op pm_M187 (pc' := 149) (st' := [.int (-1), .int 9, .int 0, .ref 41]) (pm_q187_1 (Nat.le_of_ble_eq_true rfl)) rfl rfl ?_
        refine pm_R_cv pm_M187 (pc' := 152) (a := 41) (ra := [.int (-1), .int 9, .int 0]) (rest := []) (ls' := [.ref 41, .int 0, .int 9, .int (-1)]) (pm_q187_1 (Nat.le_of_ble_eq_true rfl)) rfl (Or.inl rfl) pm_M183 T2488.2.1 rfl (by decide) (Nat.lt_of_lt_of_le (by decide) T2488.1) rfl rfl (Nat.le_of_ble_eq_true rfl) rfl rfl ?_
        refine pm_R_lo pm_M183 (pc' := 1) rfl rfl rfl ?_
        have B2504 : sf_B 0 4 (m2485 13) := T2488.2.2.1 13
        refine rf_R_get pm_M183 T2488 (pc' := 4) (v := .int (m2485 13)) rfl rfl rfl rfl ?_
        refine pm_R_op pm_M183 (pc' := 5) (st' := [.int 3, .int (m2485 13)]) rfl rfl rfl ?_
        refine pm_R_icmp pm_M183 (t := 13) (pc' := 8) rfl rfl rfl (fun c2505 => ?_) (fun c2505 => ?_)
        · have B2506 : sf_B 3 3 (m2485 13) := sf_eqL c2505 sf_k3
          refine pm_R_lo pm_M183 (pc' := 14) rfl rfl rfl ?_
          refine rf_R_get pm_M183 T2488 (pc' := 17) (v := .ref 52) rfl rfl rfl rfl ?_
          refine pm_R_lo pm_M183 (pc' := 18) rfl rfl rfl ?_
          refine pm_R_lo pm_M183 (pc' := 19) rfl rfl rfl ?_
          have B2507 : sf_B 0 99 (m2485 14) := T2488.2.2.1 14
          refine rf_R_get pm_M183 T2488 (pc' := 22) (v := .int (m2485 14)) rfl rfl rfl rfl ?_
          obtain ⟨f2508, e2509, b2510⟩ := T2488.2.2.2.1 52 (by decide) (by decide)
          refine rf_R_ist pm_M183 T2488 (pc' := 23) rfl e2509 (by decide) (by decide) rfl ⟨_, rfl, sf_upd b2510 (sf_weak B2507 (by decide) (by decide)) _⟩ rfl (fun h2511 T2512 F2513 e2514 => ?_)
          have F2515 := F2493.trans F2513 (by decide)
          refine pm_R_lo pm_M183 (pc' := 24) rfl rfl rfl ?_
          refine rf_R_get pm_M183 T2512 (pc' := 27) (v := .int (m2485 14)) rfl rfl rfl rfl ?_
          refine pm_R_lo pm_M183 (pc' := 28) rfl rfl rfl ?_
          refine pm_R_icmp pm_M183 (t := 39) (pc' := 31) rfl rfl rfl (fun c2516 => ?_) (fun c2516 => ?_)
          · have B2517 : sf_B 10 99 (m2485 14) := sf_ltR c2516 sf_k9 B2507
            refine pm_R_lo pm_M183 (pc' := 40) rfl rfl rfl ?_
            refine pm_R_op pm_M183 (pc' := 41) (st' := [.int 2, .ref 41]) rfl rfl rfl ?_
            refine pm_R_lo pm_M183 (pc' := 42) rfl rfl rfl ?_
            have B2518 : sf_B 0 600 (m2485 12) := T2512.2.2.1 12
            refine rf_R_get pm_M183 T2512 (pc' := 45) (v := .int (m2485 12)) rfl rfl rfl rfl ?_
            refine pm_R_cv pm_M183 (pc' := 48) (a := 41) (ra := [.int (m2485 12), .int 2]) (rest := []) (ls' := [.ref 41, .int 2, .int (m2485 12)]) rfl rfl (Or.inl rfl) pm_M182 T2512.2.1 rfl (by decide) (Nat.lt_of_lt_of_le (by decide) T2512.1) rfl rfl (Nat.le_of_ble_eq_true rfl) rfl rfl ?_
            refine rf_c182 (d := d + 1) T2512 (sf_weak sf_k2 (by decide) (by decide)) B2518 (fun m2521 w2522 h2523 T2524 F2525 W2526 B2527 => ?_)
            have F2528 := F2515.trans F2525 (by decide)
            have B2529 : sf_B 3 3 (m2521 13) := by rw [W2526 13 (by decide)]; exact B2506
            have B2530 : sf_B 10 99 (m2521 14) := by rw [W2526 14 (by decide)]; exact B2517
            have W2531 : rf_W [10, 12, 13, 14, 16, 17, 18, 22] m m2521 := W2496.trans W2526 (by decide)
            show pm_R _ 183 48 [.ref 41, .int 0, .int 9, .int (-1)] [] _ _
            refine pm_R_lo pm_M183 (pc' := 49) rfl rfl rfl ?_
            refine pm_R_op pm_M183 (pc' := 50) (st' := [.int 0, .ref 41]) rfl rfl rfl ?_
            refine rf_R_put pm_M183 T2524 (pc' := 53) rfl rfl rfl (by decide) rfl rfl (sf_weak sf_k0 (by decide) (by decide)) rfl rfl (fun h2532 m2535 em2536 T2533 F2534 => ?_)
            have F2537 := F2528.trans F2534 (by decide)
            have B2538 : sf_B 3 3 (m2535 13) := by rw [em2536]; exact B2529
            have B2539 : sf_B 10 99 (m2535 14) := by rw [em2536]; exact B2530
            have B2540 : sf_B 1 4 (m2535 17) := by rw [em2536]; exact B2527
            have ek2541 : (m2535 17).toInt = ((m2521 17)).toInt := by rw [em2536]; rfl
            have B2542 : sf_B 0 0 (m2535 22) := by rw [em2536]; exact sf_k0
            have W2544 : rf_W [10, 12, 13, 14, 16, 17, 18, 22] m m2535 := by rw [em2536]; exact W2531.put (by decide)
            refine pm_R_lo pm_M183 (pc' := 54) rfl rfl rfl ?_
            refine pm_R_cv pm_M183 (pc' := 57) (a := 41) (ra := []) (rest := []) (ls' := [.ref 41, pm_no, pm_no]) rfl rfl (Or.inl rfl) pm_M179 T2533.2.1 rfl (by decide) (Nat.lt_of_lt_of_le (by decide) T2533.1) rfl rfl (Nat.le_of_ble_eq_true rfl) rfl rfl ?_
            have B2545 : sf_B 0 600 (m2535 10) := T2533.2.2.1 10
            refine rf_c179 (d := d + 0) T2533  (fun m2548 w2549 h2550 T2551 F2552 W2553 X2554 X2555 => ?_)
            have F2556 := F2537.trans F2552 (by decide)
            have B2557 : sf_B 1 4 (m2548 17) := by rw [W2553 17 (by decide)]; exact B2540
            have ek2558 : (m2548 17).toInt = ((m2521 17)).toInt := by rw [W2553 17 (by decide)]; exact ek2541
            have B2559 : sf_B 0 0 (m2548 22) := by rw [W2553 22 (by decide)]; exact B2542
            have W2560 : rf_W [10, 12, 13, 14, 16, 17, 18, 22] m m2548 := W2544.trans W2553 (by decide)
            show pm_R _ 183 57 [.ref 41, .int 0, .int 9, .int (-1)] [] _ _
            refine pm_R_op pm_M183 (pc' := 58) (st' := [.int 1]) rfl rfl rfl ?_
            refine pm_R_ret pm_M183 (r := some (.int 1)) rfl rfl ?_
            show pm_R _ 187 152 [.ref 41, .long a0, pm_no, .int a1] [.int 1] _ _
            refine pm_R_br pm_M187 (pc' := 155) (st' := []) (pm_q187_1 (Nat.le_of_ble_eq_true rfl)) rfl ?_
            refine pm_R_lo pm_M187 (pc' := 156) (pm_q187_1 (Nat.le_of_ble_eq_true rfl)) rfl rfl ?_
            refine pm_R_op pm_M187 (pc' := 157) (st' := [.int 1, .ref 41]) (pm_q187_1 (Nat.le_of_ble_eq_true rfl)) rfl rfl ?_
            refine pm_R_op pm_M187 (pc' := 158) (st' := [.int 5, .int 1, .ref 41]) (pm_q187_1 (Nat.le_of_ble_eq_true rfl)) rfl rfl ?_
            refine pm_R_op pm_M187 (pc' := 159) (st' := [.int (-1), .int 5, .int 1, .ref 41]) (pm_q187_1 (Nat.le_of_ble_eq_true rfl)) rfl rfl ?_
            refine pm_R_cv pm_M187 (pc' := 162) (a := 41) (ra := [.int (-1), .int 5, .int 1]) (rest := []) (ls' := [.ref 41, .int 1, .int 5, .int (-1)]) (pm_q187_1 (Nat.le_of_ble_eq_true rfl)) rfl (Or.inl rfl) pm_M183 T2551.2.1 rfl (by decide) (Nat.lt_of_lt_of_le (by decide) T2551.1) rfl rfl (Nat.le_of_ble_eq_true rfl) rfl rfl ?_
            refine pm_R_lo pm_M183 (pc' := 1) rfl rfl rfl ?_
            have B2561 : sf_B 0 4 (m2548 13) := T2551.2.2.1 13
            refine rf_R_get pm_M183 T2551 (pc' := 4) (v := .int (m2548 13)) rfl rfl rfl rfl ?_
            refine pm_R_op pm_M183 (pc' := 5) (st' := [.int 3, .int (m2548 13)]) rfl rfl rfl ?_
            refine pm_R_icmp pm_M183 (t := 13) (pc' := 8) rfl rfl rfl (fun c2562 => ?_) (fun c2562 => ?_)
            · have B2563 : sf_B 3 3 (m2548 13) := sf_eqL c2562 sf_k3
              refine pm_R_lo pm_M183 (pc' := 14) rfl rfl rfl ?_
              refine rf_R_get pm_M183 T2551 (pc' := 17) (v := .ref 52) rfl rfl rfl rfl ?_
              refine pm_R_lo pm_M183 (pc' := 18) rfl rfl rfl ?_
              refine pm_R_lo pm_M183 (pc' := 19) rfl rfl rfl ?_
              have B2564 : sf_B 0 99 (m2548 14) := T2551.2.2.1 14
              refine rf_R_get pm_M183 T2551 (pc' := 22) (v := .int (m2548 14)) rfl rfl rfl rfl ?_
              have e2565 := (F2552.cell (by decide) (F2534.cell (by decide) (F2525.cell (by decide) e2514)))
              refine rf_R_ist pm_M183 T2551 (pc' := 23) rfl e2565 (by decide) (by decide) rfl ⟨_, rfl, sf_upd (sf_upd b2510 (sf_weak B2507 (by decide) (by decide)) _) (sf_weak B2564 (by decide) (by decide)) _⟩ rfl (fun h2566 T2567 F2568 e2569 => ?_)
              have F2570 := F2556.trans F2568 (by decide)
              refine pm_R_lo pm_M183 (pc' := 24) rfl rfl rfl ?_
              refine rf_R_get pm_M183 T2567 (pc' := 27) (v := .int (m2548 14)) rfl rfl rfl rfl ?_
              refine pm_R_lo pm_M183 (pc' := 28) rfl rfl rfl ?_
              refine pm_R_icmp pm_M183 (t := 39) (pc' := 31) rfl rfl rfl (fun c2571 => ?_) (fun c2571 => ?_)
              · have B2572 : sf_B 6 99 (m2548 14) := sf_ltR c2571 sf_k5 B2564
                refine pm_R_lo pm_M183 (pc' := 40) rfl rfl rfl ?_
                refine pm_R_op pm_M183 (pc' := 41) (st' := [.int 2, .ref 41]) rfl rfl rfl ?_
                refine pm_R_lo pm_M183 (pc' := 42) rfl rfl rfl ?_
                have B2573 : sf_B 0 600 (m2548 12) := T2567.2.2.1 12
                refine rf_R_get pm_M183 T2567 (pc' := 45) (v := .int (m2548 12)) rfl rfl rfl rfl ?_
                refine pm_R_cv pm_M183 (pc' := 48) (a := 41) (ra := [.int (m2548 12), .int 2]) (rest := []) (ls' := [.ref 41, .int 2, .int (m2548 12)]) rfl rfl (Or.inl rfl) pm_M182 T2567.2.1 rfl (by decide) (Nat.lt_of_lt_of_le (by decide) T2567.1) rfl rfl (Nat.le_of_ble_eq_true rfl) rfl rfl ?_
                refine rf_c182 (d := d + 1) T2567 (sf_weak sf_k2 (by decide) (by decide)) B2573 (fun m2576 w2577 h2578 T2579 F2580 W2581 B2582 => ?_)
                have F2583 := F2570.trans F2580 (by decide)
                have B2584 : sf_B 0 0 (m2576 22) := by rw [W2581 22 (by decide)]; exact B2559
                have B2585 : sf_B 3 3 (m2576 13) := by rw [W2581 13 (by decide)]; exact B2563
                have B2586 : sf_B 6 99 (m2576 14) := by rw [W2581 14 (by decide)]; exact B2572
                have W2587 : rf_W [10, 12, 13, 14, 16, 17, 18, 22] m m2576 := W2560.trans W2581 (by decide)
                show pm_R _ 183 48 [.ref 41, .int 1, .int 5, .int (-1)] [] _ _
                refine pm_R_lo pm_M183 (pc' := 49) rfl rfl rfl ?_
                refine pm_R_op pm_M183 (pc' := 50) (st' := [.int 0, .ref 41]) rfl rfl rfl ?_
                refine rf_R_put pm_M183 T2579 (pc' := 53) rfl rfl rfl (by decide) rfl rfl (sf_weak sf_k0 (by decide) (by decide)) rfl rfl (fun h2588 m2591 em2592 T2589 F2590 => ?_)
                have F2593 := F2583.trans F2590 (by decide)
                have B2594 : sf_B 3 3 (m2591 13) := by rw [em2592]; exact B2585
                have B2595 : sf_B 6 99 (m2591 14) := by rw [em2592]; exact B2586
                have B2596 : sf_B 1 4 (m2591 17) := by rw [em2592]; exact B2582
                have ek2597 : (m2591 17).toInt = ((m2576 17)).toInt := by rw [em2592]; rfl
                have B2598 : sf_B 0 0 (m2591 22) := by rw [em2592]; exact sf_k0
                have W2600 : rf_W [10, 12, 13, 14, 16, 17, 18, 22] m m2591 := by rw [em2592]; exact W2587.put (by decide)
                refine pm_R_lo pm_M183 (pc' := 54) rfl rfl rfl ?_
                refine pm_R_cv pm_M183 (pc' := 57) (a := 41) (ra := []) (rest := []) (ls' := [.ref 41, pm_no, pm_no]) rfl rfl (Or.inl rfl) pm_M179 T2589.2.1 rfl (by decide) (Nat.lt_of_lt_of_le (by decide) T2589.1) rfl rfl (Nat.le_of_ble_eq_true rfl) rfl rfl ?_
                have B2601 : sf_B 0 600 (m2591 10) := T2589.2.2.1 10
                refine rf_c179 (d := d + 0) T2589  (fun m2604 w2605 h2606 T2607 F2608 W2609 X2610 X2611 => ?_)
                have F2612 := F2593.trans F2608 (by decide)
                have B2613 : sf_B 1 4 (m2604 17) := by rw [W2609 17 (by decide)]; exact B2596
                have ek2614 : (m2604 17).toInt = ((m2576 17)).toInt := by rw [W2609 17 (by decide)]; exact ek2597
                have B2615 : sf_B 0 0 (m2604 22) := by rw [W2609 22 (by decide)]; exact B2598
                have W2616 : rf_W [10, 12, 13, 14, 16, 17, 18, 22] m m2604 := W2600.trans W2609 (by decide)
                show pm_R _ 183 57 [.ref 41, .int 1, .int 5, .int (-1)] [] _ _
                refine pm_R_op pm_M183 (pc' := 58) (st' := [.int 1]) rfl rfl rfl ?_
                refine pm_R_ret pm_M183 (r := some (.int 1)) rfl rfl ?_
                show pm_R _ 187 162 [.ref 41, .long a0, pm_no, .int a1] [.int 1] _ _
                refine pm_R_br pm_M187 (pc' := 165) (st' := []) (pm_q187_1 (Nat.le_of_ble_eq_true rfl)) rfl ?_
                refine pm_R_lo pm_M187 (pc' := 166) (pm_q187_1 (Nat.le_of_ble_eq_true rfl)) rfl rfl ?_
                refine pm_R_op pm_M187 (pc' := 167) (st' := [.int 2, .ref 41]) (pm_q187_1 (Nat.le_of_ble_eq_true rfl)) rfl rfl ?_
                refine pm_R_op pm_M187 (pc' := 169) (st' := [.int 49, .int 2, .ref 41]) (pm_q187_1 (Nat.le_of_ble_eq_true rfl)) rfl rfl ?_
                refine pm_R_op pm_M187 (pc' := 170) (st' := [.int (-1), .int 49, .int 2, .ref 41]) (pm_q187_1 (Nat.le_of_ble_eq_true rfl)) rfl rfl ?_
                refine pm_R_cv pm_M187 (pc' := 173) (a := 41) (ra := [.int (-1), .int 49, .int 2]) (rest := []) (ls' := [.ref 41, .int 2, .int 49, .int (-1)]) (pm_q187_1 (Nat.le_of_ble_eq_true rfl)) rfl (Or.inl rfl) pm_M183 T2607.2.1 rfl (by decide) (Nat.lt_of_lt_of_le (by decide) T2607.1) rfl rfl (Nat.le_of_ble_eq_true rfl) rfl rfl ?_
                refine pm_R_lo pm_M183 (pc' := 1) rfl rfl rfl ?_
                have B2617 : sf_B 0 4 (m2604 13) := T2607.2.2.1 13
                refine rf_R_get pm_M183 T2607 (pc' := 4) (v := .int (m2604 13)) rfl rfl rfl rfl ?_
                refine pm_R_op pm_M183 (pc' := 5) (st' := [.int 3, .int (m2604 13)]) rfl rfl rfl ?_
                refine pm_R_icmp pm_M183 (t := 13) (pc' := 8) rfl rfl rfl (fun c2618 => ?_) (fun c2618 => ?_)
                · have B2619 : sf_B 3 3 (m2604 13) := sf_eqL c2618 sf_k3
                  refine pm_R_lo pm_M183 (pc' := 14) rfl rfl rfl ?_
                  refine rf_R_get pm_M183 T2607 (pc' := 17) (v := .ref 52) rfl rfl rfl rfl ?_
                  refine pm_R_lo pm_M183 (pc' := 18) rfl rfl rfl ?_
                  refine pm_R_lo pm_M183 (pc' := 19) rfl rfl rfl ?_
                  have B2620 : sf_B 0 99 (m2604 14) := T2607.2.2.1 14
                  refine rf_R_get pm_M183 T2607 (pc' := 22) (v := .int (m2604 14)) rfl rfl rfl rfl ?_
                  have e2621 := (F2608.cell (by decide) (F2590.cell (by decide) (F2580.cell (by decide) e2569)))
                  refine rf_R_ist pm_M183 T2607 (pc' := 23) rfl e2621 (by decide) (by decide) rfl ⟨_, rfl, sf_upd (sf_upd (sf_upd b2510 (sf_weak B2507 (by decide) (by decide)) _) (sf_weak B2564 (by decide) (by decide)) _) (sf_weak B2620 (by decide) (by decide)) _⟩ rfl (fun h2622 T2623 F2624 e2625 => ?_)
                  have F2626 := F2612.trans F2624 (by decide)
                  refine pm_R_lo pm_M183 (pc' := 24) rfl rfl rfl ?_
                  refine rf_R_get pm_M183 T2623 (pc' := 27) (v := .int (m2604 14)) rfl rfl rfl rfl ?_
                  refine pm_R_lo pm_M183 (pc' := 28) rfl rfl rfl ?_
                  refine pm_R_icmp pm_M183 (t := 39) (pc' := 31) rfl rfl rfl (fun c2627 => ?_) (fun c2627 => ?_)
                  · have B2628 : sf_B 50 99 (m2604 14) := sf_ltR c2627 sf_k49 B2620
                    refine pm_R_lo pm_M183 (pc' := 40) rfl rfl rfl ?_
                    refine pm_R_op pm_M183 (pc' := 41) (st' := [.int 2, .ref 41]) rfl rfl rfl ?_
                    refine pm_R_lo pm_M183 (pc' := 42) rfl rfl rfl ?_
                    have B2629 : sf_B 0 600 (m2604 12) := T2623.2.2.1 12
                    refine rf_R_get pm_M183 T2623 (pc' := 45) (v := .int (m2604 12)) rfl rfl rfl rfl ?_
                    refine pm_R_cv pm_M183 (pc' := 48) (a := 41) (ra := [.int (m2604 12), .int 2]) (rest := []) (ls' := [.ref 41, .int 2, .int (m2604 12)]) rfl rfl (Or.inl rfl) pm_M182 T2623.2.1 rfl (by decide) (Nat.lt_of_lt_of_le (by decide) T2623.1) rfl rfl (Nat.le_of_ble_eq_true rfl) rfl rfl ?_
                    refine rf_c182 (d := d + 1) T2623 (sf_weak sf_k2 (by decide) (by decide)) B2629 (fun m2632 w2633 h2634 T2635 F2636 W2637 B2638 => ?_)
                    have F2639 := F2626.trans F2636 (by decide)
                    have B2640 : sf_B 0 0 (m2632 22) := by rw [W2637 22 (by decide)]; exact B2615
                    have B2641 : sf_B 3 3 (m2632 13) := by rw [W2637 13 (by decide)]; exact B2619
                    have B2642 : sf_B 50 99 (m2632 14) := by rw [W2637 14 (by decide)]; exact B2628
                    have W2643 : rf_W [10, 12, 13, 14, 16, 17, 18, 22] m m2632 := W2616.trans W2637 (by decide)
                    show pm_R _ 183 48 [.ref 41, .int 2, .int 49, .int (-1)] [] _ _
                    refine pm_R_lo pm_M183 (pc' := 49) rfl rfl rfl ?_
                    refine pm_R_op pm_M183 (pc' := 50) (st' := [.int 0, .ref 41]) rfl rfl rfl ?_
                    refine rf_R_put pm_M183 T2635 (pc' := 53) rfl rfl rfl (by decide) rfl rfl (sf_weak sf_k0 (by decide) (by decide)) rfl rfl (fun h2644 m2647 em2648 T2645 F2646 => ?_)
                    have F2649 := F2639.trans F2646 (by decide)
                    have B2650 : sf_B 3 3 (m2647 13) := by rw [em2648]; exact B2641
                    have B2651 : sf_B 50 99 (m2647 14) := by rw [em2648]; exact B2642
                    have B2652 : sf_B 1 4 (m2647 17) := by rw [em2648]; exact B2638
                    have ek2653 : (m2647 17).toInt = ((m2632 17)).toInt := by rw [em2648]; rfl
                    have B2654 : sf_B 0 0 (m2647 22) := by rw [em2648]; exact sf_k0
                    have W2656 : rf_W [10, 12, 13, 14, 16, 17, 18, 22] m m2647 := by rw [em2648]; exact W2643.put (by decide)
                    refine pm_R_lo pm_M183 (pc' := 54) rfl rfl rfl ?_
                    refine pm_R_cv pm_M183 (pc' := 57) (a := 41) (ra := []) (rest := []) (ls' := [.ref 41, pm_no, pm_no]) rfl rfl (Or.inl rfl) pm_M179 T2645.2.1 rfl (by decide) (Nat.lt_of_lt_of_le (by decide) T2645.1) rfl rfl (Nat.le_of_ble_eq_true rfl) rfl rfl ?_
                    have B2657 : sf_B 0 600 (m2647 10) := T2645.2.2.1 10
                    refine rf_c179 (d := d + 0) T2645  (fun m2660 w2661 h2662 T2663 F2664 W2665 X2666 X2667 => ?_)
                    have F2668 := F2649.trans F2664 (by decide)
                    have B2669 : sf_B 1 4 (m2660 17) := by rw [W2665 17 (by decide)]; exact B2652
                    have ek2670 : (m2660 17).toInt = ((m2632 17)).toInt := by rw [W2665 17 (by decide)]; exact ek2653
                    have B2671 : sf_B 0 0 (m2660 22) := by rw [W2665 22 (by decide)]; exact B2654
                    have W2672 : rf_W [10, 12, 13, 14, 16, 17, 18, 22] m m2660 := W2656.trans W2665 (by decide)
                    show pm_R _ 183 57 [.ref 41, .int 2, .int 49, .int (-1)] [] _ _
                    refine pm_R_op pm_M183 (pc' := 58) (st' := [.int 1]) rfl rfl rfl ?_
                    refine pm_R_ret pm_M183 (r := some (.int 1)) rfl rfl ?_
                    show pm_R _ 187 173 [.ref 41, .long a0, pm_no, .int a1] [.int 1] _ _
                    refine pm_R_br pm_M187 (pc' := 178) (st' := []) (pm_q187_1 (Nat.le_of_ble_eq_true rfl)) rfl ?_
                    refine pm_R_lo pm_M187 (pc' := 179) (pm_q187_1 (Nat.le_of_ble_eq_true rfl)) rfl rfl ?_
                    refine pm_R_op pm_M187 (pc' := 180) (st' := [.int 1, .ref 41]) (pm_q187_1 (Nat.le_of_ble_eq_true rfl)) rfl rfl ?_
                    refine pm_R_op pm_M187 (pc' := 182) (st' := [.int 42, .int 1, .ref 41]) (pm_q187_1 (Nat.le_of_ble_eq_true rfl)) rfl rfl ?_
                    refine pm_R_op pm_M187 (pc' := 183) (st' := [.int 3, .int 42, .int 1, .ref 41]) (pm_q187_1 (Nat.le_of_ble_eq_true rfl)) rfl rfl ?_
                    refine pm_R_op pm_M187 (pc' := 185) (st' := [.int 16, .int 3, .int 42, .int 1, .ref 41]) (pm_q187_1 (Nat.le_of_ble_eq_true rfl)) rfl rfl ?_
                    refine pm_R_op pm_M187 (pc' := 186) (st' := [.int 0, .int 16, .int 3, .int 42, .int 1, .ref 41]) (pm_q187_1 (Nat.le_of_ble_eq_true rfl)) rfl rfl ?_
                    refine pm_R_cv pm_M187 (pc' := 189) (a := 41) (ra := [.int 0, .int 16, .int 3, .int 42, .int 1]) (rest := []) (ls' := [.ref 41, .int 1, .int 42, .int 3, .int 16, .int 0, pm_no, pm_no]) (pm_q187_1 (Nat.le_of_ble_eq_true rfl)) rfl (Or.inl rfl) pm_M185 T2663.2.1 rfl (by decide) (Nat.lt_of_lt_of_le (by decide) T2663.1) rfl rfl (Nat.le_of_ble_eq_true rfl) rfl rfl ?_
                    refine pm_R_lo pm_M185 (pc' := 1) rfl rfl rfl ?_
                    refine rf_R_get pm_M185 T2663 (pc' := 4) (v := .ref 51) rfl rfl rfl rfl ?_
                    refine pm_R_lo pm_M185 (pc' := 5) rfl rfl rfl ?_
                    have e2673 := (F2664.cell (by decide) (F2646.cell (by decide) (F2636.cell (by decide) (F2624.cell (by decide) (F2608.cell (by decide) (F2590.cell (by decide) (F2580.cell (by decide) (F2568.cell (by decide) (F2552.cell (by decide) (F2534.cell (by decide) (F2525.cell (by decide) (F2513.cell (by decide) (F2489.cell (by decide) e3)))))))))))))
                    refine pm_R_iald pm_M185 (pc' := 6) (v := (f2 1)) rfl e2673 (Nat.lt_of_lt_of_le (by decide) T2663.1) rfl rfl rfl ?_
                    refine pm_R_lo pm_M185 (pc' := 8) (ls' := [.ref 41, .int 1, .int 42, .int 3, .int 16, .int 0, .int (f2 1), pm_no]) (st' := []) rfl rfl rfl ?_
                    refine pm_R_lo pm_M185 (pc' := 10) rfl rfl rfl ?_
                    refine pm_R_lo pm_M185 (pc' := 12) rfl rfl rfl ?_
                    refine pm_R_icmp pm_M185 (t := 16) (pc' := 15) rfl rfl rfl (fun c2676 => ?_) (fun c2676 => absurd (Classical.not_not.mp c2676) (sf_neq2 B2482 sf_k16 (by decide)))
                    skip
                    refine pm_R_op pm_M185 (pc' := 17) (st' := [.int 0]) rfl rfl rfl ?_
                    refine pm_R_lo pm_M185 (pc' := 19) (ls' := [.ref 41, .int 1, .int 42, .int 3, .int 16, .int 0, .int (f2 1), .int 0]) (st' := []) rfl rfl rfl ?_
                    refine pm_R_lo pm_M185 (pc' := 21) rfl rfl rfl ?_
                    refine pm_R_lo pm_M185 (pc' := 22) rfl rfl rfl ?_
                    refine pm_R_br pm_M185 (pc' := 25) (st' := []) rfl rfl ?_
                    refine pm_R_lo pm_M185 (pc' := 26) rfl rfl rfl ?_
                    refine rf_R_get pm_M185 T2663 (pc' := 29) (v := .ref 51) rfl rfl rfl rfl ?_
                    refine pm_R_lo pm_M185 (pc' := 30) rfl rfl rfl ?_
                    refine pm_R_lo pm_M185 (pc' := 31) rfl rfl rfl ?_
                    refine pm_R_lo pm_M185 (pc' := 33) rfl rfl rfl ?_
                    refine sf_R_imul pm_M185 (pc' := 34) rfl rfl sf_k3 B2482 (by decide) (by decide) (by decide) (fun z2677 e2678 B2679 => ?_)
                    refine sf_R_iadd pm_M185 (pc' := 35) rfl rfl sf_k42 B2679 (by decide) (by decide) (fun z2680 e2681 B2682 => ?_)
                    refine pm_R_lo pm_M185 (pc' := 37) rfl rfl rfl ?_
                    refine sf_R_iadd pm_M185 (pc' := 38) rfl rfl B2682 sf_k0 (by decide) (by decide) (fun z2683 e2684 B2685 => ?_)
                    refine pm_R_lo pm_M185 (pc' := 39) rfl rfl rfl ?_
                    refine rf_R_get pm_M185 T2663 (pc' := 42) (v := .ref 52) rfl rfl rfl rfl ?_
                    refine pm_R_lo pm_M185 (pc' := 44) rfl rfl rfl ?_
                    refine pm_R_lo pm_M185 (pc' := 46) rfl rfl rfl ?_
                    refine pm_R_op pm_M185 (pc' := 47) (st' := [.int 0, .ref 52, .int z2683, .ref 51]) rfl rfl rfl ?_
                    have e2686 := (F2664.cell (by decide) (F2646.cell (by decide) (F2636.cell (by decide) e2625)))
                    refine pm_R_iald pm_M185 (pc' := 48) (v := (m2485 14)) rfl e2686 (Nat.lt_of_lt_of_le (by decide) T2663.1) rfl (Eq.trans (show (upd (upd (upd f2508 (Int32.toNatClampNeg 0) (m2485 14)) (Int32.toNatClampNeg 1) (m2548 14)) (Int32.toNatClampNeg 2) (m2604 14)) (Int32.toNatClampNeg 0) = (upd (upd f2508 (Int32.toNatClampNeg 0) (m2485 14)) (Int32.toNatClampNeg 1) (m2548 14)) (Int32.toNatClampNeg 0) from rfl) (Eq.trans (show (upd (upd f2508 (Int32.toNatClampNeg 0) (m2485 14)) (Int32.toNatClampNeg 1) (m2548 14)) (Int32.toNatClampNeg 0) = (upd f2508 (Int32.toNatClampNeg 0) (m2485 14)) (Int32.toNatClampNeg 0) from rfl) rfl)) rfl ?_
                    refine rf_R_ist pm_M185 T2663 (pc' := 49) rfl e2673 (by decide) (by decide) (sf_in B2685 (by decide) (by decide)) ⟨_, rfl⟩ rfl (fun h2689 T2690 F2691 e2692 => ?_)
                    have F2693 := F2668.trans F2691 (by decide)
                    have ct2694 : rf_ct 0 (upd f2 (Int32.toNatClampNeg z2683) (m2485 14)) := ⟨(sf_eqL (Eq.trans (sf_upd_ne (j := Int32.toNatClampNeg 0) B2685 (by decide) (by decide)) rfl) ct4.1), (sf_eqL (Eq.trans (sf_upd_ne (j := Int32.toNatClampNeg 1) B2685 (by decide) (by decide)) rfl) (sf_weak B2482 (by decide) (by decide)))⟩
                    have bd2695 : (m2660 17).toInt = 0 → rf_bd 0 (upd f2 (Int32.toNatClampNeg z2683) (m2485 14)) := fun z => (sf_pos B2669 (by decide) z)
                    refine pm_R_lo pm_M185 (pc' := 52) (ls' := [.ref 41, .int 1, .int 42, .int 3, .int 16, .int 0, .int (f2 1), .int 1]) (st' := []) rfl rfl rfl ?_
                    refine pm_R_br pm_M185 (pc' := 19) rfl rfl ?_
                    refine pm_R_lo pm_M185 (pc' := 21) rfl rfl rfl ?_
                    refine pm_R_lo pm_M185 (pc' := 22) rfl rfl rfl ?_
                    refine pm_R_br pm_M185 (pc' := 25) (st' := []) rfl rfl ?_
                    refine pm_R_lo pm_M185 (pc' := 26) rfl rfl rfl ?_
                    refine rf_R_get pm_M185 T2690 (pc' := 29) (v := .ref 51) rfl rfl rfl rfl ?_
                    refine pm_R_lo pm_M185 (pc' := 30) rfl rfl rfl ?_
                    refine pm_R_lo pm_M185 (pc' := 31) rfl rfl rfl ?_
                    refine pm_R_lo pm_M185 (pc' := 33) rfl rfl rfl ?_
                    refine sf_R_imulV pm_M185 (pc' := 34) rfl rfl sf_k3 B2482 (by decide) (by decide) (by decide) e2678 ?_
                    refine sf_R_iaddV pm_M185 (pc' := 35) rfl rfl sf_k42 B2679 (by decide) (by decide) e2681 ?_
                    refine pm_R_lo pm_M185 (pc' := 37) rfl rfl rfl ?_
                    refine sf_R_iadd pm_M185 (pc' := 38) rfl rfl B2682 sf_k1 (by decide) (by decide) (fun z2696 e2697 B2698 => ?_)
                    refine pm_R_lo pm_M185 (pc' := 39) rfl rfl rfl ?_
                    refine rf_R_get pm_M185 T2690 (pc' := 42) (v := .ref 52) rfl rfl rfl rfl ?_
                    refine pm_R_lo pm_M185 (pc' := 44) rfl rfl rfl ?_
                    refine pm_R_lo pm_M185 (pc' := 46) rfl rfl rfl ?_
                    refine pm_R_op pm_M185 (pc' := 47) (st' := [.int 1, .ref 52, .int z2696, .ref 51]) rfl rfl rfl ?_
                    have e2699 := (F2691.cell (by decide) e2686)
                    refine pm_R_iald pm_M185 (pc' := 48) (v := (m2548 14)) rfl e2699 (Nat.lt_of_lt_of_le (by decide) T2690.1) rfl (Eq.trans (show (upd (upd (upd f2508 (Int32.toNatClampNeg 0) (m2485 14)) (Int32.toNatClampNeg 1) (m2548 14)) (Int32.toNatClampNeg 2) (m2604 14)) (Int32.toNatClampNeg 1) = (upd (upd f2508 (Int32.toNatClampNeg 0) (m2485 14)) (Int32.toNatClampNeg 1) (m2548 14)) (Int32.toNatClampNeg 1) from rfl) rfl) rfl ?_
                    refine rf_R_ist pm_M185 T2690 (pc' := 49) rfl e2692 (by decide) (by decide) (sf_in B2698 (by decide) (by decide)) ⟨_, rfl⟩ rfl (fun h2702 T2703 F2704 e2705 => ?_)
                    have F2706 := F2693.trans F2704 (by decide)
                    have ct2707 : rf_ct 0 (upd (upd f2 (Int32.toNatClampNeg z2683) (m2485 14)) (Int32.toNatClampNeg z2696) (m2548 14)) := ⟨(sf_eqL (Eq.trans (sf_upd_ne (j := Int32.toNatClampNeg 0) B2698 (by decide) (by decide)) (Eq.trans (sf_upd_ne (j := Int32.toNatClampNeg 0) B2685 (by decide) (by decide)) rfl)) ct4.1), (sf_eqL (Eq.trans (sf_upd_ne (j := Int32.toNatClampNeg 1) B2698 (by decide) (by decide)) (Eq.trans (sf_upd_ne (j := Int32.toNatClampNeg 1) B2685 (by decide) (by decide)) rfl)) (sf_weak B2482 (by decide) (by decide)))⟩
                    have bd2708 : (m2660 17).toInt = 0 → rf_bd 0 (upd (upd f2 (Int32.toNatClampNeg z2683) (m2485 14)) (Int32.toNatClampNeg z2696) (m2548 14)) := fun z => (sf_pos B2669 (by decide) z)
                    refine pm_R_lo pm_M185 (pc' := 52) (ls' := [.ref 41, .int 1, .int 42, .int 3, .int 16, .int 0, .int (f2 1), .int 2]) (st' := []) rfl rfl rfl ?_
                    refine pm_R_br pm_M185 (pc' := 19) rfl rfl ?_
                    refine pm_R_lo pm_M185 (pc' := 21) rfl rfl rfl ?_
                    refine pm_R_lo pm_M185 (pc' := 22) rfl rfl rfl ?_
                    refine pm_R_br pm_M185 (pc' := 25) (st' := []) rfl rfl ?_
                    refine pm_R_lo pm_M185 (pc' := 26) rfl rfl rfl ?_
                    refine rf_R_get pm_M185 T2703 (pc' := 29) (v := .ref 51) rfl rfl rfl rfl ?_
                    refine pm_R_lo pm_M185 (pc' := 30) rfl rfl rfl ?_
                    refine pm_R_lo pm_M185 (pc' := 31) rfl rfl rfl ?_
                    refine pm_R_lo pm_M185 (pc' := 33) rfl rfl rfl ?_
                    refine sf_R_imulV pm_M185 (pc' := 34) rfl rfl sf_k3 B2482 (by decide) (by decide) (by decide) e2678 ?_
                    refine sf_R_iaddV pm_M185 (pc' := 35) rfl rfl sf_k42 B2679 (by decide) (by decide) e2681 ?_
                    refine pm_R_lo pm_M185 (pc' := 37) rfl rfl rfl ?_
                    refine sf_R_iadd pm_M185 (pc' := 38) rfl rfl B2682 sf_k2 (by decide) (by decide) (fun z2709 e2710 B2711 => ?_)
                    refine pm_R_lo pm_M185 (pc' := 39) rfl rfl rfl ?_
                    refine rf_R_get pm_M185 T2703 (pc' := 42) (v := .ref 52) rfl rfl rfl rfl ?_
                    refine pm_R_lo pm_M185 (pc' := 44) rfl rfl rfl ?_
                    refine pm_R_lo pm_M185 (pc' := 46) rfl rfl rfl ?_
                    refine pm_R_op pm_M185 (pc' := 47) (st' := [.int 2, .ref 52, .int z2709, .ref 51]) rfl rfl rfl ?_
                    have e2712 := (F2704.cell (by decide) e2699)
                    refine pm_R_iald pm_M185 (pc' := 48) (v := (m2604 14)) rfl e2712 (Nat.lt_of_lt_of_le (by decide) T2703.1) rfl rfl rfl ?_
                    refine rf_R_ist pm_M185 T2703 (pc' := 49) rfl e2705 (by decide) (by decide) (sf_in B2711 (by decide) (by decide)) ⟨_, rfl⟩ rfl (fun h2715 T2716 F2717 e2718 => ?_)
                    have F2719 := F2706.trans F2717 (by decide)
                    have ct2720 : rf_ct 0 (upd (upd (upd f2 (Int32.toNatClampNeg z2683) (m2485 14)) (Int32.toNatClampNeg z2696) (m2548 14)) (Int32.toNatClampNeg z2709) (m2604 14)) := ⟨(sf_eqL (Eq.trans (sf_upd_ne (j := Int32.toNatClampNeg 0) B2711 (by decide) (by decide)) (Eq.trans (sf_upd_ne (j := Int32.toNatClampNeg 0) B2698 (by decide) (by decide)) (Eq.trans (sf_upd_ne (j := Int32.toNatClampNeg 0) B2685 (by decide) (by decide)) rfl))) ct4.1), (sf_eqL (Eq.trans (sf_upd_ne (j := Int32.toNatClampNeg 1) B2711 (by decide) (by decide)) (Eq.trans (sf_upd_ne (j := Int32.toNatClampNeg 1) B2698 (by decide) (by decide)) (Eq.trans (sf_upd_ne (j := Int32.toNatClampNeg 1) B2685 (by decide) (by decide)) rfl))) (sf_weak B2482 (by decide) (by decide)))⟩
                    have bd2721 : (m2660 17).toInt = 0 → rf_bd 0 (upd (upd (upd f2 (Int32.toNatClampNeg z2683) (m2485 14)) (Int32.toNatClampNeg z2696) (m2548 14)) (Int32.toNatClampNeg z2709) (m2604 14)) := fun z => (sf_pos B2669 (by decide) z)
                    refine pm_R_lo pm_M185 (pc' := 52) (ls' := [.ref 41, .int 1, .int 42, .int 3, .int 16, .int 0, .int (f2 1), .int 3]) (st' := []) rfl rfl rfl ?_
                    refine pm_R_br pm_M185 (pc' := 19) rfl rfl ?_
                    refine pm_R_lo pm_M185 (pc' := 21) rfl rfl rfl ?_
                    refine pm_R_lo pm_M185 (pc' := 22) rfl rfl rfl ?_
                    refine pm_R_br pm_M185 (pc' := 55) (st' := []) rfl rfl ?_
                    refine pm_R_lo pm_M185 (pc' := 56) rfl rfl rfl ?_
                    refine rf_R_get pm_M185 T2716 (pc' := 59) (v := .ref 51) rfl rfl rfl rfl ?_
                    refine pm_R_lo pm_M185 (pc' := 60) rfl rfl rfl ?_
                    refine pm_R_op pm_M185 (pc' := 61) (st' := [.int 1, .ref 51, .int 1, .ref 51]) rfl rfl rfl ?_
                    refine pm_R_iald pm_M185 (pc' := 62) (v := (f2 1)) rfl e2718 (Nat.lt_of_lt_of_le (by decide) T2716.1) rfl (Eq.trans (sf_upd_ne (j := Int32.toNatClampNeg 1) B2711 (by decide) (by decide)) (Eq.trans (sf_upd_ne (j := Int32.toNatClampNeg 1) B2698 (by decide) (by decide)) (Eq.trans (sf_upd_ne (j := Int32.toNatClampNeg 1) B2685 (by decide) (by decide)) rfl))) rfl ?_
                    refine pm_R_op pm_M185 (pc' := 63) (st' := [.int 1, .int (f2 1), .int 1, .ref 51]) rfl rfl rfl ?_
                    refine sf_R_iadd pm_M185 (pc' := 64) rfl rfl B2482 sf_k1 (by decide) (by decide) (fun z2724 e2725 B2726 => ?_)
                    refine rf_R_ist pm_M185 T2716 (pc' := 65) rfl e2718 (by decide) (by decide) rfl ⟨_, rfl⟩ rfl (fun h2727 T2728 F2729 e2730 => ?_)
                    have F2731 := F2719.trans F2729 (by decide)
                    have ct2732 : rf_ct 0 (upd (upd (upd (upd f2 (Int32.toNatClampNeg z2683) (m2485 14)) (Int32.toNatClampNeg z2696) (m2548 14)) (Int32.toNatClampNeg z2709) (m2604 14)) (Int32.toNatClampNeg 1) z2724) := ⟨(sf_eqL (Eq.trans (show (upd (upd (upd (upd f2 (Int32.toNatClampNeg z2683) (m2485 14)) (Int32.toNatClampNeg z2696) (m2548 14)) (Int32.toNatClampNeg z2709) (m2604 14)) (Int32.toNatClampNeg 1) z2724) (Int32.toNatClampNeg 0) = (upd (upd (upd f2 (Int32.toNatClampNeg z2683) (m2485 14)) (Int32.toNatClampNeg z2696) (m2548 14)) (Int32.toNatClampNeg z2709) (m2604 14)) (Int32.toNatClampNeg 0) from rfl) (Eq.trans (sf_upd_ne (j := Int32.toNatClampNeg 0) B2711 (by decide) (by decide)) (Eq.trans (sf_upd_ne (j := Int32.toNatClampNeg 0) B2698 (by decide) (by decide)) (Eq.trans (sf_upd_ne (j := Int32.toNatClampNeg 0) B2685 (by decide) (by decide)) rfl)))) ct4.1), (sf_eqL rfl (sf_weak B2726 (by decide) (by decide)))⟩
                    have bd2733 : (m2660 17).toInt = 0 → rf_bd 0 (upd (upd (upd (upd f2 (Int32.toNatClampNeg z2683) (m2485 14)) (Int32.toNatClampNeg z2696) (m2548 14)) (Int32.toNatClampNeg z2709) (m2604 14)) (Int32.toNatClampNeg 1) z2724) := fun z => (sf_pos B2669 (by decide) z)
                    refine pm_R_ret pm_M185 (r := none) rfl rfl ?_
                    show pm_R _ 187 189 [.ref 41, .long a0, pm_no, .int a1] [] _ _
                    refine pm_R_op pm_M187 (pc' := 190) (st' := [.int 1]) (pm_q187_1 (Nat.le_of_ble_eq_true rfl)) rfl rfl ?_
                    have B2734 : sf_B 0 600 (m2660 10) := T2728.2.2.1 10
                    exact pm_R_ret pm_M187 (r := some (.int 1)) (pm_q187_1 (Nat.le_of_ble_eq_true rfl)) rfl (K1 m2660 w2661 h2727 T2728 F2731 W2672 (⟨(upd (upd (upd (upd f2 (Int32.toNatClampNeg z2683) (m2485 14)) (Int32.toNatClampNeg z2696) (m2548 14)) (Int32.toNatClampNeg z2709) (m2604 14)) (Int32.toNatClampNeg 1) z2724), e2730, ct2732, fun z => (sf_pos B2669 (by decide) z)⟩) (sf_aux92 _ _ _ _ _ _ _ _ X2491 X2554 X2610 X2666))
                  · have B2735 : sf_B 0 49 (m2604 14) := sf_leL (Int32.not_lt.mp c2627) B2620 sf_k49
                    refine pm_R_lo pm_M183 (pc' := 32) rfl rfl rfl ?_
                    refine rf_R_get pm_M183 T2623 (pc' := 35) (v := .int (m2604 14)) rfl rfl rfl rfl ?_
                    refine pm_R_lo pm_M183 (pc' := 36) rfl rfl rfl ?_
                    refine pm_R_icmp pm_M183 (t := 53) (pc' := 39) rfl rfl rfl (fun c2736 => ?_) (fun c2736 => absurd (Classical.not_not.mp c2736) (sf_neq1 B2735 sf_kn1 (by decide)))
                    skip
                    refine pm_R_lo pm_M183 (pc' := 54) rfl rfl rfl ?_
                    refine pm_R_cv pm_M183 (pc' := 57) (a := 41) (ra := []) (rest := []) (ls' := [.ref 41, pm_no, pm_no]) rfl rfl (Or.inl rfl) pm_M179 T2623.2.1 rfl (by decide) (Nat.lt_of_lt_of_le (by decide) T2623.1) rfl rfl (Nat.le_of_ble_eq_true rfl) rfl rfl ?_
                    have B2737 : sf_B 0 600 (m2604 10) := T2623.2.2.1 10
                    refine rf_c179 (d := d + 0) T2623  (fun m2740 w2741 h2742 T2743 F2744 W2745 X2746 X2747 => ?_)
                    have F2748 := F2626.trans F2744 (by decide)
                    have B2749 : sf_B 1 4 (m2740 17) := by rw [W2745 17 (by decide)]; exact B2613
                    have ek2750 : (m2740 17).toInt = ((m2576 17)).toInt := by rw [W2745 17 (by decide)]; exact ek2614
                    have B2751 : sf_B 0 0 (m2740 22) := by rw [W2745 22 (by decide)]; exact B2615
                    have W2752 : rf_W [10, 12, 13, 14, 16, 17, 18, 22] m m2740 := W2616.trans W2745 (by decide)
                    show pm_R _ 183 57 [.ref 41, .int 2, .int 49, .int (-1)] [] _ _
                    refine pm_R_op pm_M183 (pc' := 58) (st' := [.int 1]) rfl rfl rfl ?_
                    refine pm_R_ret pm_M183 (r := some (.int 1)) rfl rfl ?_
                    show pm_R _ 187 173 [.ref 41, .long a0, pm_no, .int a1] [.int 1] _ _
                    refine pm_R_br pm_M187 (pc' := 178) (st' := []) (pm_q187_1 (Nat.le_of_ble_eq_true rfl)) rfl ?_
                    refine pm_R_lo pm_M187 (pc' := 179) (pm_q187_1 (Nat.le_of_ble_eq_true rfl)) rfl rfl ?_
                    refine pm_R_op pm_M187 (pc' := 180) (st' := [.int 1, .ref 41]) (pm_q187_1 (Nat.le_of_ble_eq_true rfl)) rfl rfl ?_
                    refine pm_R_op pm_M187 (pc' := 182) (st' := [.int 42, .int 1, .ref 41]) (pm_q187_1 (Nat.le_of_ble_eq_true rfl)) rfl rfl ?_
                    refine pm_R_op pm_M187 (pc' := 183) (st' := [.int 3, .int 42, .int 1, .ref 41]) (pm_q187_1 (Nat.le_of_ble_eq_true rfl)) rfl rfl ?_
                    refine pm_R_op pm_M187 (pc' := 185) (st' := [.int 16, .int 3, .int 42, .int 1, .ref 41]) (pm_q187_1 (Nat.le_of_ble_eq_true rfl)) rfl rfl ?_
                    refine pm_R_op pm_M187 (pc' := 186) (st' := [.int 0, .int 16, .int 3, .int 42, .int 1, .ref 41]) (pm_q187_1 (Nat.le_of_ble_eq_true rfl)) rfl rfl ?_
                    refine pm_R_cv pm_M187 (pc' := 189) (a := 41) (ra := [.int 0, .int 16, .int 3, .int 42, .int 1]) (rest := []) (ls' := [.ref 41, .int 1, .int 42, .int 3, .int 16, .int 0, pm_no, pm_no]) (pm_q187_1 (Nat.le_of_ble_eq_true rfl)) rfl (Or.inl rfl) pm_M185 T2743.2.1 rfl (by decide) (Nat.lt_of_lt_of_le (by decide) T2743.1) rfl rfl (Nat.le_of_ble_eq_true rfl) rfl rfl ?_
                    refine pm_R_lo pm_M185 (pc' := 1) rfl rfl rfl ?_
                    refine rf_R_get pm_M185 T2743 (pc' := 4) (v := .ref 51) rfl rfl rfl rfl ?_
                    refine pm_R_lo pm_M185 (pc' := 5) rfl rfl rfl ?_
                    have e2753 := (F2744.cell (by decide) (F2624.cell (by decide) (F2608.cell (by decide) (F2590.cell (by decide) (F2580.cell (by decide) (F2568.cell (by decide) (F2552.cell (by decide) (F2534.cell (by decide) (F2525.cell (by decide) (F2513.cell (by decide) (F2489.cell (by decide) e3)))))))))))
                    refine pm_R_iald pm_M185 (pc' := 6) (v := (f2 1)) rfl e2753 (Nat.lt_of_lt_of_le (by decide) T2743.1) rfl rfl rfl ?_
                    refine pm_R_lo pm_M185 (pc' := 8) (ls' := [.ref 41, .int 1, .int 42, .int 3, .int 16, .int 0, .int (f2 1), pm_no]) (st' := []) rfl rfl rfl ?_
                    refine pm_R_lo pm_M185 (pc' := 10) rfl rfl rfl ?_
                    refine pm_R_lo pm_M185 (pc' := 12) rfl rfl rfl ?_
                    refine pm_R_icmp pm_M185 (t := 16) (pc' := 15) rfl rfl rfl (fun c2756 => ?_) (fun c2756 => absurd (Classical.not_not.mp c2756) (sf_neq2 B2482 sf_k16 (by decide)))
                    skip
                    refine pm_R_op pm_M185 (pc' := 17) (st' := [.int 0]) rfl rfl rfl ?_
                    refine pm_R_lo pm_M185 (pc' := 19) (ls' := [.ref 41, .int 1, .int 42, .int 3, .int 16, .int 0, .int (f2 1), .int 0]) (st' := []) rfl rfl rfl ?_
                    refine pm_R_lo pm_M185 (pc' := 21) rfl rfl rfl ?_
                    refine pm_R_lo pm_M185 (pc' := 22) rfl rfl rfl ?_
                    refine pm_R_br pm_M185 (pc' := 25) (st' := []) rfl rfl ?_
                    refine pm_R_lo pm_M185 (pc' := 26) rfl rfl rfl ?_
                    refine rf_R_get pm_M185 T2743 (pc' := 29) (v := .ref 51) rfl rfl rfl rfl ?_
                    refine pm_R_lo pm_M185 (pc' := 30) rfl rfl rfl ?_
                    refine pm_R_lo pm_M185 (pc' := 31) rfl rfl rfl ?_
                    refine pm_R_lo pm_M185 (pc' := 33) rfl rfl rfl ?_
                    refine sf_R_imul pm_M185 (pc' := 34) rfl rfl sf_k3 B2482 (by decide) (by decide) (by decide) (fun z2757 e2758 B2759 => ?_)
                    refine sf_R_iadd pm_M185 (pc' := 35) rfl rfl sf_k42 B2759 (by decide) (by decide) (fun z2760 e2761 B2762 => ?_)
                    refine pm_R_lo pm_M185 (pc' := 37) rfl rfl rfl ?_
                    refine sf_R_iadd pm_M185 (pc' := 38) rfl rfl B2762 sf_k0 (by decide) (by decide) (fun z2763 e2764 B2765 => ?_)
                    refine pm_R_lo pm_M185 (pc' := 39) rfl rfl rfl ?_
                    refine rf_R_get pm_M185 T2743 (pc' := 42) (v := .ref 52) rfl rfl rfl rfl ?_
                    refine pm_R_lo pm_M185 (pc' := 44) rfl rfl rfl ?_
                    refine pm_R_lo pm_M185 (pc' := 46) rfl rfl rfl ?_
                    refine pm_R_op pm_M185 (pc' := 47) (st' := [.int 0, .ref 52, .int z2763, .ref 51]) rfl rfl rfl ?_
                    have e2766 := (F2744.cell (by decide) e2625)
                    refine pm_R_iald pm_M185 (pc' := 48) (v := (m2485 14)) rfl e2766 (Nat.lt_of_lt_of_le (by decide) T2743.1) rfl (Eq.trans (show (upd (upd (upd f2508 (Int32.toNatClampNeg 0) (m2485 14)) (Int32.toNatClampNeg 1) (m2548 14)) (Int32.toNatClampNeg 2) (m2604 14)) (Int32.toNatClampNeg 0) = (upd (upd f2508 (Int32.toNatClampNeg 0) (m2485 14)) (Int32.toNatClampNeg 1) (m2548 14)) (Int32.toNatClampNeg 0) from rfl) (Eq.trans (show (upd (upd f2508 (Int32.toNatClampNeg 0) (m2485 14)) (Int32.toNatClampNeg 1) (m2548 14)) (Int32.toNatClampNeg 0) = (upd f2508 (Int32.toNatClampNeg 0) (m2485 14)) (Int32.toNatClampNeg 0) from rfl) rfl)) rfl ?_
                    refine rf_R_ist pm_M185 T2743 (pc' := 49) rfl e2753 (by decide) (by decide) (sf_in B2765 (by decide) (by decide)) ⟨_, rfl⟩ rfl (fun h2769 T2770 F2771 e2772 => ?_)
                    have F2773 := F2748.trans F2771 (by decide)
                    have ct2774 : rf_ct 0 (upd f2 (Int32.toNatClampNeg z2763) (m2485 14)) := ⟨(sf_eqL (Eq.trans (sf_upd_ne (j := Int32.toNatClampNeg 0) B2765 (by decide) (by decide)) rfl) ct4.1), (sf_eqL (Eq.trans (sf_upd_ne (j := Int32.toNatClampNeg 1) B2765 (by decide) (by decide)) rfl) (sf_weak B2482 (by decide) (by decide)))⟩
                    have bd2775 : (m2740 17).toInt = 0 → rf_bd 0 (upd f2 (Int32.toNatClampNeg z2763) (m2485 14)) := fun z => (sf_pos B2749 (by decide) z)
                    refine pm_R_lo pm_M185 (pc' := 52) (ls' := [.ref 41, .int 1, .int 42, .int 3, .int 16, .int 0, .int (f2 1), .int 1]) (st' := []) rfl rfl rfl ?_
                    refine pm_R_br pm_M185 (pc' := 19) rfl rfl ?_
                    refine pm_R_lo pm_M185 (pc' := 21) rfl rfl rfl ?_
                    refine pm_R_lo pm_M185 (pc' := 22) rfl rfl rfl ?_
                    refine pm_R_br pm_M185 (pc' := 25) (st' := []) rfl rfl ?_
                    refine pm_R_lo pm_M185 (pc' := 26) rfl rfl rfl ?_
                    refine rf_R_get pm_M185 T2770 (pc' := 29) (v := .ref 51) rfl rfl rfl rfl ?_
                    refine pm_R_lo pm_M185 (pc' := 30) rfl rfl rfl ?_
                    refine pm_R_lo pm_M185 (pc' := 31) rfl rfl rfl ?_
                    refine pm_R_lo pm_M185 (pc' := 33) rfl rfl rfl ?_
                    refine sf_R_imulV pm_M185 (pc' := 34) rfl rfl sf_k3 B2482 (by decide) (by decide) (by decide) e2758 ?_
                    refine sf_R_iaddV pm_M185 (pc' := 35) rfl rfl sf_k42 B2759 (by decide) (by decide) e2761 ?_
                    refine pm_R_lo pm_M185 (pc' := 37) rfl rfl rfl ?_
                    refine sf_R_iadd pm_M185 (pc' := 38) rfl rfl B2762 sf_k1 (by decide) (by decide) (fun z2776 e2777 B2778 => ?_)
                    refine pm_R_lo pm_M185 (pc' := 39) rfl rfl rfl ?_
                    refine rf_R_get pm_M185 T2770 (pc' := 42) (v := .ref 52) rfl rfl rfl rfl ?_
                    refine pm_R_lo pm_M185 (pc' := 44) rfl rfl rfl ?_
                    refine pm_R_lo pm_M185 (pc' := 46) rfl rfl rfl ?_
                    refine pm_R_op pm_M185 (pc' := 47) (st' := [.int 1, .ref 52, .int z2776, .ref 51]) rfl rfl rfl ?_
                    have e2779 := (F2771.cell (by decide) e2766)
                    refine pm_R_iald pm_M185 (pc' := 48) (v := (m2548 14)) rfl e2779 (Nat.lt_of_lt_of_le (by decide) T2770.1) rfl (Eq.trans (show (upd (upd (upd f2508 (Int32.toNatClampNeg 0) (m2485 14)) (Int32.toNatClampNeg 1) (m2548 14)) (Int32.toNatClampNeg 2) (m2604 14)) (Int32.toNatClampNeg 1) = (upd (upd f2508 (Int32.toNatClampNeg 0) (m2485 14)) (Int32.toNatClampNeg 1) (m2548 14)) (Int32.toNatClampNeg 1) from rfl) rfl) rfl ?_
                    refine rf_R_ist pm_M185 T2770 (pc' := 49) rfl e2772 (by decide) (by decide) (sf_in B2778 (by decide) (by decide)) ⟨_, rfl⟩ rfl (fun h2782 T2783 F2784 e2785 => ?_)
                    have F2786 := F2773.trans F2784 (by decide)
                    have ct2787 : rf_ct 0 (upd (upd f2 (Int32.toNatClampNeg z2763) (m2485 14)) (Int32.toNatClampNeg z2776) (m2548 14)) := ⟨(sf_eqL (Eq.trans (sf_upd_ne (j := Int32.toNatClampNeg 0) B2778 (by decide) (by decide)) (Eq.trans (sf_upd_ne (j := Int32.toNatClampNeg 0) B2765 (by decide) (by decide)) rfl)) ct4.1), (sf_eqL (Eq.trans (sf_upd_ne (j := Int32.toNatClampNeg 1) B2778 (by decide) (by decide)) (Eq.trans (sf_upd_ne (j := Int32.toNatClampNeg 1) B2765 (by decide) (by decide)) rfl)) (sf_weak B2482 (by decide) (by decide)))⟩
                    have bd2788 : (m2740 17).toInt = 0 → rf_bd 0 (upd (upd f2 (Int32.toNatClampNeg z2763) (m2485 14)) (Int32.toNatClampNeg z2776) (m2548 14)) := fun z => (sf_pos B2749 (by decide) z)
                    refine pm_R_lo pm_M185 (pc' := 52) (ls' := [.ref 41, .int 1, .int 42, .int 3, .int 16, .int 0, .int (f2 1), .int 2]) (st' := []) rfl rfl rfl ?_
                    refine pm_R_br pm_M185 (pc' := 19) rfl rfl ?_
                    refine pm_R_lo pm_M185 (pc' := 21) rfl rfl rfl ?_
                    refine pm_R_lo pm_M185 (pc' := 22) rfl rfl rfl ?_
                    refine pm_R_br pm_M185 (pc' := 25) (st' := []) rfl rfl ?_
                    refine pm_R_lo pm_M185 (pc' := 26) rfl rfl rfl ?_
                    refine rf_R_get pm_M185 T2783 (pc' := 29) (v := .ref 51) rfl rfl rfl rfl ?_
                    refine pm_R_lo pm_M185 (pc' := 30) rfl rfl rfl ?_
                    refine pm_R_lo pm_M185 (pc' := 31) rfl rfl rfl ?_
                    refine pm_R_lo pm_M185 (pc' := 33) rfl rfl rfl ?_
                    refine sf_R_imulV pm_M185 (pc' := 34) rfl rfl sf_k3 B2482 (by decide) (by decide) (by decide) e2758 ?_
                    refine sf_R_iaddV pm_M185 (pc' := 35) rfl rfl sf_k42 B2759 (by decide) (by decide) e2761 ?_
                    refine pm_R_lo pm_M185 (pc' := 37) rfl rfl rfl ?_
                    refine sf_R_iadd pm_M185 (pc' := 38) rfl rfl B2762 sf_k2 (by decide) (by decide) (fun z2789 e2790 B2791 => ?_)
                    refine pm_R_lo pm_M185 (pc' := 39) rfl rfl rfl ?_
                    refine rf_R_get pm_M185 T2783 (pc' := 42) (v := .ref 52) rfl rfl rfl rfl ?_
                    refine pm_R_lo pm_M185 (pc' := 44) rfl rfl rfl ?_
                    refine pm_R_lo pm_M185 (pc' := 46) rfl rfl rfl ?_
                    refine pm_R_op pm_M185 (pc' := 47) (st' := [.int 2, .ref 52, .int z2789, .ref 51]) rfl rfl rfl ?_
                    have e2792 := (F2784.cell (by decide) e2779)
                    refine pm_R_iald pm_M185 (pc' := 48) (v := (m2604 14)) rfl e2792 (Nat.lt_of_lt_of_le (by decide) T2783.1) rfl rfl rfl ?_
                    refine rf_R_ist pm_M185 T2783 (pc' := 49) rfl e2785 (by decide) (by decide) (sf_in B2791 (by decide) (by decide)) ⟨_, rfl⟩ rfl (fun h2795 T2796 F2797 e2798 => ?_)
                    have F2799 := F2786.trans F2797 (by decide)
                    have ct2800 : rf_ct 0 (upd (upd (upd f2 (Int32.toNatClampNeg z2763) (m2485 14)) (Int32.toNatClampNeg z2776) (m2548 14)) (Int32.toNatClampNeg z2789) (m2604 14)) := ⟨(sf_eqL (Eq.trans (sf_upd_ne (j := Int32.toNatClampNeg 0) B2791 (by decide) (by decide)) (Eq.trans (sf_upd_ne (j := Int32.toNatClampNeg 0) B2778 (by decide) (by decide)) (Eq.trans (sf_upd_ne (j := Int32.toNatClampNeg 0) B2765 (by decide) (by decide)) rfl))) ct4.1), (sf_eqL (Eq.trans (sf_upd_ne (j := Int32.toNatClampNeg 1) B2791 (by decide) (by decide)) (Eq.trans (sf_upd_ne (j := Int32.toNatClampNeg 1) B2778 (by decide) (by decide)) (Eq.trans (sf_upd_ne (j := Int32.toNatClampNeg 1) B2765 (by decide) (by decide)) rfl))) (sf_weak B2482 (by decide) (by decide)))⟩
                    have bd2801 : (m2740 17).toInt = 0 → rf_bd 0 (upd (upd (upd f2 (Int32.toNatClampNeg z2763) (m2485 14)) (Int32.toNatClampNeg z2776) (m2548 14)) (Int32.toNatClampNeg z2789) (m2604 14)) := fun z => (sf_pos B2749 (by decide) z)
                    refine pm_R_lo pm_M185 (pc' := 52) (ls' := [.ref 41, .int 1, .int 42, .int 3, .int 16, .int 0, .int (f2 1), .int 3]) (st' := []) rfl rfl rfl ?_
                    refine pm_R_br pm_M185 (pc' := 19) rfl rfl ?_
                    refine pm_R_lo pm_M185 (pc' := 21) rfl rfl rfl ?_
                    refine pm_R_lo pm_M185 (pc' := 22) rfl rfl rfl ?_
                    refine pm_R_br pm_M185 (pc' := 55) (st' := []) rfl rfl ?_
                    refine pm_R_lo pm_M185 (pc' := 56) rfl rfl rfl ?_
                    refine rf_R_get pm_M185 T2796 (pc' := 59) (v := .ref 51) rfl rfl rfl rfl ?_
                    refine pm_R_lo pm_M185 (pc' := 60) rfl rfl rfl ?_
                    refine pm_R_op pm_M185 (pc' := 61) (st' := [.int 1, .ref 51, .int 1, .ref 51]) rfl rfl rfl ?_
                    refine pm_R_iald pm_M185 (pc' := 62) (v := (f2 1)) rfl e2798 (Nat.lt_of_lt_of_le (by decide) T2796.1) rfl (Eq.trans (sf_upd_ne (j := Int32.toNatClampNeg 1) B2791 (by decide) (by decide)) (Eq.trans (sf_upd_ne (j := Int32.toNatClampNeg 1) B2778 (by decide) (by decide)) (Eq.trans (sf_upd_ne (j := Int32.toNatClampNeg 1) B2765 (by decide) (by decide)) rfl))) rfl ?_
                    refine pm_R_op pm_M185 (pc' := 63) (st' := [.int 1, .int (f2 1), .int 1, .ref 51]) rfl rfl rfl ?_
                    refine sf_R_iadd pm_M185 (pc' := 64) rfl rfl B2482 sf_k1 (by decide) (by decide) (fun z2804 e2805 B2806 => ?_)
                    refine rf_R_ist pm_M185 T2796 (pc' := 65) rfl e2798 (by decide) (by decide) rfl ⟨_, rfl⟩ rfl (fun h2807 T2808 F2809 e2810 => ?_)
                    have F2811 := F2799.trans F2809 (by decide)
                    have ct2812 : rf_ct 0 (upd (upd (upd (upd f2 (Int32.toNatClampNeg z2763) (m2485 14)) (Int32.toNatClampNeg z2776) (m2548 14)) (Int32.toNatClampNeg z2789) (m2604 14)) (Int32.toNatClampNeg 1) z2804) := ⟨(sf_eqL (Eq.trans (show (upd (upd (upd (upd f2 (Int32.toNatClampNeg z2763) (m2485 14)) (Int32.toNatClampNeg z2776) (m2548 14)) (Int32.toNatClampNeg z2789) (m2604 14)) (Int32.toNatClampNeg 1) z2804) (Int32.toNatClampNeg 0) = (upd (upd (upd f2 (Int32.toNatClampNeg z2763) (m2485 14)) (Int32.toNatClampNeg z2776) (m2548 14)) (Int32.toNatClampNeg z2789) (m2604 14)) (Int32.toNatClampNeg 0) from rfl) (Eq.trans (sf_upd_ne (j := Int32.toNatClampNeg 0) B2791 (by decide) (by decide)) (Eq.trans (sf_upd_ne (j := Int32.toNatClampNeg 0) B2778 (by decide) (by decide)) (Eq.trans (sf_upd_ne (j := Int32.toNatClampNeg 0) B2765 (by decide) (by decide)) rfl)))) ct4.1), (sf_eqL rfl (sf_weak B2806 (by decide) (by decide)))⟩
                    have bd2813 : (m2740 17).toInt = 0 → rf_bd 0 (upd (upd (upd (upd f2 (Int32.toNatClampNeg z2763) (m2485 14)) (Int32.toNatClampNeg z2776) (m2548 14)) (Int32.toNatClampNeg z2789) (m2604 14)) (Int32.toNatClampNeg 1) z2804) := fun z => (sf_pos B2749 (by decide) z)
                    refine pm_R_ret pm_M185 (r := none) rfl rfl ?_
                    show pm_R _ 187 189 [.ref 41, .long a0, pm_no, .int a1] [] _ _
                    refine pm_R_op pm_M187 (pc' := 190) (st' := [.int 1]) (pm_q187_1 (Nat.le_of_ble_eq_true rfl)) rfl rfl ?_
                    have B2814 : sf_B 0 600 (m2740 10) := T2808.2.2.1 10
                    exact pm_R_ret pm_M187 (r := some (.int 1)) (pm_q187_1 (Nat.le_of_ble_eq_true rfl)) rfl (K1 m2740 w2741 h2807 T2808 F2811 W2752 (⟨(upd (upd (upd (upd f2 (Int32.toNatClampNeg z2763) (m2485 14)) (Int32.toNatClampNeg z2776) (m2548 14)) (Int32.toNatClampNeg z2789) (m2604 14)) (Int32.toNatClampNeg 1) z2804), e2810, ct2812, fun z => (sf_pos B2749 (by decide) z)⟩) (sf_aux93 _ _ _ _ _ _ _ X2491 X2554 X2610 X2746))
                · skip
                  refine pm_R_lo pm_M183 (pc' := 9) rfl rfl rfl ?_
                  refine pm_R_cv pm_M183 (pc' := 12) (a := 41) (ra := []) (rest := []) (ls' := [.ref 41]) rfl rfl (Or.inl rfl) pm_M184 T2607.2.1 rfl (by decide) (Nat.lt_of_lt_of_le (by decide) T2607.1) rfl rfl (Nat.le_of_ble_eq_true rfl) rfl rfl ?_
                  refine pm_R_lo pm_M184 (pc' := 1) rfl rfl rfl ?_
                  refine pm_R_lo pm_M184 (pc' := 2) rfl rfl rfl ?_
                  have B2815 : sf_B 0 600 (m2604 12) := T2607.2.2.1 12
                  refine rf_R_get pm_M184 T2607 (pc' := 5) (v := .int (m2604 12)) rfl rfl rfl rfl ?_
                  refine rf_R_put pm_M184 T2607 (pc' := 8) rfl rfl rfl (by decide) rfl rfl B2815 rfl rfl (fun h2816 m2819 em2820 T2817 F2818 => ?_)
                  have F2821 := F2612.trans F2818 (by decide)
                  have B2822 : sf_B 1 4 (m2819 17) := by rw [em2820]; exact B2613
                  have ek2823 : (m2819 17).toInt = ((m2576 17)).toInt := by rw [em2820]; exact ek2614
                  have B2824 : sf_B 0 0 (m2819 22) := by rw [em2820]; exact B2615
                  have B2825 : sf_B 0 600 (m2819 16) := by rw [em2820]; exact B2815
                  have ek2826 : (m2819 16).toInt = ((m2604 12)).toInt := by rw [em2820]; rfl
                  have W2827 : rf_W [10, 12, 13, 14, 16, 17, 18, 22] m m2819 := by rw [em2820]; exact W2616.put (by decide)
                  refine pm_R_op pm_M184 (pc' := 9) (st' := [.int 0]) rfl rfl rfl ?_
                  refine pm_R_ret pm_M184 (r := some (.int 0)) rfl rfl ?_
                  show pm_R _ 183 12 [.ref 41, .int 2, .int 49, .int (-1)] [.int 0] _ _
                  refine pm_R_ret pm_M183 (r := some (.int 0)) rfl rfl ?_
                  show pm_R _ 187 173 [.ref 41, .long a0, pm_no, .int a1] [.int 0] _ _
                  refine pm_R_br pm_M187 (pc' := 176) (st' := []) (pm_q187_1 (Nat.le_of_ble_eq_true rfl)) rfl ?_
                  refine pm_R_op pm_M187 (pc' := 177) (st' := [.int 0]) (pm_q187_1 (Nat.le_of_ble_eq_true rfl)) rfl rfl ?_
                  have B2828 : sf_B 0 600 (m2819 10) := T2817.2.2.1 10
                  exact pm_R_ret pm_M187 (r := some (.int 0)) (pm_q187_1 (Nat.le_of_ble_eq_true rfl)) rfl (K0 m2819 w2605 h2816 T2817 F2821 W2827 (sf_aux79 _ _ _ _ _ _ _ X2491 X2554 X2610))
              · have B2829 : sf_B 0 5 (m2548 14) := sf_leL (Int32.not_lt.mp c2571) B2564 sf_k5
                refine pm_R_lo pm_M183 (pc' := 32) rfl rfl rfl ?_
                refine rf_R_get pm_M183 T2567 (pc' := 35) (v := .int (m2548 14)) rfl rfl rfl rfl ?_
                refine pm_R_lo pm_M183 (pc' := 36) rfl rfl rfl ?_
                refine pm_R_icmp pm_M183 (t := 53) (pc' := 39) rfl rfl rfl (fun c2830 => ?_) (fun c2830 => absurd (Classical.not_not.mp c2830) (sf_neq1 B2829 sf_kn1 (by decide)))
                skip
                refine pm_R_lo pm_M183 (pc' := 54) rfl rfl rfl ?_
                refine pm_R_cv pm_M183 (pc' := 57) (a := 41) (ra := []) (rest := []) (ls' := [.ref 41, pm_no, pm_no]) rfl rfl (Or.inl rfl) pm_M179 T2567.2.1 rfl (by decide) (Nat.lt_of_lt_of_le (by decide) T2567.1) rfl rfl (Nat.le_of_ble_eq_true rfl) rfl rfl ?_
                have B2831 : sf_B 0 600 (m2548 10) := T2567.2.2.1 10
                refine rf_c179 (d := d + 0) T2567  (fun m2834 w2835 h2836 T2837 F2838 W2839 X2840 X2841 => ?_)
                have F2842 := F2570.trans F2838 (by decide)
                have B2843 : sf_B 1 4 (m2834 17) := by rw [W2839 17 (by decide)]; exact B2557
                have ek2844 : (m2834 17).toInt = ((m2521 17)).toInt := by rw [W2839 17 (by decide)]; exact ek2558
                have B2845 : sf_B 0 0 (m2834 22) := by rw [W2839 22 (by decide)]; exact B2559
                have W2846 : rf_W [10, 12, 13, 14, 16, 17, 18, 22] m m2834 := W2560.trans W2839 (by decide)
                show pm_R _ 183 57 [.ref 41, .int 1, .int 5, .int (-1)] [] _ _
                refine pm_R_op pm_M183 (pc' := 58) (st' := [.int 1]) rfl rfl rfl ?_
                refine pm_R_ret pm_M183 (r := some (.int 1)) rfl rfl ?_
                show pm_R _ 187 162 [.ref 41, .long a0, pm_no, .int a1] [.int 1] _ _
                refine pm_R_br pm_M187 (pc' := 165) (st' := []) (pm_q187_1 (Nat.le_of_ble_eq_true rfl)) rfl ?_
                refine pm_R_lo pm_M187 (pc' := 166) (pm_q187_1 (Nat.le_of_ble_eq_true rfl)) rfl rfl ?_
                refine pm_R_op pm_M187 (pc' := 167) (st' := [.int 2, .ref 41]) (pm_q187_1 (Nat.le_of_ble_eq_true rfl)) rfl rfl ?_
                refine pm_R_op pm_M187 (pc' := 169) (st' := [.int 49, .int 2, .ref 41]) (pm_q187_1 (Nat.le_of_ble_eq_true rfl)) rfl rfl ?_
                refine pm_R_op pm_M187 (pc' := 170) (st' := [.int (-1), .int 49, .int 2, .ref 41]) (pm_q187_1 (Nat.le_of_ble_eq_true rfl)) rfl rfl ?_
                refine pm_R_cv pm_M187 (pc' := 173) (a := 41) (ra := [.int (-1), .int 49, .int 2]) (rest := []) (ls' := [.ref 41, .int 2, .int 49, .int (-1)]) (pm_q187_1 (Nat.le_of_ble_eq_true rfl)) rfl (Or.inl rfl) pm_M183 T2837.2.1 rfl (by decide) (Nat.lt_of_lt_of_le (by decide) T2837.1) rfl rfl (Nat.le_of_ble_eq_true rfl) rfl rfl ?_
                refine pm_R_lo pm_M183 (pc' := 1) rfl rfl rfl ?_
                have B2847 : sf_B 0 4 (m2834 13) := T2837.2.2.1 13
                refine rf_R_get pm_M183 T2837 (pc' := 4) (v := .int (m2834 13)) rfl rfl rfl rfl ?_
                refine pm_R_op pm_M183 (pc' := 5) (st' := [.int 3, .int (m2834 13)]) rfl rfl rfl ?_
                refine pm_R_icmp pm_M183 (t := 13) (pc' := 8) rfl rfl rfl (fun c2848 => ?_) (fun c2848 => ?_)
                · have B2849 : sf_B 3 3 (m2834 13) := sf_eqL c2848 sf_k3
                  refine pm_R_lo pm_M183 (pc' := 14) rfl rfl rfl ?_
                  refine rf_R_get pm_M183 T2837 (pc' := 17) (v := .ref 52) rfl rfl rfl rfl ?_
                  refine pm_R_lo pm_M183 (pc' := 18) rfl rfl rfl ?_
                  refine pm_R_lo pm_M183 (pc' := 19) rfl rfl rfl ?_
                  have B2850 : sf_B 0 99 (m2834 14) := T2837.2.2.1 14
                  refine rf_R_get pm_M183 T2837 (pc' := 22) (v := .int (m2834 14)) rfl rfl rfl rfl ?_
                  have e2851 := (F2838.cell (by decide) e2569)
                  refine rf_R_ist pm_M183 T2837 (pc' := 23) rfl e2851 (by decide) (by decide) rfl ⟨_, rfl, sf_upd (sf_upd (sf_upd b2510 (sf_weak B2507 (by decide) (by decide)) _) (sf_weak B2564 (by decide) (by decide)) _) (sf_weak B2850 (by decide) (by decide)) _⟩ rfl (fun h2852 T2853 F2854 e2855 => ?_)
                  have F2856 := F2842.trans F2854 (by decide)
                  refine pm_R_lo pm_M183 (pc' := 24) rfl rfl rfl ?_
                  refine rf_R_get pm_M183 T2853 (pc' := 27) (v := .int (m2834 14)) rfl rfl rfl rfl ?_
                  refine pm_R_lo pm_M183 (pc' := 28) rfl rfl rfl ?_
                  refine pm_R_icmp pm_M183 (t := 39) (pc' := 31) rfl rfl rfl (fun c2857 => ?_) (fun c2857 => ?_)
                  · have B2858 : sf_B 50 99 (m2834 14) := sf_ltR c2857 sf_k49 B2850
                    refine pm_R_lo pm_M183 (pc' := 40) rfl rfl rfl ?_
                    refine pm_R_op pm_M183 (pc' := 41) (st' := [.int 2, .ref 41]) rfl rfl rfl ?_
                    refine pm_R_lo pm_M183 (pc' := 42) rfl rfl rfl ?_
                    have B2859 : sf_B 0 600 (m2834 12) := T2853.2.2.1 12
                    refine rf_R_get pm_M183 T2853 (pc' := 45) (v := .int (m2834 12)) rfl rfl rfl rfl ?_
                    refine pm_R_cv pm_M183 (pc' := 48) (a := 41) (ra := [.int (m2834 12), .int 2]) (rest := []) (ls' := [.ref 41, .int 2, .int (m2834 12)]) rfl rfl (Or.inl rfl) pm_M182 T2853.2.1 rfl (by decide) (Nat.lt_of_lt_of_le (by decide) T2853.1) rfl rfl (Nat.le_of_ble_eq_true rfl) rfl rfl ?_
                    refine rf_c182 (d := d + 1) T2853 (sf_weak sf_k2 (by decide) (by decide)) B2859 (fun m2862 w2863 h2864 T2865 F2866 W2867 B2868 => ?_)
                    have F2869 := F2856.trans F2866 (by decide)
                    have B2870 : sf_B 0 0 (m2862 22) := by rw [W2867 22 (by decide)]; exact B2845
                    have B2871 : sf_B 3 3 (m2862 13) := by rw [W2867 13 (by decide)]; exact B2849
                    have B2872 : sf_B 50 99 (m2862 14) := by rw [W2867 14 (by decide)]; exact B2858
                    have W2873 : rf_W [10, 12, 13, 14, 16, 17, 18, 22] m m2862 := W2846.trans W2867 (by decide)
                    show pm_R _ 183 48 [.ref 41, .int 2, .int 49, .int (-1)] [] _ _
                    refine pm_R_lo pm_M183 (pc' := 49) rfl rfl rfl ?_
                    refine pm_R_op pm_M183 (pc' := 50) (st' := [.int 0, .ref 41]) rfl rfl rfl ?_
                    refine rf_R_put pm_M183 T2865 (pc' := 53) rfl rfl rfl (by decide) rfl rfl (sf_weak sf_k0 (by decide) (by decide)) rfl rfl (fun h2874 m2877 em2878 T2875 F2876 => ?_)
                    have F2879 := F2869.trans F2876 (by decide)
                    have B2880 : sf_B 3 3 (m2877 13) := by rw [em2878]; exact B2871
                    have B2881 : sf_B 50 99 (m2877 14) := by rw [em2878]; exact B2872
                    have B2882 : sf_B 1 4 (m2877 17) := by rw [em2878]; exact B2868
                    have ek2883 : (m2877 17).toInt = ((m2862 17)).toInt := by rw [em2878]; rfl
                    have B2884 : sf_B 0 0 (m2877 22) := by rw [em2878]; exact sf_k0
                    have W2886 : rf_W [10, 12, 13, 14, 16, 17, 18, 22] m m2877 := by rw [em2878]; exact W2873.put (by decide)
                    refine pm_R_lo pm_M183 (pc' := 54) rfl rfl rfl ?_
                    refine pm_R_cv pm_M183 (pc' := 57) (a := 41) (ra := []) (rest := []) (ls' := [.ref 41, pm_no, pm_no]) rfl rfl (Or.inl rfl) pm_M179 T2875.2.1 rfl (by decide) (Nat.lt_of_lt_of_le (by decide) T2875.1) rfl rfl (Nat.le_of_ble_eq_true rfl) rfl rfl ?_
                    have B2887 : sf_B 0 600 (m2877 10) := T2875.2.2.1 10
                    refine rf_c179 (d := d + 0) T2875  (fun m2890 w2891 h2892 T2893 F2894 W2895 X2896 X2897 => ?_)
                    have F2898 := F2879.trans F2894 (by decide)
                    have B2899 : sf_B 1 4 (m2890 17) := by rw [W2895 17 (by decide)]; exact B2882
                    have ek2900 : (m2890 17).toInt = ((m2862 17)).toInt := by rw [W2895 17 (by decide)]; exact ek2883
                    have B2901 : sf_B 0 0 (m2890 22) := by rw [W2895 22 (by decide)]; exact B2884
                    have W2902 : rf_W [10, 12, 13, 14, 16, 17, 18, 22] m m2890 := W2886.trans W2895 (by decide)
                    show pm_R _ 183 57 [.ref 41, .int 2, .int 49, .int (-1)] [] _ _
                    refine pm_R_op pm_M183 (pc' := 58) (st' := [.int 1]) rfl rfl rfl ?_
                    refine pm_R_ret pm_M183 (r := some (.int 1)) rfl rfl ?_
                    show pm_R _ 187 173 [.ref 41, .long a0, pm_no, .int a1] [.int 1] _ _
                    refine pm_R_br pm_M187 (pc' := 178) (st' := []) (pm_q187_1 (Nat.le_of_ble_eq_true rfl)) rfl ?_
                    refine pm_R_lo pm_M187 (pc' := 179) (pm_q187_1 (Nat.le_of_ble_eq_true rfl)) rfl rfl ?_
                    refine pm_R_op pm_M187 (pc' := 180) (st' := [.int 1, .ref 41]) (pm_q187_1 (Nat.le_of_ble_eq_true rfl)) rfl rfl ?_
                    refine pm_R_op pm_M187 (pc' := 182) (st' := [.int 42, .int 1, .ref 41]) (pm_q187_1 (Nat.le_of_ble_eq_true rfl)) rfl rfl ?_
                    refine pm_R_op pm_M187 (pc' := 183) (st' := [.int 3, .int 42, .int 1, .ref 41]) (pm_q187_1 (Nat.le_of_ble_eq_true rfl)) rfl rfl ?_
                    refine pm_R_op pm_M187 (pc' := 185) (st' := [.int 16, .int 3, .int 42, .int 1, .ref 41]) (pm_q187_1 (Nat.le_of_ble_eq_true rfl)) rfl rfl ?_
                    refine pm_R_op pm_M187 (pc' := 186) (st' := [.int 0, .int 16, .int 3, .int 42, .int 1, .ref 41]) (pm_q187_1 (Nat.le_of_ble_eq_true rfl)) rfl rfl ?_
                    refine pm_R_cv pm_M187 (pc' := 189) (a := 41) (ra := [.int 0, .int 16, .int 3, .int 42, .int 1]) (rest := []) (ls' := [.ref 41, .int 1, .int 42, .int 3, .int 16, .int 0, pm_no, pm_no]) (pm_q187_1 (Nat.le_of_ble_eq_true rfl)) rfl (Or.inl rfl) pm_M185 T2893.2.1 rfl (by decide) (Nat.lt_of_lt_of_le (by decide) T2893.1) rfl rfl (Nat.le_of_ble_eq_true rfl) rfl rfl ?_
                    refine pm_R_lo pm_M185 (pc' := 1) rfl rfl rfl ?_
                    refine rf_R_get pm_M185 T2893 (pc' := 4) (v := .ref 51) rfl rfl rfl rfl ?_
                    refine pm_R_lo pm_M185 (pc' := 5) rfl rfl rfl ?_
                    have e2903 := (F2894.cell (by decide) (F2876.cell (by decide) (F2866.cell (by decide) (F2854.cell (by decide) (F2838.cell (by decide) (F2568.cell (by decide) (F2552.cell (by decide) (F2534.cell (by decide) (F2525.cell (by decide) (F2513.cell (by decide) (F2489.cell (by decide) e3)))))))))))
                    refine pm_R_iald pm_M185 (pc' := 6) (v := (f2 1)) rfl e2903 (Nat.lt_of_lt_of_le (by decide) T2893.1) rfl rfl rfl ?_
                    refine pm_R_lo pm_M185 (pc' := 8) (ls' := [.ref 41, .int 1, .int 42, .int 3, .int 16, .int 0, .int (f2 1), pm_no]) (st' := []) rfl rfl rfl ?_
                    refine pm_R_lo pm_M185 (pc' := 10) rfl rfl rfl ?_
                    refine pm_R_lo pm_M185 (pc' := 12) rfl rfl rfl ?_
                    refine pm_R_icmp pm_M185 (t := 16) (pc' := 15) rfl rfl rfl (fun c2906 => ?_) (fun c2906 => absurd (Classical.not_not.mp c2906) (sf_neq2 B2482 sf_k16 (by decide)))
                    skip
                    refine pm_R_op pm_M185 (pc' := 17) (st' := [.int 0]) rfl rfl rfl ?_
                    refine pm_R_lo pm_M185 (pc' := 19) (ls' := [.ref 41, .int 1, .int 42, .int 3, .int 16, .int 0, .int (f2 1), .int 0]) (st' := []) rfl rfl rfl ?_
                    refine pm_R_lo pm_M185 (pc' := 21) rfl rfl rfl ?_
                    refine pm_R_lo pm_M185 (pc' := 22) rfl rfl rfl ?_
                    refine pm_R_br pm_M185 (pc' := 25) (st' := []) rfl rfl ?_
                    refine pm_R_lo pm_M185 (pc' := 26) rfl rfl rfl ?_
                    refine rf_R_get pm_M185 T2893 (pc' := 29) (v := .ref 51) rfl rfl rfl rfl ?_
                    refine pm_R_lo pm_M185 (pc' := 30) rfl rfl rfl ?_
                    refine pm_R_lo pm_M185 (pc' := 31) rfl rfl rfl ?_
                    refine pm_R_lo pm_M185 (pc' := 33) rfl rfl rfl ?_
                    refine sf_R_imul pm_M185 (pc' := 34) rfl rfl sf_k3 B2482 (by decide) (by decide) (by decide) (fun z2907 e2908 B2909 => ?_)
                    refine sf_R_iadd pm_M185 (pc' := 35) rfl rfl sf_k42 B2909 (by decide) (by decide) (fun z2910 e2911 B2912 => ?_)
                    refine pm_R_lo pm_M185 (pc' := 37) rfl rfl rfl ?_
                    refine sf_R_iadd pm_M185 (pc' := 38) rfl rfl B2912 sf_k0 (by decide) (by decide) (fun z2913 e2914 B2915 => ?_)
                    refine pm_R_lo pm_M185 (pc' := 39) rfl rfl rfl ?_
                    refine rf_R_get pm_M185 T2893 (pc' := 42) (v := .ref 52) rfl rfl rfl rfl ?_
                    refine pm_R_lo pm_M185 (pc' := 44) rfl rfl rfl ?_
                    refine pm_R_lo pm_M185 (pc' := 46) rfl rfl rfl ?_
                    refine pm_R_op pm_M185 (pc' := 47) (st' := [.int 0, .ref 52, .int z2913, .ref 51]) rfl rfl rfl ?_
                    have e2916 := (F2894.cell (by decide) (F2876.cell (by decide) (F2866.cell (by decide) e2855)))
                    refine pm_R_iald pm_M185 (pc' := 48) (v := (m2485 14)) rfl e2916 (Nat.lt_of_lt_of_le (by decide) T2893.1) rfl (Eq.trans (show (upd (upd (upd f2508 (Int32.toNatClampNeg 0) (m2485 14)) (Int32.toNatClampNeg 1) (m2548 14)) (Int32.toNatClampNeg 2) (m2834 14)) (Int32.toNatClampNeg 0) = (upd (upd f2508 (Int32.toNatClampNeg 0) (m2485 14)) (Int32.toNatClampNeg 1) (m2548 14)) (Int32.toNatClampNeg 0) from rfl) (Eq.trans (show (upd (upd f2508 (Int32.toNatClampNeg 0) (m2485 14)) (Int32.toNatClampNeg 1) (m2548 14)) (Int32.toNatClampNeg 0) = (upd f2508 (Int32.toNatClampNeg 0) (m2485 14)) (Int32.toNatClampNeg 0) from rfl) rfl)) rfl ?_
                    refine rf_R_ist pm_M185 T2893 (pc' := 49) rfl e2903 (by decide) (by decide) (sf_in B2915 (by decide) (by decide)) ⟨_, rfl⟩ rfl (fun h2919 T2920 F2921 e2922 => ?_)
                    have F2923 := F2898.trans F2921 (by decide)
                    have ct2924 : rf_ct 0 (upd f2 (Int32.toNatClampNeg z2913) (m2485 14)) := ⟨(sf_eqL (Eq.trans (sf_upd_ne (j := Int32.toNatClampNeg 0) B2915 (by decide) (by decide)) rfl) ct4.1), (sf_eqL (Eq.trans (sf_upd_ne (j := Int32.toNatClampNeg 1) B2915 (by decide) (by decide)) rfl) (sf_weak B2482 (by decide) (by decide)))⟩
                    have bd2925 : (m2890 17).toInt = 0 → rf_bd 0 (upd f2 (Int32.toNatClampNeg z2913) (m2485 14)) := fun z => (sf_pos B2899 (by decide) z)
                    refine pm_R_lo pm_M185 (pc' := 52) (ls' := [.ref 41, .int 1, .int 42, .int 3, .int 16, .int 0, .int (f2 1), .int 1]) (st' := []) rfl rfl rfl ?_
                    refine pm_R_br pm_M185 (pc' := 19) rfl rfl ?_
                    refine pm_R_lo pm_M185 (pc' := 21) rfl rfl rfl ?_
                    refine pm_R_lo pm_M185 (pc' := 22) rfl rfl rfl ?_
                    refine pm_R_br pm_M185 (pc' := 25) (st' := []) rfl rfl ?_
                    refine pm_R_lo pm_M185 (pc' := 26) rfl rfl rfl ?_
                    refine rf_R_get pm_M185 T2920 (pc' := 29) (v := .ref 51) rfl rfl rfl rfl ?_
                    refine pm_R_lo pm_M185 (pc' := 30) rfl rfl rfl ?_
                    refine pm_R_lo pm_M185 (pc' := 31) rfl rfl rfl ?_
                    refine pm_R_lo pm_M185 (pc' := 33) rfl rfl rfl ?_
                    refine sf_R_imulV pm_M185 (pc' := 34) rfl rfl sf_k3 B2482 (by decide) (by decide) (by decide) e2908 ?_
                    refine sf_R_iaddV pm_M185 (pc' := 35) rfl rfl sf_k42 B2909 (by decide) (by decide) e2911 ?_
                    refine pm_R_lo pm_M185 (pc' := 37) rfl rfl rfl ?_
                    refine sf_R_iadd pm_M185 (pc' := 38) rfl rfl B2912 sf_k1 (by decide) (by decide) (fun z2926 e2927 B2928 => ?_)
                    refine pm_R_lo pm_M185 (pc' := 39) rfl rfl rfl ?_
                    refine rf_R_get pm_M185 T2920 (pc' := 42) (v := .ref 52) rfl rfl rfl rfl ?_
                    refine pm_R_lo pm_M185 (pc' := 44) rfl rfl rfl ?_
                    refine pm_R_lo pm_M185 (pc' := 46) rfl rfl rfl ?_
                    refine pm_R_op pm_M185 (pc' := 47) (st' := [.int 1, .ref 52, .int z2926, .ref 51]) rfl rfl rfl ?_
                    have e2929 := (F2921.cell (by decide) e2916)
                    refine pm_R_iald pm_M185 (pc' := 48) (v := (m2548 14)) rfl e2929 (Nat.lt_of_lt_of_le (by decide) T2920.1) rfl (Eq.trans (show (upd (upd (upd f2508 (Int32.toNatClampNeg 0) (m2485 14)) (Int32.toNatClampNeg 1) (m2548 14)) (Int32.toNatClampNeg 2) (m2834 14)) (Int32.toNatClampNeg 1) = (upd (upd f2508 (Int32.toNatClampNeg 0) (m2485 14)) (Int32.toNatClampNeg 1) (m2548 14)) (Int32.toNatClampNeg 1) from rfl) rfl) rfl ?_
                    refine rf_R_ist pm_M185 T2920 (pc' := 49) rfl e2922 (by decide) (by decide) (sf_in B2928 (by decide) (by decide)) ⟨_, rfl⟩ rfl (fun h2932 T2933 F2934 e2935 => ?_)
                    have F2936 := F2923.trans F2934 (by decide)
                    have ct2937 : rf_ct 0 (upd (upd f2 (Int32.toNatClampNeg z2913) (m2485 14)) (Int32.toNatClampNeg z2926) (m2548 14)) := ⟨(sf_eqL (Eq.trans (sf_upd_ne (j := Int32.toNatClampNeg 0) B2928 (by decide) (by decide)) (Eq.trans (sf_upd_ne (j := Int32.toNatClampNeg 0) B2915 (by decide) (by decide)) rfl)) ct4.1), (sf_eqL (Eq.trans (sf_upd_ne (j := Int32.toNatClampNeg 1) B2928 (by decide) (by decide)) (Eq.trans (sf_upd_ne (j := Int32.toNatClampNeg 1) B2915 (by decide) (by decide)) rfl)) (sf_weak B2482 (by decide) (by decide)))⟩
                    have bd2938 : (m2890 17).toInt = 0 → rf_bd 0 (upd (upd f2 (Int32.toNatClampNeg z2913) (m2485 14)) (Int32.toNatClampNeg z2926) (m2548 14)) := fun z => (sf_pos B2899 (by decide) z)
                    refine pm_R_lo pm_M185 (pc' := 52) (ls' := [.ref 41, .int 1, .int 42, .int 3, .int 16, .int 0, .int (f2 1), .int 2]) (st' := []) rfl rfl rfl ?_
                    refine pm_R_br pm_M185 (pc' := 19) rfl rfl ?_
                    refine pm_R_lo pm_M185 (pc' := 21) rfl rfl rfl ?_
                    refine pm_R_lo pm_M185 (pc' := 22) rfl rfl rfl ?_
                    refine pm_R_br pm_M185 (pc' := 25) (st' := []) rfl rfl ?_
                    refine pm_R_lo pm_M185 (pc' := 26) rfl rfl rfl ?_
                    refine rf_R_get pm_M185 T2933 (pc' := 29) (v := .ref 51) rfl rfl rfl rfl ?_
                    refine pm_R_lo pm_M185 (pc' := 30) rfl rfl rfl ?_
                    refine pm_R_lo pm_M185 (pc' := 31) rfl rfl rfl ?_
                    refine pm_R_lo pm_M185 (pc' := 33) rfl rfl rfl ?_
                    refine sf_R_imulV pm_M185 (pc' := 34) rfl rfl sf_k3 B2482 (by decide) (by decide) (by decide) e2908 ?_
                    refine sf_R_iaddV pm_M185 (pc' := 35) rfl rfl sf_k42 B2909 (by decide) (by decide) e2911 ?_
                    refine pm_R_lo pm_M185 (pc' := 37) rfl rfl rfl ?_
                    refine sf_R_iadd pm_M185 (pc' := 38) rfl rfl B2912 sf_k2 (by decide) (by decide) (fun z2939 e2940 B2941 => ?_)
                    refine pm_R_lo pm_M185 (pc' := 39) rfl rfl rfl ?_
                    refine rf_R_get pm_M185 T2933 (pc' := 42) (v := .ref 52) rfl rfl rfl rfl ?_
                    refine pm_R_lo pm_M185 (pc' := 44) rfl rfl rfl ?_
                    refine pm_R_lo pm_M185 (pc' := 46) rfl rfl rfl ?_
                    refine pm_R_op pm_M185 (pc' := 47) (st' := [.int 2, .ref 52, .int z2939, .ref 51]) rfl rfl rfl ?_
                    have e2942 := (F2934.cell (by decide) e2929)
                    refine pm_R_iald pm_M185 (pc' := 48) (v := (m2834 14)) rfl e2942 (Nat.lt_of_lt_of_le (by decide) T2933.1) rfl rfl rfl ?_
                    refine rf_R_ist pm_M185 T2933 (pc' := 49) rfl e2935 (by decide) (by decide) (sf_in B2941 (by decide) (by decide)) ⟨_, rfl⟩ rfl (fun h2945 T2946 F2947 e2948 => ?_)
                    have F2949 := F2936.trans F2947 (by decide)
                    have ct2950 : rf_ct 0 (upd (upd (upd f2 (Int32.toNatClampNeg z2913) (m2485 14)) (Int32.toNatClampNeg z2926) (m2548 14)) (Int32.toNatClampNeg z2939) (m2834 14)) := ⟨(sf_eqL (Eq.trans (sf_upd_ne (j := Int32.toNatClampNeg 0) B2941 (by decide) (by decide)) (Eq.trans (sf_upd_ne (j := Int32.toNatClampNeg 0) B2928 (by decide) (by decide)) (Eq.trans (sf_upd_ne (j := Int32.toNatClampNeg 0) B2915 (by decide) (by decide)) rfl))) ct4.1), (sf_eqL (Eq.trans (sf_upd_ne (j := Int32.toNatClampNeg 1) B2941 (by decide) (by decide)) (Eq.trans (sf_upd_ne (j := Int32.toNatClampNeg 1) B2928 (by decide) (by decide)) (Eq.trans (sf_upd_ne (j := Int32.toNatClampNeg 1) B2915 (by decide) (by decide)) rfl))) (sf_weak B2482 (by decide) (by decide)))⟩
                    have bd2951 : (m2890 17).toInt = 0 → rf_bd 0 (upd (upd (upd f2 (Int32.toNatClampNeg z2913) (m2485 14)) (Int32.toNatClampNeg z2926) (m2548 14)) (Int32.toNatClampNeg z2939) (m2834 14)) := fun z => (sf_pos B2899 (by decide) z)
                    refine pm_R_lo pm_M185 (pc' := 52) (ls' := [.ref 41, .int 1, .int 42, .int 3, .int 16, .int 0, .int (f2 1), .int 3]) (st' := []) rfl rfl rfl ?_
                    refine pm_R_br pm_M185 (pc' := 19) rfl rfl ?_
                    refine pm_R_lo pm_M185 (pc' := 21) rfl rfl rfl ?_
                    refine pm_R_lo pm_M185 (pc' := 22) rfl rfl rfl ?_
                    refine pm_R_br pm_M185 (pc' := 55) (st' := []) rfl rfl ?_
                    refine pm_R_lo pm_M185 (pc' := 56) rfl rfl rfl ?_
                    refine rf_R_get pm_M185 T2946 (pc' := 59) (v := .ref 51) rfl rfl rfl rfl ?_
                    refine pm_R_lo pm_M185 (pc' := 60) rfl rfl rfl ?_
                    refine pm_R_op pm_M185 (pc' := 61) (st' := [.int 1, .ref 51, .int 1, .ref 51]) rfl rfl rfl ?_
                    refine pm_R_iald pm_M185 (pc' := 62) (v := (f2 1)) rfl e2948 (Nat.lt_of_lt_of_le (by decide) T2946.1) rfl (Eq.trans (sf_upd_ne (j := Int32.toNatClampNeg 1) B2941 (by decide) (by decide)) (Eq.trans (sf_upd_ne (j := Int32.toNatClampNeg 1) B2928 (by decide) (by decide)) (Eq.trans (sf_upd_ne (j := Int32.toNatClampNeg 1) B2915 (by decide) (by decide)) rfl))) rfl ?_
                    refine pm_R_op pm_M185 (pc' := 63) (st' := [.int 1, .int (f2 1), .int 1, .ref 51]) rfl rfl rfl ?_
                    refine sf_R_iadd pm_M185 (pc' := 64) rfl rfl B2482 sf_k1 (by decide) (by decide) (fun z2954 e2955 B2956 => ?_)
                    refine rf_R_ist pm_M185 T2946 (pc' := 65) rfl e2948 (by decide) (by decide) rfl ⟨_, rfl⟩ rfl (fun h2957 T2958 F2959 e2960 => ?_)
                    have F2961 := F2949.trans F2959 (by decide)
                    have ct2962 : rf_ct 0 (upd (upd (upd (upd f2 (Int32.toNatClampNeg z2913) (m2485 14)) (Int32.toNatClampNeg z2926) (m2548 14)) (Int32.toNatClampNeg z2939) (m2834 14)) (Int32.toNatClampNeg 1) z2954) := ⟨(sf_eqL (Eq.trans (show (upd (upd (upd (upd f2 (Int32.toNatClampNeg z2913) (m2485 14)) (Int32.toNatClampNeg z2926) (m2548 14)) (Int32.toNatClampNeg z2939) (m2834 14)) (Int32.toNatClampNeg 1) z2954) (Int32.toNatClampNeg 0) = (upd (upd (upd f2 (Int32.toNatClampNeg z2913) (m2485 14)) (Int32.toNatClampNeg z2926) (m2548 14)) (Int32.toNatClampNeg z2939) (m2834 14)) (Int32.toNatClampNeg 0) from rfl) (Eq.trans (sf_upd_ne (j := Int32.toNatClampNeg 0) B2941 (by decide) (by decide)) (Eq.trans (sf_upd_ne (j := Int32.toNatClampNeg 0) B2928 (by decide) (by decide)) (Eq.trans (sf_upd_ne (j := Int32.toNatClampNeg 0) B2915 (by decide) (by decide)) rfl)))) ct4.1), (sf_eqL rfl (sf_weak B2956 (by decide) (by decide)))⟩
                    have bd2963 : (m2890 17).toInt = 0 → rf_bd 0 (upd (upd (upd (upd f2 (Int32.toNatClampNeg z2913) (m2485 14)) (Int32.toNatClampNeg z2926) (m2548 14)) (Int32.toNatClampNeg z2939) (m2834 14)) (Int32.toNatClampNeg 1) z2954) := fun z => (sf_pos B2899 (by decide) z)
                    refine pm_R_ret pm_M185 (r := none) rfl rfl ?_
                    show pm_R _ 187 189 [.ref 41, .long a0, pm_no, .int a1] [] _ _
                    refine pm_R_op pm_M187 (pc' := 190) (st' := [.int 1]) (pm_q187_1 (Nat.le_of_ble_eq_true rfl)) rfl rfl ?_
                    have B2964 : sf_B 0 600 (m2890 10) := T2958.2.2.1 10
                    exact pm_R_ret pm_M187 (r := some (.int 1)) (pm_q187_1 (Nat.le_of_ble_eq_true rfl)) rfl (K1 m2890 w2891 h2957 T2958 F2961 W2902 (⟨(upd (upd (upd (upd f2 (Int32.toNatClampNeg z2913) (m2485 14)) (Int32.toNatClampNeg z2926) (m2548 14)) (Int32.toNatClampNeg z2939) (m2834 14)) (Int32.toNatClampNeg 1) z2954), e2960, ct2962, fun z => (sf_pos B2899 (by decide) z)⟩) (sf_aux94 _ _ _ _ _ _ _ X2491 X2554 X2840 X2896))
                  · have B2965 : sf_B 0 49 (m2834 14) := sf_leL (Int32.not_lt.mp c2857) B2850 sf_k49
                    refine pm_R_lo pm_M183 (pc' := 32) rfl rfl rfl ?_
                    refine rf_R_get pm_M183 T2853 (pc' := 35) (v := .int (m2834 14)) rfl rfl rfl rfl ?_
                    refine pm_R_lo pm_M183 (pc' := 36) rfl rfl rfl ?_
                    refine pm_R_icmp pm_M183 (t := 53) (pc' := 39) rfl rfl rfl (fun c2966 => ?_) (fun c2966 => absurd (Classical.not_not.mp c2966) (sf_neq1 B2965 sf_kn1 (by decide)))
                    skip
                    refine pm_R_lo pm_M183 (pc' := 54) rfl rfl rfl ?_
                    refine pm_R_cv pm_M183 (pc' := 57) (a := 41) (ra := []) (rest := []) (ls' := [.ref 41, pm_no, pm_no]) rfl rfl (Or.inl rfl) pm_M179 T2853.2.1 rfl (by decide) (Nat.lt_of_lt_of_le (by decide) T2853.1) rfl rfl (Nat.le_of_ble_eq_true rfl) rfl rfl ?_
                    have B2967 : sf_B 0 600 (m2834 10) := T2853.2.2.1 10
                    refine rf_c179 (d := d + 0) T2853  (fun m2970 w2971 h2972 T2973 F2974 W2975 X2976 X2977 => ?_)
                    have F2978 := F2856.trans F2974 (by decide)
                    have B2979 : sf_B 1 4 (m2970 17) := by rw [W2975 17 (by decide)]; exact B2843
                    have ek2980 : (m2970 17).toInt = ((m2521 17)).toInt := by rw [W2975 17 (by decide)]; exact ek2844
                    have B2981 : sf_B 0 0 (m2970 22) := by rw [W2975 22 (by decide)]; exact B2845
                    have W2982 : rf_W [10, 12, 13, 14, 16, 17, 18, 22] m m2970 := W2846.trans W2975 (by decide)
                    show pm_R _ 183 57 [.ref 41, .int 2, .int 49, .int (-1)] [] _ _
                    refine pm_R_op pm_M183 (pc' := 58) (st' := [.int 1]) rfl rfl rfl ?_
                    refine pm_R_ret pm_M183 (r := some (.int 1)) rfl rfl ?_
                    show pm_R _ 187 173 [.ref 41, .long a0, pm_no, .int a1] [.int 1] _ _
                    refine pm_R_br pm_M187 (pc' := 178) (st' := []) (pm_q187_1 (Nat.le_of_ble_eq_true rfl)) rfl ?_
                    refine pm_R_lo pm_M187 (pc' := 179) (pm_q187_1 (Nat.le_of_ble_eq_true rfl)) rfl rfl ?_
                    refine pm_R_op pm_M187 (pc' := 180) (st' := [.int 1, .ref 41]) (pm_q187_1 (Nat.le_of_ble_eq_true rfl)) rfl rfl ?_
                    refine pm_R_op pm_M187 (pc' := 182) (st' := [.int 42, .int 1, .ref 41]) (pm_q187_1 (Nat.le_of_ble_eq_true rfl)) rfl rfl ?_
                    refine pm_R_op pm_M187 (pc' := 183) (st' := [.int 3, .int 42, .int 1, .ref 41]) (pm_q187_1 (Nat.le_of_ble_eq_true rfl)) rfl rfl ?_
                    refine pm_R_op pm_M187 (pc' := 185) (st' := [.int 16, .int 3, .int 42, .int 1, .ref 41]) (pm_q187_1 (Nat.le_of_ble_eq_true rfl)) rfl rfl ?_
                    refine pm_R_op pm_M187 (pc' := 186) (st' := [.int 0, .int 16, .int 3, .int 42, .int 1, .ref 41]) (pm_q187_1 (Nat.le_of_ble_eq_true rfl)) rfl rfl ?_
                    refine pm_R_cv pm_M187 (pc' := 189) (a := 41) (ra := [.int 0, .int 16, .int 3, .int 42, .int 1]) (rest := []) (ls' := [.ref 41, .int 1, .int 42, .int 3, .int 16, .int 0, pm_no, pm_no]) (pm_q187_1 (Nat.le_of_ble_eq_true rfl)) rfl (Or.inl rfl) pm_M185 T2973.2.1 rfl (by decide) (Nat.lt_of_lt_of_le (by decide) T2973.1) rfl rfl (Nat.le_of_ble_eq_true rfl) rfl rfl ?_
                    refine pm_R_lo pm_M185 (pc' := 1) rfl rfl rfl ?_
                    refine rf_R_get pm_M185 T2973 (pc' := 4) (v := .ref 51) rfl rfl rfl rfl ?_
                    refine pm_R_lo pm_M185 (pc' := 5) rfl rfl rfl ?_
                    have e2983 := (F2974.cell (by decide) (F2854.cell (by decide) (F2838.cell (by decide) (F2568.cell (by decide) (F2552.cell (by decide) (F2534.cell (by decide) (F2525.cell (by decide) (F2513.cell (by decide) (F2489.cell (by decide) e3)))))))))
                    refine pm_R_iald pm_M185 (pc' := 6) (v := (f2 1)) rfl e2983 (Nat.lt_of_lt_of_le (by decide) T2973.1) rfl rfl rfl ?_
                    refine pm_R_lo pm_M185 (pc' := 8) (ls' := [.ref 41, .int 1, .int 42, .int 3, .int 16, .int 0, .int (f2 1), pm_no]) (st' := []) rfl rfl rfl ?_
                    refine pm_R_lo pm_M185 (pc' := 10) rfl rfl rfl ?_
                    refine pm_R_lo pm_M185 (pc' := 12) rfl rfl rfl ?_
                    refine pm_R_icmp pm_M185 (t := 16) (pc' := 15) rfl rfl rfl (fun c2986 => ?_) (fun c2986 => absurd (Classical.not_not.mp c2986) (sf_neq2 B2482 sf_k16 (by decide)))
                    skip
                    refine pm_R_op pm_M185 (pc' := 17) (st' := [.int 0]) rfl rfl rfl ?_
                    refine pm_R_lo pm_M185 (pc' := 19) (ls' := [.ref 41, .int 1, .int 42, .int 3, .int 16, .int 0, .int (f2 1), .int 0]) (st' := []) rfl rfl rfl ?_
                    refine pm_R_lo pm_M185 (pc' := 21) rfl rfl rfl ?_
                    refine pm_R_lo pm_M185 (pc' := 22) rfl rfl rfl ?_
                    refine pm_R_br pm_M185 (pc' := 25) (st' := []) rfl rfl ?_
                    refine pm_R_lo pm_M185 (pc' := 26) rfl rfl rfl ?_
                    refine rf_R_get pm_M185 T2973 (pc' := 29) (v := .ref 51) rfl rfl rfl rfl ?_
                    refine pm_R_lo pm_M185 (pc' := 30) rfl rfl rfl ?_
                    refine pm_R_lo pm_M185 (pc' := 31) rfl rfl rfl ?_
                    refine pm_R_lo pm_M185 (pc' := 33) rfl rfl rfl ?_
                    refine sf_R_imul pm_M185 (pc' := 34) rfl rfl sf_k3 B2482 (by decide) (by decide) (by decide) (fun z2987 e2988 B2989 => ?_)
                    refine sf_R_iadd pm_M185 (pc' := 35) rfl rfl sf_k42 B2989 (by decide) (by decide) (fun z2990 e2991 B2992 => ?_)
                    refine pm_R_lo pm_M185 (pc' := 37) rfl rfl rfl ?_
                    refine sf_R_iadd pm_M185 (pc' := 38) rfl rfl B2992 sf_k0 (by decide) (by decide) (fun z2993 e2994 B2995 => ?_)
                    refine pm_R_lo pm_M185 (pc' := 39) rfl rfl rfl ?_
                    refine rf_R_get pm_M185 T2973 (pc' := 42) (v := .ref 52) rfl rfl rfl rfl ?_
                    refine pm_R_lo pm_M185 (pc' := 44) rfl rfl rfl ?_
                    refine pm_R_lo pm_M185 (pc' := 46) rfl rfl rfl ?_
                    refine pm_R_op pm_M185 (pc' := 47) (st' := [.int 0, .ref 52, .int z2993, .ref 51]) rfl rfl rfl ?_
                    have e2996 := (F2974.cell (by decide) e2855)
                    refine pm_R_iald pm_M185 (pc' := 48) (v := (m2485 14)) rfl e2996 (Nat.lt_of_lt_of_le (by decide) T2973.1) rfl (Eq.trans (show (upd (upd (upd f2508 (Int32.toNatClampNeg 0) (m2485 14)) (Int32.toNatClampNeg 1) (m2548 14)) (Int32.toNatClampNeg 2) (m2834 14)) (Int32.toNatClampNeg 0) = (upd (upd f2508 (Int32.toNatClampNeg 0) (m2485 14)) (Int32.toNatClampNeg 1) (m2548 14)) (Int32.toNatClampNeg 0) from rfl) (Eq.trans (show (upd (upd f2508 (Int32.toNatClampNeg 0) (m2485 14)) (Int32.toNatClampNeg 1) (m2548 14)) (Int32.toNatClampNeg 0) = (upd f2508 (Int32.toNatClampNeg 0) (m2485 14)) (Int32.toNatClampNeg 0) from rfl) rfl)) rfl ?_
                    refine rf_R_ist pm_M185 T2973 (pc' := 49) rfl e2983 (by decide) (by decide) (sf_in B2995 (by decide) (by decide)) ⟨_, rfl⟩ rfl (fun h2999 T3000 F3001 e3002 => ?_)
                    have F3003 := F2978.trans F3001 (by decide)
                    have ct3004 : rf_ct 0 (upd f2 (Int32.toNatClampNeg z2993) (m2485 14)) := ⟨(sf_eqL (Eq.trans (sf_upd_ne (j := Int32.toNatClampNeg 0) B2995 (by decide) (by decide)) rfl) ct4.1), (sf_eqL (Eq.trans (sf_upd_ne (j := Int32.toNatClampNeg 1) B2995 (by decide) (by decide)) rfl) (sf_weak B2482 (by decide) (by decide)))⟩
                    have bd3005 : (m2970 17).toInt = 0 → rf_bd 0 (upd f2 (Int32.toNatClampNeg z2993) (m2485 14)) := fun z => (sf_pos B2979 (by decide) z)
                    refine pm_R_lo pm_M185 (pc' := 52) (ls' := [.ref 41, .int 1, .int 42, .int 3, .int 16, .int 0, .int (f2 1), .int 1]) (st' := []) rfl rfl rfl ?_
                    refine pm_R_br pm_M185 (pc' := 19) rfl rfl ?_
                    refine pm_R_lo pm_M185 (pc' := 21) rfl rfl rfl ?_
                    refine pm_R_lo pm_M185 (pc' := 22) rfl rfl rfl ?_
                    refine pm_R_br pm_M185 (pc' := 25) (st' := []) rfl rfl ?_
                    refine pm_R_lo pm_M185 (pc' := 26) rfl rfl rfl ?_
                    refine rf_R_get pm_M185 T3000 (pc' := 29) (v := .ref 51) rfl rfl rfl rfl ?_
                    refine pm_R_lo pm_M185 (pc' := 30) rfl rfl rfl ?_
                    refine pm_R_lo pm_M185 (pc' := 31) rfl rfl rfl ?_
                    refine pm_R_lo pm_M185 (pc' := 33) rfl rfl rfl ?_
                    refine sf_R_imulV pm_M185 (pc' := 34) rfl rfl sf_k3 B2482 (by decide) (by decide) (by decide) e2988 ?_
                    refine sf_R_iaddV pm_M185 (pc' := 35) rfl rfl sf_k42 B2989 (by decide) (by decide) e2991 ?_
                    refine pm_R_lo pm_M185 (pc' := 37) rfl rfl rfl ?_
                    refine sf_R_iadd pm_M185 (pc' := 38) rfl rfl B2992 sf_k1 (by decide) (by decide) (fun z3006 e3007 B3008 => ?_)
                    refine pm_R_lo pm_M185 (pc' := 39) rfl rfl rfl ?_
                    refine rf_R_get pm_M185 T3000 (pc' := 42) (v := .ref 52) rfl rfl rfl rfl ?_
                    refine pm_R_lo pm_M185 (pc' := 44) rfl rfl rfl ?_
                    refine pm_R_lo pm_M185 (pc' := 46) rfl rfl rfl ?_
                    refine pm_R_op pm_M185 (pc' := 47) (st' := [.int 1, .ref 52, .int z3006, .ref 51]) rfl rfl rfl ?_
                    have e3009 := (F3001.cell (by decide) e2996)
                    refine pm_R_iald pm_M185 (pc' := 48) (v := (m2548 14)) rfl e3009 (Nat.lt_of_lt_of_le (by decide) T3000.1) rfl (Eq.trans (show (upd (upd (upd f2508 (Int32.toNatClampNeg 0) (m2485 14)) (Int32.toNatClampNeg 1) (m2548 14)) (Int32.toNatClampNeg 2) (m2834 14)) (Int32.toNatClampNeg 1) = (upd (upd f2508 (Int32.toNatClampNeg 0) (m2485 14)) (Int32.toNatClampNeg 1) (m2548 14)) (Int32.toNatClampNeg 1) from rfl) rfl) rfl ?_
                    refine rf_R_ist pm_M185 T3000 (pc' := 49) rfl e3002 (by decide) (by decide) (sf_in B3008 (by decide) (by decide)) ⟨_, rfl⟩ rfl (fun h3012 T3013 F3014 e3015 => ?_)
                    have F3016 := F3003.trans F3014 (by decide)
                    have ct3017 : rf_ct 0 (upd (upd f2 (Int32.toNatClampNeg z2993) (m2485 14)) (Int32.toNatClampNeg z3006) (m2548 14)) := ⟨(sf_eqL (Eq.trans (sf_upd_ne (j := Int32.toNatClampNeg 0) B3008 (by decide) (by decide)) (Eq.trans (sf_upd_ne (j := Int32.toNatClampNeg 0) B2995 (by decide) (by decide)) rfl)) ct4.1), (sf_eqL (Eq.trans (sf_upd_ne (j := Int32.toNatClampNeg 1) B3008 (by decide) (by decide)) (Eq.trans (sf_upd_ne (j := Int32.toNatClampNeg 1) B2995 (by decide) (by decide)) rfl)) (sf_weak B2482 (by decide) (by decide)))⟩
                    have bd3018 : (m2970 17).toInt = 0 → rf_bd 0 (upd (upd f2 (Int32.toNatClampNeg z2993) (m2485 14)) (Int32.toNatClampNeg z3006) (m2548 14)) := fun z => (sf_pos B2979 (by decide) z)
                    refine pm_R_lo pm_M185 (pc' := 52) (ls' := [.ref 41, .int 1, .int 42, .int 3, .int 16, .int 0, .int (f2 1), .int 2]) (st' := []) rfl rfl rfl ?_
                    refine pm_R_br pm_M185 (pc' := 19) rfl rfl ?_
                    refine pm_R_lo pm_M185 (pc' := 21) rfl rfl rfl ?_
                    refine pm_R_lo pm_M185 (pc' := 22) rfl rfl rfl ?_
                    refine pm_R_br pm_M185 (pc' := 25) (st' := []) rfl rfl ?_
                    refine pm_R_lo pm_M185 (pc' := 26) rfl rfl rfl ?_
                    refine rf_R_get pm_M185 T3013 (pc' := 29) (v := .ref 51) rfl rfl rfl rfl ?_
                    refine pm_R_lo pm_M185 (pc' := 30) rfl rfl rfl ?_
                    refine pm_R_lo pm_M185 (pc' := 31) rfl rfl rfl ?_
                    refine pm_R_lo pm_M185 (pc' := 33) rfl rfl rfl ?_
                    refine sf_R_imulV pm_M185 (pc' := 34) rfl rfl sf_k3 B2482 (by decide) (by decide) (by decide) e2988 ?_
                    refine sf_R_iaddV pm_M185 (pc' := 35) rfl rfl sf_k42 B2989 (by decide) (by decide) e2991 ?_
                    refine pm_R_lo pm_M185 (pc' := 37) rfl rfl rfl ?_
                    refine sf_R_iadd pm_M185 (pc' := 38) rfl rfl B2992 sf_k2 (by decide) (by decide) (fun z3019 e3020 B3021 => ?_)
                    refine pm_R_lo pm_M185 (pc' := 39) rfl rfl rfl ?_
                    refine rf_R_get pm_M185 T3013 (pc' := 42) (v := .ref 52) rfl rfl rfl rfl ?_
                    refine pm_R_lo pm_M185 (pc' := 44) rfl rfl rfl ?_
                    refine pm_R_lo pm_M185 (pc' := 46) rfl rfl rfl ?_
                    refine pm_R_op pm_M185 (pc' := 47) (st' := [.int 2, .ref 52, .int z3019, .ref 51]) rfl rfl rfl ?_
                    have e3022 := (F3014.cell (by decide) e3009)
                    refine pm_R_iald pm_M185 (pc' := 48) (v := (m2834 14)) rfl e3022 (Nat.lt_of_lt_of_le (by decide) T3013.1) rfl rfl rfl ?_
                    refine rf_R_ist pm_M185 T3013 (pc' := 49) rfl e3015 (by decide) (by decide) (sf_in B3021 (by decide) (by decide)) ⟨_, rfl⟩ rfl (fun h3025 T3026 F3027 e3028 => ?_)
                    have F3029 := F3016.trans F3027 (by decide)
                    have ct3030 : rf_ct 0 (upd (upd (upd f2 (Int32.toNatClampNeg z2993) (m2485 14)) (Int32.toNatClampNeg z3006) (m2548 14)) (Int32.toNatClampNeg z3019) (m2834 14)) := ⟨(sf_eqL (Eq.trans (sf_upd_ne (j := Int32.toNatClampNeg 0) B3021 (by decide) (by decide)) (Eq.trans (sf_upd_ne (j := Int32.toNatClampNeg 0) B3008 (by decide) (by decide)) (Eq.trans (sf_upd_ne (j := Int32.toNatClampNeg 0) B2995 (by decide) (by decide)) rfl))) ct4.1), (sf_eqL (Eq.trans (sf_upd_ne (j := Int32.toNatClampNeg 1) B3021 (by decide) (by decide)) (Eq.trans (sf_upd_ne (j := Int32.toNatClampNeg 1) B3008 (by decide) (by decide)) (Eq.trans (sf_upd_ne (j := Int32.toNatClampNeg 1) B2995 (by decide) (by decide)) rfl))) (sf_weak B2482 (by decide) (by decide)))⟩
                    have bd3031 : (m2970 17).toInt = 0 → rf_bd 0 (upd (upd (upd f2 (Int32.toNatClampNeg z2993) (m2485 14)) (Int32.toNatClampNeg z3006) (m2548 14)) (Int32.toNatClampNeg z3019) (m2834 14)) := fun z => (sf_pos B2979 (by decide) z)
                    refine pm_R_lo pm_M185 (pc' := 52) (ls' := [.ref 41, .int 1, .int 42, .int 3, .int 16, .int 0, .int (f2 1), .int 3]) (st' := []) rfl rfl rfl ?_
                    refine pm_R_br pm_M185 (pc' := 19) rfl rfl ?_
                    refine pm_R_lo pm_M185 (pc' := 21) rfl rfl rfl ?_
                    refine pm_R_lo pm_M185 (pc' := 22) rfl rfl rfl ?_
                    refine pm_R_br pm_M185 (pc' := 55) (st' := []) rfl rfl ?_
                    refine pm_R_lo pm_M185 (pc' := 56) rfl rfl rfl ?_
                    refine rf_R_get pm_M185 T3026 (pc' := 59) (v := .ref 51) rfl rfl rfl rfl ?_
                    refine pm_R_lo pm_M185 (pc' := 60) rfl rfl rfl ?_
                    refine pm_R_op pm_M185 (pc' := 61) (st' := [.int 1, .ref 51, .int 1, .ref 51]) rfl rfl rfl ?_
                    refine pm_R_iald pm_M185 (pc' := 62) (v := (f2 1)) rfl e3028 (Nat.lt_of_lt_of_le (by decide) T3026.1) rfl (Eq.trans (sf_upd_ne (j := Int32.toNatClampNeg 1) B3021 (by decide) (by decide)) (Eq.trans (sf_upd_ne (j := Int32.toNatClampNeg 1) B3008 (by decide) (by decide)) (Eq.trans (sf_upd_ne (j := Int32.toNatClampNeg 1) B2995 (by decide) (by decide)) rfl))) rfl ?_
                    refine pm_R_op pm_M185 (pc' := 63) (st' := [.int 1, .int (f2 1), .int 1, .ref 51]) rfl rfl rfl ?_
                    refine sf_R_iadd pm_M185 (pc' := 64) rfl rfl B2482 sf_k1 (by decide) (by decide) (fun z3034 e3035 B3036 => ?_)
                    refine rf_R_ist pm_M185 T3026 (pc' := 65) rfl e3028 (by decide) (by decide) rfl ⟨_, rfl⟩ rfl (fun h3037 T3038 F3039 e3040 => ?_)
                    have F3041 := F3029.trans F3039 (by decide)
                    have ct3042 : rf_ct 0 (upd (upd (upd (upd f2 (Int32.toNatClampNeg z2993) (m2485 14)) (Int32.toNatClampNeg z3006) (m2548 14)) (Int32.toNatClampNeg z3019) (m2834 14)) (Int32.toNatClampNeg 1) z3034) := ⟨(sf_eqL (Eq.trans (show (upd (upd (upd (upd f2 (Int32.toNatClampNeg z2993) (m2485 14)) (Int32.toNatClampNeg z3006) (m2548 14)) (Int32.toNatClampNeg z3019) (m2834 14)) (Int32.toNatClampNeg 1) z3034) (Int32.toNatClampNeg 0) = (upd (upd (upd f2 (Int32.toNatClampNeg z2993) (m2485 14)) (Int32.toNatClampNeg z3006) (m2548 14)) (Int32.toNatClampNeg z3019) (m2834 14)) (Int32.toNatClampNeg 0) from rfl) (Eq.trans (sf_upd_ne (j := Int32.toNatClampNeg 0) B3021 (by decide) (by decide)) (Eq.trans (sf_upd_ne (j := Int32.toNatClampNeg 0) B3008 (by decide) (by decide)) (Eq.trans (sf_upd_ne (j := Int32.toNatClampNeg 0) B2995 (by decide) (by decide)) rfl)))) ct4.1), (sf_eqL rfl (sf_weak B3036 (by decide) (by decide)))⟩
                    have bd3043 : (m2970 17).toInt = 0 → rf_bd 0 (upd (upd (upd (upd f2 (Int32.toNatClampNeg z2993) (m2485 14)) (Int32.toNatClampNeg z3006) (m2548 14)) (Int32.toNatClampNeg z3019) (m2834 14)) (Int32.toNatClampNeg 1) z3034) := fun z => (sf_pos B2979 (by decide) z)
                    refine pm_R_ret pm_M185 (r := none) rfl rfl ?_
                    show pm_R _ 187 189 [.ref 41, .long a0, pm_no, .int a1] [] _ _
                    refine pm_R_op pm_M187 (pc' := 190) (st' := [.int 1]) (pm_q187_1 (Nat.le_of_ble_eq_true rfl)) rfl rfl ?_
                    have B3044 : sf_B 0 600 (m2970 10) := T3038.2.2.1 10
                    exact pm_R_ret pm_M187 (r := some (.int 1)) (pm_q187_1 (Nat.le_of_ble_eq_true rfl)) rfl (K1 m2970 w2971 h3037 T3038 F3041 W2982 (⟨(upd (upd (upd (upd f2 (Int32.toNatClampNeg z2993) (m2485 14)) (Int32.toNatClampNeg z3006) (m2548 14)) (Int32.toNatClampNeg z3019) (m2834 14)) (Int32.toNatClampNeg 1) z3034), e3040, ct3042, fun z => (sf_pos B2979 (by decide) z)⟩) (sf_aux95 _ _ _ _ _ _ X2491 X2554 X2840 X2976))
                · skip
                  refine pm_R_lo pm_M183 (pc' := 9) rfl rfl rfl ?_
                  refine pm_R_cv pm_M183 (pc' := 12) (a := 41) (ra := []) (rest := []) (ls' := [.ref 41]) rfl rfl (Or.inl rfl) pm_M184 T2837.2.1 rfl (by decide) (Nat.lt_of_lt_of_le (by decide) T2837.1) rfl rfl (Nat.le_of_ble_eq_true rfl) rfl rfl ?_
                  refine pm_R_lo pm_M184 (pc' := 1) rfl rfl rfl ?_
                  refine pm_R_lo pm_M184 (pc' := 2) rfl rfl rfl ?_
                  have B3045 : sf_B 0 600 (m2834 12) := T2837.2.2.1 12
                  refine rf_R_get pm_M184 T2837 (pc' := 5) (v := .int (m2834 12)) rfl rfl rfl rfl ?_
                  refine rf_R_put pm_M184 T2837 (pc' := 8) rfl rfl rfl (by decide) rfl rfl B3045 rfl rfl (fun h3046 m3049 em3050 T3047 F3048 => ?_)
                  have F3051 := F2842.trans F3048 (by decide)
                  have B3052 : sf_B 1 4 (m3049 17) := by rw [em3050]; exact B2843
                  have ek3053 : (m3049 17).toInt = ((m2521 17)).toInt := by rw [em3050]; exact ek2844
                  have B3054 : sf_B 0 0 (m3049 22) := by rw [em3050]; exact B2845
                  have B3055 : sf_B 0 600 (m3049 16) := by rw [em3050]; exact B3045
                  have ek3056 : (m3049 16).toInt = ((m2834 12)).toInt := by rw [em3050]; rfl
                  have W3057 : rf_W [10, 12, 13, 14, 16, 17, 18, 22] m m3049 := by rw [em3050]; exact W2846.put (by decide)
                  refine pm_R_op pm_M184 (pc' := 9) (st' := [.int 0]) rfl rfl rfl ?_
                  refine pm_R_ret pm_M184 (r := some (.int 0)) rfl rfl ?_
                  show pm_R _ 183 12 [.ref 41, .int 2, .int 49, .int (-1)] [.int 0] _ _
                  refine pm_R_ret pm_M183 (r := some (.int 0)) rfl rfl ?_
                  show pm_R _ 187 173 [.ref 41, .long a0, pm_no, .int a1] [.int 0] _ _
                  refine pm_R_br pm_M187 (pc' := 176) (st' := []) (pm_q187_1 (Nat.le_of_ble_eq_true rfl)) rfl ?_
                  refine pm_R_op pm_M187 (pc' := 177) (st' := [.int 0]) (pm_q187_1 (Nat.le_of_ble_eq_true rfl)) rfl rfl ?_
                  have B3058 : sf_B 0 600 (m3049 10) := T3047.2.2.1 10
                  exact pm_R_ret pm_M187 (r := some (.int 0)) (pm_q187_1 (Nat.le_of_ble_eq_true rfl)) rfl (K0 m3049 w2835 h3046 T3047 F3051 W3057 (sf_aux82 _ _ _ _ _ _ X2491 X2554 X2840))
            · skip
              refine pm_R_lo pm_M183 (pc' := 9) rfl rfl rfl ?_
              refine pm_R_cv pm_M183 (pc' := 12) (a := 41) (ra := []) (rest := []) (ls' := [.ref 41]) rfl rfl (Or.inl rfl) pm_M184 T2551.2.1 rfl (by decide) (Nat.lt_of_lt_of_le (by decide) T2551.1) rfl rfl (Nat.le_of_ble_eq_true rfl) rfl rfl ?_
              refine pm_R_lo pm_M184 (pc' := 1) rfl rfl rfl ?_
              refine pm_R_lo pm_M184 (pc' := 2) rfl rfl rfl ?_
              have B3059 : sf_B 0 600 (m2548 12) := T2551.2.2.1 12
              refine rf_R_get pm_M184 T2551 (pc' := 5) (v := .int (m2548 12)) rfl rfl rfl rfl ?_
              refine rf_R_put pm_M184 T2551 (pc' := 8) rfl rfl rfl (by decide) rfl rfl B3059 rfl rfl (fun h3060 m3063 em3064 T3061 F3062 => ?_)
              have F3065 := F2556.trans F3062 (by decide)
              have B3066 : sf_B 1 4 (m3063 17) := by rw [em3064]; exact B2557
              have ek3067 : (m3063 17).toInt = ((m2521 17)).toInt := by rw [em3064]; exact ek2558
              have B3068 : sf_B 0 0 (m3063 22) := by rw [em3064]; exact B2559
              have B3069 : sf_B 0 600 (m3063 16) := by rw [em3064]; exact B3059
              have ek3070 : (m3063 16).toInt = ((m2548 12)).toInt := by rw [em3064]; rfl
              have W3071 : rf_W [10, 12, 13, 14, 16, 17, 18, 22] m m3063 := by rw [em3064]; exact W2560.put (by decide)
              refine pm_R_op pm_M184 (pc' := 9) (st' := [.int 0]) rfl rfl rfl ?_
              refine pm_R_ret pm_M184 (r := some (.int 0)) rfl rfl ?_
              show pm_R _ 183 12 [.ref 41, .int 1, .int 5, .int (-1)] [.int 0] _ _
              refine pm_R_ret pm_M183 (r := some (.int 0)) rfl rfl ?_
              show pm_R _ 187 162 [.ref 41, .long a0, pm_no, .int a1] [.int 0] _ _
              refine pm_R_br pm_M187 (pc' := 176) (st' := []) (pm_q187_1 (Nat.le_of_ble_eq_true rfl)) rfl ?_
              refine pm_R_op pm_M187 (pc' := 177) (st' := [.int 0]) (pm_q187_1 (Nat.le_of_ble_eq_true rfl)) rfl rfl ?_
              have B3072 : sf_B 0 600 (m3063 10) := T3061.2.2.1 10
              exact pm_R_ret pm_M187 (r := some (.int 0)) (pm_q187_1 (Nat.le_of_ble_eq_true rfl)) rfl (K0 m3063 w2549 h3060 T3061 F3065 W3071 (sf_aux83 _ _ _ _ _ X2491 X2554))
          · have B3073 : sf_B 0 9 (m2485 14) := sf_leL (Int32.not_lt.mp c2516) B2507 sf_k9
            refine pm_R_lo pm_M183 (pc' := 32) rfl rfl rfl ?_
            refine rf_R_get pm_M183 T2512 (pc' := 35) (v := .int (m2485 14)) rfl rfl rfl rfl ?_
            refine pm_R_lo pm_M183 (pc' := 36) rfl rfl rfl ?_
            refine pm_R_icmp pm_M183 (t := 53) (pc' := 39) rfl rfl rfl (fun c3074 => ?_) (fun c3074 => absurd (Classical.not_not.mp c3074) (sf_neq1 B3073 sf_kn1 (by decide)))
            skip
            refine pm_R_lo pm_M183 (pc' := 54) rfl rfl rfl ?_
            refine pm_R_cv pm_M183 (pc' := 57) (a := 41) (ra := []) (rest := []) (ls' := [.ref 41, pm_no, pm_no]) rfl rfl (Or.inl rfl) pm_M179 T2512.2.1 rfl (by decide) (Nat.lt_of_lt_of_le (by decide) T2512.1) rfl rfl (Nat.le_of_ble_eq_true rfl) rfl rfl ?_
            have B3075 : sf_B 0 600 (m2485 10) := T2512.2.2.1 10
            refine rf_c179 (d := d + 0) T2512  (fun m3078 w3079 h3080 T3081 F3082 W3083 X3084 X3085 => ?_)
            have F3086 := F2515.trans F3082 (by decide)
            have B3087 : sf_B 0 4 (m3078 17) := by rw [W3083 17 (by decide)]; exact B2494
            have ek3088 : (m3078 17).toInt = ((m 17)).toInt := by rw [W3083 17 (by decide)]; exact ek2495
            have W3089 : rf_W [10, 12, 13, 14, 16, 17, 18, 22] m m3078 := W2496.trans W3083 (by decide)
            show pm_R _ 183 57 [.ref 41, .int 0, .int 9, .int (-1)] [] _ _
            refine pm_R_op pm_M183 (pc' := 58) (st' := [.int 1]) rfl rfl rfl ?_
            refine pm_R_ret pm_M183 (r := some (.int 1)) rfl rfl ?_
            show pm_R _ 187 152 [.ref 41, .long a0, pm_no, .int a1] [.int 1] _ _
            refine pm_R_br pm_M187 (pc' := 155) (st' := []) (pm_q187_1 (Nat.le_of_ble_eq_true rfl)) rfl ?_
            refine pm_R_lo pm_M187 (pc' := 156) (pm_q187_1 (Nat.le_of_ble_eq_true rfl)) rfl rfl ?_
            refine pm_R_op pm_M187 (pc' := 157) (st' := [.int 1, .ref 41]) (pm_q187_1 (Nat.le_of_ble_eq_true rfl)) rfl rfl ?_
            refine pm_R_op pm_M187 (pc' := 158) (st' := [.int 5, .int 1, .ref 41]) (pm_q187_1 (Nat.le_of_ble_eq_true rfl)) rfl rfl ?_
            refine pm_R_op pm_M187 (pc' := 159) (st' := [.int (-1), .int 5, .int 1, .ref 41]) (pm_q187_1 (Nat.le_of_ble_eq_true rfl)) rfl rfl ?_
            refine pm_R_cv pm_M187 (pc' := 162) (a := 41) (ra := [.int (-1), .int 5, .int 1]) (rest := []) (ls' := [.ref 41, .int 1, .int 5, .int (-1)]) (pm_q187_1 (Nat.le_of_ble_eq_true rfl)) rfl (Or.inl rfl) pm_M183 T3081.2.1 rfl (by decide) (Nat.lt_of_lt_of_le (by decide) T3081.1) rfl rfl (Nat.le_of_ble_eq_true rfl) rfl rfl ?_
            refine pm_R_lo pm_M183 (pc' := 1) rfl rfl rfl ?_
            have B3090 : sf_B 0 4 (m3078 13) := T3081.2.2.1 13
            refine rf_R_get pm_M183 T3081 (pc' := 4) (v := .int (m3078 13)) rfl rfl rfl rfl ?_
            refine pm_R_op pm_M183 (pc' := 5) (st' := [.int 3, .int (m3078 13)]) rfl rfl rfl ?_
            refine pm_R_icmp pm_M183 (t := 13) (pc' := 8) rfl rfl rfl (fun c3091 => ?_) (fun c3091 => ?_)
            · have B3092 : sf_B 3 3 (m3078 13) := sf_eqL c3091 sf_k3
              refine pm_R_lo pm_M183 (pc' := 14) rfl rfl rfl ?_
              refine rf_R_get pm_M183 T3081 (pc' := 17) (v := .ref 52) rfl rfl rfl rfl ?_
              refine pm_R_lo pm_M183 (pc' := 18) rfl rfl rfl ?_
              refine pm_R_lo pm_M183 (pc' := 19) rfl rfl rfl ?_
              have B3093 : sf_B 0 99 (m3078 14) := T3081.2.2.1 14
              refine rf_R_get pm_M183 T3081 (pc' := 22) (v := .int (m3078 14)) rfl rfl rfl rfl ?_
              have e3094 := (F3082.cell (by decide) e2514)
              refine rf_R_ist pm_M183 T3081 (pc' := 23) rfl e3094 (by decide) (by decide) rfl ⟨_, rfl, sf_upd (sf_upd b2510 (sf_weak B2507 (by decide) (by decide)) _) (sf_weak B3093 (by decide) (by decide)) _⟩ rfl (fun h3095 T3096 F3097 e3098 => ?_)
              have F3099 := F3086.trans F3097 (by decide)
              refine pm_R_lo pm_M183 (pc' := 24) rfl rfl rfl ?_
              refine rf_R_get pm_M183 T3096 (pc' := 27) (v := .int (m3078 14)) rfl rfl rfl rfl ?_
              refine pm_R_lo pm_M183 (pc' := 28) rfl rfl rfl ?_
              refine pm_R_icmp pm_M183 (t := 39) (pc' := 31) rfl rfl rfl (fun c3100 => ?_) (fun c3100 => ?_)
              · have B3101 : sf_B 6 99 (m3078 14) := sf_ltR c3100 sf_k5 B3093
                refine pm_R_lo pm_M183 (pc' := 40) rfl rfl rfl ?_
                refine pm_R_op pm_M183 (pc' := 41) (st' := [.int 2, .ref 41]) rfl rfl rfl ?_
                refine pm_R_lo pm_M183 (pc' := 42) rfl rfl rfl ?_
                have B3102 : sf_B 0 600 (m3078 12) := T3096.2.2.1 12
                refine rf_R_get pm_M183 T3096 (pc' := 45) (v := .int (m3078 12)) rfl rfl rfl rfl ?_
                refine pm_R_cv pm_M183 (pc' := 48) (a := 41) (ra := [.int (m3078 12), .int 2]) (rest := []) (ls' := [.ref 41, .int 2, .int (m3078 12)]) rfl rfl (Or.inl rfl) pm_M182 T3096.2.1 rfl (by decide) (Nat.lt_of_lt_of_le (by decide) T3096.1) rfl rfl (Nat.le_of_ble_eq_true rfl) rfl rfl ?_
                refine rf_c182 (d := d + 1) T3096 (sf_weak sf_k2 (by decide) (by decide)) B3102 (fun m3105 w3106 h3107 T3108 F3109 W3110 B3111 => ?_)
                have F3112 := F3099.trans F3109 (by decide)
                have B3113 : sf_B 3 3 (m3105 13) := by rw [W3110 13 (by decide)]; exact B3092
                have B3114 : sf_B 6 99 (m3105 14) := by rw [W3110 14 (by decide)]; exact B3101
                have W3115 : rf_W [10, 12, 13, 14, 16, 17, 18, 22] m m3105 := W3089.trans W3110 (by decide)
                show pm_R _ 183 48 [.ref 41, .int 1, .int 5, .int (-1)] [] _ _
                refine pm_R_lo pm_M183 (pc' := 49) rfl rfl rfl ?_
                refine pm_R_op pm_M183 (pc' := 50) (st' := [.int 0, .ref 41]) rfl rfl rfl ?_
                refine rf_R_put pm_M183 T3108 (pc' := 53) rfl rfl rfl (by decide) rfl rfl (sf_weak sf_k0 (by decide) (by decide)) rfl rfl (fun h3116 m3119 em3120 T3117 F3118 => ?_)
                have F3121 := F3112.trans F3118 (by decide)
                have B3122 : sf_B 3 3 (m3119 13) := by rw [em3120]; exact B3113
                have B3123 : sf_B 6 99 (m3119 14) := by rw [em3120]; exact B3114
                have B3124 : sf_B 1 4 (m3119 17) := by rw [em3120]; exact B3111
                have ek3125 : (m3119 17).toInt = ((m3105 17)).toInt := by rw [em3120]; rfl
                have B3126 : sf_B 0 0 (m3119 22) := by rw [em3120]; exact sf_k0
                have W3128 : rf_W [10, 12, 13, 14, 16, 17, 18, 22] m m3119 := by rw [em3120]; exact W3115.put (by decide)
                refine pm_R_lo pm_M183 (pc' := 54) rfl rfl rfl ?_
                refine pm_R_cv pm_M183 (pc' := 57) (a := 41) (ra := []) (rest := []) (ls' := [.ref 41, pm_no, pm_no]) rfl rfl (Or.inl rfl) pm_M179 T3117.2.1 rfl (by decide) (Nat.lt_of_lt_of_le (by decide) T3117.1) rfl rfl (Nat.le_of_ble_eq_true rfl) rfl rfl ?_
                have B3129 : sf_B 0 600 (m3119 10) := T3117.2.2.1 10
                refine rf_c179 (d := d + 0) T3117  (fun m3132 w3133 h3134 T3135 F3136 W3137 X3138 X3139 => ?_)
                have F3140 := F3121.trans F3136 (by decide)
                have B3141 : sf_B 1 4 (m3132 17) := by rw [W3137 17 (by decide)]; exact B3124
                have ek3142 : (m3132 17).toInt = ((m3105 17)).toInt := by rw [W3137 17 (by decide)]; exact ek3125
                have B3143 : sf_B 0 0 (m3132 22) := by rw [W3137 22 (by decide)]; exact B3126
                have W3144 : rf_W [10, 12, 13, 14, 16, 17, 18, 22] m m3132 := W3128.trans W3137 (by decide)
                show pm_R _ 183 57 [.ref 41, .int 1, .int 5, .int (-1)] [] _ _
                refine pm_R_op pm_M183 (pc' := 58) (st' := [.int 1]) rfl rfl rfl ?_
                refine pm_R_ret pm_M183 (r := some (.int 1)) rfl rfl ?_
                show pm_R _ 187 162 [.ref 41, .long a0, pm_no, .int a1] [.int 1] _ _
                refine pm_R_br pm_M187 (pc' := 165) (st' := []) (pm_q187_1 (Nat.le_of_ble_eq_true rfl)) rfl ?_
                refine pm_R_lo pm_M187 (pc' := 166) (pm_q187_1 (Nat.le_of_ble_eq_true rfl)) rfl rfl ?_
                refine pm_R_op pm_M187 (pc' := 167) (st' := [.int 2, .ref 41]) (pm_q187_1 (Nat.le_of_ble_eq_true rfl)) rfl rfl ?_
                refine pm_R_op pm_M187 (pc' := 169) (st' := [.int 49, .int 2, .ref 41]) (pm_q187_1 (Nat.le_of_ble_eq_true rfl)) rfl rfl ?_
                refine pm_R_op pm_M187 (pc' := 170) (st' := [.int (-1), .int 49, .int 2, .ref 41]) (pm_q187_1 (Nat.le_of_ble_eq_true rfl)) rfl rfl ?_
                refine pm_R_cv pm_M187 (pc' := 173) (a := 41) (ra := [.int (-1), .int 49, .int 2]) (rest := []) (ls' := [.ref 41, .int 2, .int 49, .int (-1)]) (pm_q187_1 (Nat.le_of_ble_eq_true rfl)) rfl (Or.inl rfl) pm_M183 T3135.2.1 rfl (by decide) (Nat.lt_of_lt_of_le (by decide) T3135.1) rfl rfl (Nat.le_of_ble_eq_true rfl) rfl rfl ?_
                refine pm_R_lo pm_M183 (pc' := 1) rfl rfl rfl ?_
                have B3145 : sf_B 0 4 (m3132 13) := T3135.2.2.1 13
                refine rf_R_get pm_M183 T3135 (pc' := 4) (v := .int (m3132 13)) rfl rfl rfl rfl ?_
                refine pm_R_op pm_M183 (pc' := 5) (st' := [.int 3, .int (m3132 13)]) rfl rfl rfl ?_
                refine pm_R_icmp pm_M183 (t := 13) (pc' := 8) rfl rfl rfl (fun c3146 => ?_) (fun c3146 => ?_)
                · have B3147 : sf_B 3 3 (m3132 13) := sf_eqL c3146 sf_k3
                  refine pm_R_lo pm_M183 (pc' := 14) rfl rfl rfl ?_
                  refine rf_R_get pm_M183 T3135 (pc' := 17) (v := .ref 52) rfl rfl rfl rfl ?_
                  refine pm_R_lo pm_M183 (pc' := 18) rfl rfl rfl ?_
                  refine pm_R_lo pm_M183 (pc' := 19) rfl rfl rfl ?_
                  have B3148 : sf_B 0 99 (m3132 14) := T3135.2.2.1 14
                  refine rf_R_get pm_M183 T3135 (pc' := 22) (v := .int (m3132 14)) rfl rfl rfl rfl ?_
                  have e3149 := (F3136.cell (by decide) (F3118.cell (by decide) (F3109.cell (by decide) e3098)))
                  refine rf_R_ist pm_M183 T3135 (pc' := 23) rfl e3149 (by decide) (by decide) rfl ⟨_, rfl, sf_upd (sf_upd (sf_upd b2510 (sf_weak B2507 (by decide) (by decide)) _) (sf_weak B3093 (by decide) (by decide)) _) (sf_weak B3148 (by decide) (by decide)) _⟩ rfl (fun h3150 T3151 F3152 e3153 => ?_)
                  have F3154 := F3140.trans F3152 (by decide)
                  refine pm_R_lo pm_M183 (pc' := 24) rfl rfl rfl ?_
                  refine rf_R_get pm_M183 T3151 (pc' := 27) (v := .int (m3132 14)) rfl rfl rfl rfl ?_
                  refine pm_R_lo pm_M183 (pc' := 28) rfl rfl rfl ?_
                  refine pm_R_icmp pm_M183 (t := 39) (pc' := 31) rfl rfl rfl (fun c3155 => ?_) (fun c3155 => ?_)
                  · have B3156 : sf_B 50 99 (m3132 14) := sf_ltR c3155 sf_k49 B3148
                    refine pm_R_lo pm_M183 (pc' := 40) rfl rfl rfl ?_
                    refine pm_R_op pm_M183 (pc' := 41) (st' := [.int 2, .ref 41]) rfl rfl rfl ?_
                    refine pm_R_lo pm_M183 (pc' := 42) rfl rfl rfl ?_
                    have B3157 : sf_B 0 600 (m3132 12) := T3151.2.2.1 12
                    refine rf_R_get pm_M183 T3151 (pc' := 45) (v := .int (m3132 12)) rfl rfl rfl rfl ?_
                    refine pm_R_cv pm_M183 (pc' := 48) (a := 41) (ra := [.int (m3132 12), .int 2]) (rest := []) (ls' := [.ref 41, .int 2, .int (m3132 12)]) rfl rfl (Or.inl rfl) pm_M182 T3151.2.1 rfl (by decide) (Nat.lt_of_lt_of_le (by decide) T3151.1) rfl rfl (Nat.le_of_ble_eq_true rfl) rfl rfl ?_
                    refine rf_c182 (d := d + 1) T3151 (sf_weak sf_k2 (by decide) (by decide)) B3157 (fun m3160 w3161 h3162 T3163 F3164 W3165 B3166 => ?_)
                    have F3167 := F3154.trans F3164 (by decide)
                    have B3168 : sf_B 0 0 (m3160 22) := by rw [W3165 22 (by decide)]; exact B3143
                    have B3169 : sf_B 3 3 (m3160 13) := by rw [W3165 13 (by decide)]; exact B3147
                    have B3170 : sf_B 50 99 (m3160 14) := by rw [W3165 14 (by decide)]; exact B3156
                    have W3171 : rf_W [10, 12, 13, 14, 16, 17, 18, 22] m m3160 := W3144.trans W3165 (by decide)
                    show pm_R _ 183 48 [.ref 41, .int 2, .int 49, .int (-1)] [] _ _
                    refine pm_R_lo pm_M183 (pc' := 49) rfl rfl rfl ?_
                    refine pm_R_op pm_M183 (pc' := 50) (st' := [.int 0, .ref 41]) rfl rfl rfl ?_
                    refine rf_R_put pm_M183 T3163 (pc' := 53) rfl rfl rfl (by decide) rfl rfl (sf_weak sf_k0 (by decide) (by decide)) rfl rfl (fun h3172 m3175 em3176 T3173 F3174 => ?_)
                    have F3177 := F3167.trans F3174 (by decide)
                    have B3178 : sf_B 3 3 (m3175 13) := by rw [em3176]; exact B3169
                    have B3179 : sf_B 50 99 (m3175 14) := by rw [em3176]; exact B3170
                    have B3180 : sf_B 1 4 (m3175 17) := by rw [em3176]; exact B3166
                    have ek3181 : (m3175 17).toInt = ((m3160 17)).toInt := by rw [em3176]; rfl
                    have B3182 : sf_B 0 0 (m3175 22) := by rw [em3176]; exact sf_k0
                    have W3184 : rf_W [10, 12, 13, 14, 16, 17, 18, 22] m m3175 := by rw [em3176]; exact W3171.put (by decide)
                    refine pm_R_lo pm_M183 (pc' := 54) rfl rfl rfl ?_
                    refine pm_R_cv pm_M183 (pc' := 57) (a := 41) (ra := []) (rest := []) (ls' := [.ref 41, pm_no, pm_no]) rfl rfl (Or.inl rfl) pm_M179 T3173.2.1 rfl (by decide) (Nat.lt_of_lt_of_le (by decide) T3173.1) rfl rfl (Nat.le_of_ble_eq_true rfl) rfl rfl ?_
                    have B3185 : sf_B 0 600 (m3175 10) := T3173.2.2.1 10
                    refine rf_c179 (d := d + 0) T3173  (fun m3188 w3189 h3190 T3191 F3192 W3193 X3194 X3195 => ?_)
                    have F3196 := F3177.trans F3192 (by decide)
                    have B3197 : sf_B 1 4 (m3188 17) := by rw [W3193 17 (by decide)]; exact B3180
                    have ek3198 : (m3188 17).toInt = ((m3160 17)).toInt := by rw [W3193 17 (by decide)]; exact ek3181
                    have B3199 : sf_B 0 0 (m3188 22) := by rw [W3193 22 (by decide)]; exact B3182
                    have W3200 : rf_W [10, 12, 13, 14, 16, 17, 18, 22] m m3188 := W3184.trans W3193 (by decide)
                    show pm_R _ 183 57 [.ref 41, .int 2, .int 49, .int (-1)] [] _ _
                    refine pm_R_op pm_M183 (pc' := 58) (st' := [.int 1]) rfl rfl rfl ?_
                    refine pm_R_ret pm_M183 (r := some (.int 1)) rfl rfl ?_
                    show pm_R _ 187 173 [.ref 41, .long a0, pm_no, .int a1] [.int 1] _ _
                    refine pm_R_br pm_M187 (pc' := 178) (st' := []) (pm_q187_1 (Nat.le_of_ble_eq_true rfl)) rfl ?_
                    refine pm_R_lo pm_M187 (pc' := 179) (pm_q187_1 (Nat.le_of_ble_eq_true rfl)) rfl rfl ?_
                    refine pm_R_op pm_M187 (pc' := 180) (st' := [.int 1, .ref 41]) (pm_q187_1 (Nat.le_of_ble_eq_true rfl)) rfl rfl ?_
                    refine pm_R_op pm_M187 (pc' := 182) (st' := [.int 42, .int 1, .ref 41]) (pm_q187_1 (Nat.le_of_ble_eq_true rfl)) rfl rfl ?_
                    refine pm_R_op pm_M187 (pc' := 183) (st' := [.int 3, .int 42, .int 1, .ref 41]) (pm_q187_1 (Nat.le_of_ble_eq_true rfl)) rfl rfl ?_
                    refine pm_R_op pm_M187 (pc' := 185) (st' := [.int 16, .int 3, .int 42, .int 1, .ref 41]) (pm_q187_1 (Nat.le_of_ble_eq_true rfl)) rfl rfl ?_
                    refine pm_R_op pm_M187 (pc' := 186) (st' := [.int 0, .int 16, .int 3, .int 42, .int 1, .ref 41]) (pm_q187_1 (Nat.le_of_ble_eq_true rfl)) rfl rfl ?_
                    refine pm_R_cv pm_M187 (pc' := 189) (a := 41) (ra := [.int 0, .int 16, .int 3, .int 42, .int 1]) (rest := []) (ls' := [.ref 41, .int 1, .int 42, .int 3, .int 16, .int 0, pm_no, pm_no]) (pm_q187_1 (Nat.le_of_ble_eq_true rfl)) rfl (Or.inl rfl) pm_M185 T3191.2.1 rfl (by decide) (Nat.lt_of_lt_of_le (by decide) T3191.1) rfl rfl (Nat.le_of_ble_eq_true rfl) rfl rfl ?_
                    refine pm_R_lo pm_M185 (pc' := 1) rfl rfl rfl ?_
                    refine rf_R_get pm_M185 T3191 (pc' := 4) (v := .ref 51) rfl rfl rfl rfl ?_
                    refine pm_R_lo pm_M185 (pc' := 5) rfl rfl rfl ?_
                    have e3201 := (F3192.cell (by decide) (F3174.cell (by decide) (F3164.cell (by decide) (F3152.cell (by decide) (F3136.cell (by decide) (F3118.cell (by decide) (F3109.cell (by decide) (F3097.cell (by decide) (F3082.cell (by decide) (F2513.cell (by decide) (F2489.cell (by decide) e3)))))))))))
                    refine pm_R_iald pm_M185 (pc' := 6) (v := (f2 1)) rfl e3201 (Nat.lt_of_lt_of_le (by decide) T3191.1) rfl rfl rfl ?_
                    refine pm_R_lo pm_M185 (pc' := 8) (ls' := [.ref 41, .int 1, .int 42, .int 3, .int 16, .int 0, .int (f2 1), pm_no]) (st' := []) rfl rfl rfl ?_
                    refine pm_R_lo pm_M185 (pc' := 10) rfl rfl rfl ?_
                    refine pm_R_lo pm_M185 (pc' := 12) rfl rfl rfl ?_
                    refine pm_R_icmp pm_M185 (t := 16) (pc' := 15) rfl rfl rfl (fun c3204 => ?_) (fun c3204 => absurd (Classical.not_not.mp c3204) (sf_neq2 B2482 sf_k16 (by decide)))
                    skip
                    refine pm_R_op pm_M185 (pc' := 17) (st' := [.int 0]) rfl rfl rfl ?_
                    refine pm_R_lo pm_M185 (pc' := 19) (ls' := [.ref 41, .int 1, .int 42, .int 3, .int 16, .int 0, .int (f2 1), .int 0]) (st' := []) rfl rfl rfl ?_
                    refine pm_R_lo pm_M185 (pc' := 21) rfl rfl rfl ?_
                    refine pm_R_lo pm_M185 (pc' := 22) rfl rfl rfl ?_
                    refine pm_R_br pm_M185 (pc' := 25) (st' := []) rfl rfl ?_
                    refine pm_R_lo pm_M185 (pc' := 26) rfl rfl rfl ?_
                    refine rf_R_get pm_M185 T3191 (pc' := 29) (v := .ref 51) rfl rfl rfl rfl ?_
                    refine pm_R_lo pm_M185 (pc' := 30) rfl rfl rfl ?_
                    refine pm_R_lo pm_M185 (pc' := 31) rfl rfl rfl ?_
                    refine pm_R_lo pm_M185 (pc' := 33) rfl rfl rfl ?_
                    refine sf_R_imul pm_M185 (pc' := 34) rfl rfl sf_k3 B2482 (by decide) (by decide) (by decide) (fun z3205 e3206 B3207 => ?_)
                    refine sf_R_iadd pm_M185 (pc' := 35) rfl rfl sf_k42 B3207 (by decide) (by decide) (fun z3208 e3209 B3210 => ?_)
                    refine pm_R_lo pm_M185 (pc' := 37) rfl rfl rfl ?_
                    refine sf_R_iadd pm_M185 (pc' := 38) rfl rfl B3210 sf_k0 (by decide) (by decide) (fun z3211 e3212 B3213 => ?_)
                    refine pm_R_lo pm_M185 (pc' := 39) rfl rfl rfl ?_
                    refine rf_R_get pm_M185 T3191 (pc' := 42) (v := .ref 52) rfl rfl rfl rfl ?_
                    refine pm_R_lo pm_M185 (pc' := 44) rfl rfl rfl ?_
                    refine pm_R_lo pm_M185 (pc' := 46) rfl rfl rfl ?_
                    refine pm_R_op pm_M185 (pc' := 47) (st' := [.int 0, .ref 52, .int z3211, .ref 51]) rfl rfl rfl ?_
                    have e3214 := (F3192.cell (by decide) (F3174.cell (by decide) (F3164.cell (by decide) e3153)))
                    refine pm_R_iald pm_M185 (pc' := 48) (v := (m2485 14)) rfl e3214 (Nat.lt_of_lt_of_le (by decide) T3191.1) rfl (Eq.trans (show (upd (upd (upd f2508 (Int32.toNatClampNeg 0) (m2485 14)) (Int32.toNatClampNeg 1) (m3078 14)) (Int32.toNatClampNeg 2) (m3132 14)) (Int32.toNatClampNeg 0) = (upd (upd f2508 (Int32.toNatClampNeg 0) (m2485 14)) (Int32.toNatClampNeg 1) (m3078 14)) (Int32.toNatClampNeg 0) from rfl) (Eq.trans (show (upd (upd f2508 (Int32.toNatClampNeg 0) (m2485 14)) (Int32.toNatClampNeg 1) (m3078 14)) (Int32.toNatClampNeg 0) = (upd f2508 (Int32.toNatClampNeg 0) (m2485 14)) (Int32.toNatClampNeg 0) from rfl) rfl)) rfl ?_
                    refine rf_R_ist pm_M185 T3191 (pc' := 49) rfl e3201 (by decide) (by decide) (sf_in B3213 (by decide) (by decide)) ⟨_, rfl⟩ rfl (fun h3217 T3218 F3219 e3220 => ?_)
                    have F3221 := F3196.trans F3219 (by decide)
                    have ct3222 : rf_ct 0 (upd f2 (Int32.toNatClampNeg z3211) (m2485 14)) := ⟨(sf_eqL (Eq.trans (sf_upd_ne (j := Int32.toNatClampNeg 0) B3213 (by decide) (by decide)) rfl) ct4.1), (sf_eqL (Eq.trans (sf_upd_ne (j := Int32.toNatClampNeg 1) B3213 (by decide) (by decide)) rfl) (sf_weak B2482 (by decide) (by decide)))⟩
                    have bd3223 : (m3188 17).toInt = 0 → rf_bd 0 (upd f2 (Int32.toNatClampNeg z3211) (m2485 14)) := fun z => (sf_pos B3197 (by decide) z)
                    refine pm_R_lo pm_M185 (pc' := 52) (ls' := [.ref 41, .int 1, .int 42, .int 3, .int 16, .int 0, .int (f2 1), .int 1]) (st' := []) rfl rfl rfl ?_
                    refine pm_R_br pm_M185 (pc' := 19) rfl rfl ?_
                    refine pm_R_lo pm_M185 (pc' := 21) rfl rfl rfl ?_
                    refine pm_R_lo pm_M185 (pc' := 22) rfl rfl rfl ?_
                    refine pm_R_br pm_M185 (pc' := 25) (st' := []) rfl rfl ?_
                    refine pm_R_lo pm_M185 (pc' := 26) rfl rfl rfl ?_
                    refine rf_R_get pm_M185 T3218 (pc' := 29) (v := .ref 51) rfl rfl rfl rfl ?_
                    refine pm_R_lo pm_M185 (pc' := 30) rfl rfl rfl ?_
                    refine pm_R_lo pm_M185 (pc' := 31) rfl rfl rfl ?_
                    refine pm_R_lo pm_M185 (pc' := 33) rfl rfl rfl ?_
                    refine sf_R_imulV pm_M185 (pc' := 34) rfl rfl sf_k3 B2482 (by decide) (by decide) (by decide) e3206 ?_
                    refine sf_R_iaddV pm_M185 (pc' := 35) rfl rfl sf_k42 B3207 (by decide) (by decide) e3209 ?_
                    refine pm_R_lo pm_M185 (pc' := 37) rfl rfl rfl ?_
                    refine sf_R_iadd pm_M185 (pc' := 38) rfl rfl B3210 sf_k1 (by decide) (by decide) (fun z3224 e3225 B3226 => ?_)
                    refine pm_R_lo pm_M185 (pc' := 39) rfl rfl rfl ?_
                    refine rf_R_get pm_M185 T3218 (pc' := 42) (v := .ref 52) rfl rfl rfl rfl ?_
                    refine pm_R_lo pm_M185 (pc' := 44) rfl rfl rfl ?_
                    refine pm_R_lo pm_M185 (pc' := 46) rfl rfl rfl ?_
                    refine pm_R_op pm_M185 (pc' := 47) (st' := [.int 1, .ref 52, .int z3224, .ref 51]) rfl rfl rfl ?_
                    have e3227 := (F3219.cell (by decide) e3214)
                    refine pm_R_iald pm_M185 (pc' := 48) (v := (m3078 14)) rfl e3227 (Nat.lt_of_lt_of_le (by decide) T3218.1) rfl (Eq.trans (show (upd (upd (upd f2508 (Int32.toNatClampNeg 0) (m2485 14)) (Int32.toNatClampNeg 1) (m3078 14)) (Int32.toNatClampNeg 2) (m3132 14)) (Int32.toNatClampNeg 1) = (upd (upd f2508 (Int32.toNatClampNeg 0) (m2485 14)) (Int32.toNatClampNeg 1) (m3078 14)) (Int32.toNatClampNeg 1) from rfl) rfl) rfl ?_
                    refine rf_R_ist pm_M185 T3218 (pc' := 49) rfl e3220 (by decide) (by decide) (sf_in B3226 (by decide) (by decide)) ⟨_, rfl⟩ rfl (fun h3230 T3231 F3232 e3233 => ?_)
                    have F3234 := F3221.trans F3232 (by decide)
                    have ct3235 : rf_ct 0 (upd (upd f2 (Int32.toNatClampNeg z3211) (m2485 14)) (Int32.toNatClampNeg z3224) (m3078 14)) := ⟨(sf_eqL (Eq.trans (sf_upd_ne (j := Int32.toNatClampNeg 0) B3226 (by decide) (by decide)) (Eq.trans (sf_upd_ne (j := Int32.toNatClampNeg 0) B3213 (by decide) (by decide)) rfl)) ct4.1), (sf_eqL (Eq.trans (sf_upd_ne (j := Int32.toNatClampNeg 1) B3226 (by decide) (by decide)) (Eq.trans (sf_upd_ne (j := Int32.toNatClampNeg 1) B3213 (by decide) (by decide)) rfl)) (sf_weak B2482 (by decide) (by decide)))⟩
                    have bd3236 : (m3188 17).toInt = 0 → rf_bd 0 (upd (upd f2 (Int32.toNatClampNeg z3211) (m2485 14)) (Int32.toNatClampNeg z3224) (m3078 14)) := fun z => (sf_pos B3197 (by decide) z)
                    refine pm_R_lo pm_M185 (pc' := 52) (ls' := [.ref 41, .int 1, .int 42, .int 3, .int 16, .int 0, .int (f2 1), .int 2]) (st' := []) rfl rfl rfl ?_
                    refine pm_R_br pm_M185 (pc' := 19) rfl rfl ?_
                    refine pm_R_lo pm_M185 (pc' := 21) rfl rfl rfl ?_
                    refine pm_R_lo pm_M185 (pc' := 22) rfl rfl rfl ?_
                    refine pm_R_br pm_M185 (pc' := 25) (st' := []) rfl rfl ?_
                    refine pm_R_lo pm_M185 (pc' := 26) rfl rfl rfl ?_
                    refine rf_R_get pm_M185 T3231 (pc' := 29) (v := .ref 51) rfl rfl rfl rfl ?_
                    refine pm_R_lo pm_M185 (pc' := 30) rfl rfl rfl ?_
                    refine pm_R_lo pm_M185 (pc' := 31) rfl rfl rfl ?_
                    refine pm_R_lo pm_M185 (pc' := 33) rfl rfl rfl ?_
                    refine sf_R_imulV pm_M185 (pc' := 34) rfl rfl sf_k3 B2482 (by decide) (by decide) (by decide) e3206 ?_
                    refine sf_R_iaddV pm_M185 (pc' := 35) rfl rfl sf_k42 B3207 (by decide) (by decide) e3209 ?_
                    refine pm_R_lo pm_M185 (pc' := 37) rfl rfl rfl ?_
                    refine sf_R_iadd pm_M185 (pc' := 38) rfl rfl B3210 sf_k2 (by decide) (by decide) (fun z3237 e3238 B3239 => ?_)
                    refine pm_R_lo pm_M185 (pc' := 39) rfl rfl rfl ?_
                    refine rf_R_get pm_M185 T3231 (pc' := 42) (v := .ref 52) rfl rfl rfl rfl ?_
                    refine pm_R_lo pm_M185 (pc' := 44) rfl rfl rfl ?_
                    refine pm_R_lo pm_M185 (pc' := 46) rfl rfl rfl ?_
                    refine pm_R_op pm_M185 (pc' := 47) (st' := [.int 2, .ref 52, .int z3237, .ref 51]) rfl rfl rfl ?_
                    have e3240 := (F3232.cell (by decide) e3227)
                    refine pm_R_iald pm_M185 (pc' := 48) (v := (m3132 14)) rfl e3240 (Nat.lt_of_lt_of_le (by decide) T3231.1) rfl rfl rfl ?_
                    refine rf_R_ist pm_M185 T3231 (pc' := 49) rfl e3233 (by decide) (by decide) (sf_in B3239 (by decide) (by decide)) ⟨_, rfl⟩ rfl (fun h3243 T3244 F3245 e3246 => ?_)
                    have F3247 := F3234.trans F3245 (by decide)
                    have ct3248 : rf_ct 0 (upd (upd (upd f2 (Int32.toNatClampNeg z3211) (m2485 14)) (Int32.toNatClampNeg z3224) (m3078 14)) (Int32.toNatClampNeg z3237) (m3132 14)) := ⟨(sf_eqL (Eq.trans (sf_upd_ne (j := Int32.toNatClampNeg 0) B3239 (by decide) (by decide)) (Eq.trans (sf_upd_ne (j := Int32.toNatClampNeg 0) B3226 (by decide) (by decide)) (Eq.trans (sf_upd_ne (j := Int32.toNatClampNeg 0) B3213 (by decide) (by decide)) rfl))) ct4.1), (sf_eqL (Eq.trans (sf_upd_ne (j := Int32.toNatClampNeg 1) B3239 (by decide) (by decide)) (Eq.trans (sf_upd_ne (j := Int32.toNatClampNeg 1) B3226 (by decide) (by decide)) (Eq.trans (sf_upd_ne (j := Int32.toNatClampNeg 1) B3213 (by decide) (by decide)) rfl))) (sf_weak B2482 (by decide) (by decide)))⟩
                    have bd3249 : (m3188 17).toInt = 0 → rf_bd 0 (upd (upd (upd f2 (Int32.toNatClampNeg z3211) (m2485 14)) (Int32.toNatClampNeg z3224) (m3078 14)) (Int32.toNatClampNeg z3237) (m3132 14)) := fun z => (sf_pos B3197 (by decide) z)
                    refine pm_R_lo pm_M185 (pc' := 52) (ls' := [.ref 41, .int 1, .int 42, .int 3, .int 16, .int 0, .int (f2 1), .int 3]) (st' := []) rfl rfl rfl ?_
                    refine pm_R_br pm_M185 (pc' := 19) rfl rfl ?_
                    refine pm_R_lo pm_M185 (pc' := 21) rfl rfl rfl ?_
                    refine pm_R_lo pm_M185 (pc' := 22) rfl rfl rfl ?_
                    refine pm_R_br pm_M185 (pc' := 55) (st' := []) rfl rfl ?_
                    refine pm_R_lo pm_M185 (pc' := 56) rfl rfl rfl ?_
                    refine rf_R_get pm_M185 T3244 (pc' := 59) (v := .ref 51) rfl rfl rfl rfl ?_
                    refine pm_R_lo pm_M185 (pc' := 60) rfl rfl rfl ?_
                    refine pm_R_op pm_M185 (pc' := 61) (st' := [.int 1, .ref 51, .int 1, .ref 51]) rfl rfl rfl ?_
                    refine pm_R_iald pm_M185 (pc' := 62) (v := (f2 1)) rfl e3246 (Nat.lt_of_lt_of_le (by decide) T3244.1) rfl (Eq.trans (sf_upd_ne (j := Int32.toNatClampNeg 1) B3239 (by decide) (by decide)) (Eq.trans (sf_upd_ne (j := Int32.toNatClampNeg 1) B3226 (by decide) (by decide)) (Eq.trans (sf_upd_ne (j := Int32.toNatClampNeg 1) B3213 (by decide) (by decide)) rfl))) rfl ?_
                    refine pm_R_op pm_M185 (pc' := 63) (st' := [.int 1, .int (f2 1), .int 1, .ref 51]) rfl rfl rfl ?_
                    refine sf_R_iadd pm_M185 (pc' := 64) rfl rfl B2482 sf_k1 (by decide) (by decide) (fun z3252 e3253 B3254 => ?_)
                    refine rf_R_ist pm_M185 T3244 (pc' := 65) rfl e3246 (by decide) (by decide) rfl ⟨_, rfl⟩ rfl (fun h3255 T3256 F3257 e3258 => ?_)
                    have F3259 := F3247.trans F3257 (by decide)
                    have ct3260 : rf_ct 0 (upd (upd (upd (upd f2 (Int32.toNatClampNeg z3211) (m2485 14)) (Int32.toNatClampNeg z3224) (m3078 14)) (Int32.toNatClampNeg z3237) (m3132 14)) (Int32.toNatClampNeg 1) z3252) := ⟨(sf_eqL (Eq.trans (show (upd (upd (upd (upd f2 (Int32.toNatClampNeg z3211) (m2485 14)) (Int32.toNatClampNeg z3224) (m3078 14)) (Int32.toNatClampNeg z3237) (m3132 14)) (Int32.toNatClampNeg 1) z3252) (Int32.toNatClampNeg 0) = (upd (upd (upd f2 (Int32.toNatClampNeg z3211) (m2485 14)) (Int32.toNatClampNeg z3224) (m3078 14)) (Int32.toNatClampNeg z3237) (m3132 14)) (Int32.toNatClampNeg 0) from rfl) (Eq.trans (sf_upd_ne (j := Int32.toNatClampNeg 0) B3239 (by decide) (by decide)) (Eq.trans (sf_upd_ne (j := Int32.toNatClampNeg 0) B3226 (by decide) (by decide)) (Eq.trans (sf_upd_ne (j := Int32.toNatClampNeg 0) B3213 (by decide) (by decide)) rfl)))) ct4.1), (sf_eqL rfl (sf_weak B3254 (by decide) (by decide)))⟩
                    have bd3261 : (m3188 17).toInt = 0 → rf_bd 0 (upd (upd (upd (upd f2 (Int32.toNatClampNeg z3211) (m2485 14)) (Int32.toNatClampNeg z3224) (m3078 14)) (Int32.toNatClampNeg z3237) (m3132 14)) (Int32.toNatClampNeg 1) z3252) := fun z => (sf_pos B3197 (by decide) z)
                    refine pm_R_ret pm_M185 (r := none) rfl rfl ?_
                    show pm_R _ 187 189 [.ref 41, .long a0, pm_no, .int a1] [] _ _
                    refine pm_R_op pm_M187 (pc' := 190) (st' := [.int 1]) (pm_q187_1 (Nat.le_of_ble_eq_true rfl)) rfl rfl ?_
                    have B3262 : sf_B 0 600 (m3188 10) := T3256.2.2.1 10
                    exact pm_R_ret pm_M187 (r := some (.int 1)) (pm_q187_1 (Nat.le_of_ble_eq_true rfl)) rfl (K1 m3188 w3189 h3255 T3256 F3259 W3200 (⟨(upd (upd (upd (upd f2 (Int32.toNatClampNeg z3211) (m2485 14)) (Int32.toNatClampNeg z3224) (m3078 14)) (Int32.toNatClampNeg z3237) (m3132 14)) (Int32.toNatClampNeg 1) z3252), e3258, ct3260, fun z => (sf_pos B3197 (by decide) z)⟩) (sf_aux96 _ _ _ _ _ _ _ X2491 X3084 X3138 X3194))
                  · have B3263 : sf_B 0 49 (m3132 14) := sf_leL (Int32.not_lt.mp c3155) B3148 sf_k49
                    refine pm_R_lo pm_M183 (pc' := 32) rfl rfl rfl ?_
                    refine rf_R_get pm_M183 T3151 (pc' := 35) (v := .int (m3132 14)) rfl rfl rfl rfl ?_
                    refine pm_R_lo pm_M183 (pc' := 36) rfl rfl rfl ?_
                    refine pm_R_icmp pm_M183 (t := 53) (pc' := 39) rfl rfl rfl (fun c3264 => ?_) (fun c3264 => absurd (Classical.not_not.mp c3264) (sf_neq1 B3263 sf_kn1 (by decide)))
                    skip
                    refine pm_R_lo pm_M183 (pc' := 54) rfl rfl rfl ?_
                    refine pm_R_cv pm_M183 (pc' := 57) (a := 41) (ra := []) (rest := []) (ls' := [.ref 41, pm_no, pm_no]) rfl rfl (Or.inl rfl) pm_M179 T3151.2.1 rfl (by decide) (Nat.lt_of_lt_of_le (by decide) T3151.1) rfl rfl (Nat.le_of_ble_eq_true rfl) rfl rfl ?_
                    have B3265 : sf_B 0 600 (m3132 10) := T3151.2.2.1 10
                    refine rf_c179 (d := d + 0) T3151  (fun m3268 w3269 h3270 T3271 F3272 W3273 X3274 X3275 => ?_)
                    have F3276 := F3154.trans F3272 (by decide)
                    have B3277 : sf_B 1 4 (m3268 17) := by rw [W3273 17 (by decide)]; exact B3141
                    have ek3278 : (m3268 17).toInt = ((m3105 17)).toInt := by rw [W3273 17 (by decide)]; exact ek3142
                    have B3279 : sf_B 0 0 (m3268 22) := by rw [W3273 22 (by decide)]; exact B3143
                    have W3280 : rf_W [10, 12, 13, 14, 16, 17, 18, 22] m m3268 := W3144.trans W3273 (by decide)
                    show pm_R _ 183 57 [.ref 41, .int 2, .int 49, .int (-1)] [] _ _
                    refine pm_R_op pm_M183 (pc' := 58) (st' := [.int 1]) rfl rfl rfl ?_
                    refine pm_R_ret pm_M183 (r := some (.int 1)) rfl rfl ?_
                    show pm_R _ 187 173 [.ref 41, .long a0, pm_no, .int a1] [.int 1] _ _
                    refine pm_R_br pm_M187 (pc' := 178) (st' := []) (pm_q187_1 (Nat.le_of_ble_eq_true rfl)) rfl ?_
                    refine pm_R_lo pm_M187 (pc' := 179) (pm_q187_1 (Nat.le_of_ble_eq_true rfl)) rfl rfl ?_
                    refine pm_R_op pm_M187 (pc' := 180) (st' := [.int 1, .ref 41]) (pm_q187_1 (Nat.le_of_ble_eq_true rfl)) rfl rfl ?_
                    refine pm_R_op pm_M187 (pc' := 182) (st' := [.int 42, .int 1, .ref 41]) (pm_q187_1 (Nat.le_of_ble_eq_true rfl)) rfl rfl ?_
                    refine pm_R_op pm_M187 (pc' := 183) (st' := [.int 3, .int 42, .int 1, .ref 41]) (pm_q187_1 (Nat.le_of_ble_eq_true rfl)) rfl rfl ?_
                    refine pm_R_op pm_M187 (pc' := 185) (st' := [.int 16, .int 3, .int 42, .int 1, .ref 41]) (pm_q187_1 (Nat.le_of_ble_eq_true rfl)) rfl rfl ?_
                    refine pm_R_op pm_M187 (pc' := 186) (st' := [.int 0, .int 16, .int 3, .int 42, .int 1, .ref 41]) (pm_q187_1 (Nat.le_of_ble_eq_true rfl)) rfl rfl ?_
                    refine pm_R_cv pm_M187 (pc' := 189) (a := 41) (ra := [.int 0, .int 16, .int 3, .int 42, .int 1]) (rest := []) (ls' := [.ref 41, .int 1, .int 42, .int 3, .int 16, .int 0, pm_no, pm_no]) (pm_q187_1 (Nat.le_of_ble_eq_true rfl)) rfl (Or.inl rfl) pm_M185 T3271.2.1 rfl (by decide) (Nat.lt_of_lt_of_le (by decide) T3271.1) rfl rfl (Nat.le_of_ble_eq_true rfl) rfl rfl ?_
                    refine pm_R_lo pm_M185 (pc' := 1) rfl rfl rfl ?_
                    refine rf_R_get pm_M185 T3271 (pc' := 4) (v := .ref 51) rfl rfl rfl rfl ?_
                    refine pm_R_lo pm_M185 (pc' := 5) rfl rfl rfl ?_
                    have e3281 := (F3272.cell (by decide) (F3152.cell (by decide) (F3136.cell (by decide) (F3118.cell (by decide) (F3109.cell (by decide) (F3097.cell (by decide) (F3082.cell (by decide) (F2513.cell (by decide) (F2489.cell (by decide) e3)))))))))
                    refine pm_R_iald pm_M185 (pc' := 6) (v := (f2 1)) rfl e3281 (Nat.lt_of_lt_of_le (by decide) T3271.1) rfl rfl rfl ?_
                    refine pm_R_lo pm_M185 (pc' := 8) (ls' := [.ref 41, .int 1, .int 42, .int 3, .int 16, .int 0, .int (f2 1), pm_no]) (st' := []) rfl rfl rfl ?_
                    refine pm_R_lo pm_M185 (pc' := 10) rfl rfl rfl ?_
                    refine pm_R_lo pm_M185 (pc' := 12) rfl rfl rfl ?_
                    refine pm_R_icmp pm_M185 (t := 16) (pc' := 15) rfl rfl rfl (fun c3284 => ?_) (fun c3284 => absurd (Classical.not_not.mp c3284) (sf_neq2 B2482 sf_k16 (by decide)))
                    skip
                    refine pm_R_op pm_M185 (pc' := 17) (st' := [.int 0]) rfl rfl rfl ?_
                    refine pm_R_lo pm_M185 (pc' := 19) (ls' := [.ref 41, .int 1, .int 42, .int 3, .int 16, .int 0, .int (f2 1), .int 0]) (st' := []) rfl rfl rfl ?_
                    refine pm_R_lo pm_M185 (pc' := 21) rfl rfl rfl ?_
                    refine pm_R_lo pm_M185 (pc' := 22) rfl rfl rfl ?_
                    refine pm_R_br pm_M185 (pc' := 25) (st' := []) rfl rfl ?_
                    refine pm_R_lo pm_M185 (pc' := 26) rfl rfl rfl ?_
                    refine rf_R_get pm_M185 T3271 (pc' := 29) (v := .ref 51) rfl rfl rfl rfl ?_
                    refine pm_R_lo pm_M185 (pc' := 30) rfl rfl rfl ?_
                    refine pm_R_lo pm_M185 (pc' := 31) rfl rfl rfl ?_
                    refine pm_R_lo pm_M185 (pc' := 33) rfl rfl rfl ?_
                    refine sf_R_imul pm_M185 (pc' := 34) rfl rfl sf_k3 B2482 (by decide) (by decide) (by decide) (fun z3285 e3286 B3287 => ?_)
                    refine sf_R_iadd pm_M185 (pc' := 35) rfl rfl sf_k42 B3287 (by decide) (by decide) (fun z3288 e3289 B3290 => ?_)
                    refine pm_R_lo pm_M185 (pc' := 37) rfl rfl rfl ?_
                    refine sf_R_iadd pm_M185 (pc' := 38) rfl rfl B3290 sf_k0 (by decide) (by decide) (fun z3291 e3292 B3293 => ?_)
                    refine pm_R_lo pm_M185 (pc' := 39) rfl rfl rfl ?_
                    refine rf_R_get pm_M185 T3271 (pc' := 42) (v := .ref 52) rfl rfl rfl rfl ?_
                    refine pm_R_lo pm_M185 (pc' := 44) rfl rfl rfl ?_
                    refine pm_R_lo pm_M185 (pc' := 46) rfl rfl rfl ?_
                    refine pm_R_op pm_M185 (pc' := 47) (st' := [.int 0, .ref 52, .int z3291, .ref 51]) rfl rfl rfl ?_
                    have e3294 := (F3272.cell (by decide) e3153)
                    refine pm_R_iald pm_M185 (pc' := 48) (v := (m2485 14)) rfl e3294 (Nat.lt_of_lt_of_le (by decide) T3271.1) rfl (Eq.trans (show (upd (upd (upd f2508 (Int32.toNatClampNeg 0) (m2485 14)) (Int32.toNatClampNeg 1) (m3078 14)) (Int32.toNatClampNeg 2) (m3132 14)) (Int32.toNatClampNeg 0) = (upd (upd f2508 (Int32.toNatClampNeg 0) (m2485 14)) (Int32.toNatClampNeg 1) (m3078 14)) (Int32.toNatClampNeg 0) from rfl) (Eq.trans (show (upd (upd f2508 (Int32.toNatClampNeg 0) (m2485 14)) (Int32.toNatClampNeg 1) (m3078 14)) (Int32.toNatClampNeg 0) = (upd f2508 (Int32.toNatClampNeg 0) (m2485 14)) (Int32.toNatClampNeg 0) from rfl) rfl)) rfl ?_
                    refine rf_R_ist pm_M185 T3271 (pc' := 49) rfl e3281 (by decide) (by decide) (sf_in B3293 (by decide) (by decide)) ⟨_, rfl⟩ rfl (fun h3297 T3298 F3299 e3300 => ?_)
                    have F3301 := F3276.trans F3299 (by decide)
                    have ct3302 : rf_ct 0 (upd f2 (Int32.toNatClampNeg z3291) (m2485 14)) := ⟨(sf_eqL (Eq.trans (sf_upd_ne (j := Int32.toNatClampNeg 0) B3293 (by decide) (by decide)) rfl) ct4.1), (sf_eqL (Eq.trans (sf_upd_ne (j := Int32.toNatClampNeg 1) B3293 (by decide) (by decide)) rfl) (sf_weak B2482 (by decide) (by decide)))⟩
                    have bd3303 : (m3268 17).toInt = 0 → rf_bd 0 (upd f2 (Int32.toNatClampNeg z3291) (m2485 14)) := fun z => (sf_pos B3277 (by decide) z)
                    refine pm_R_lo pm_M185 (pc' := 52) (ls' := [.ref 41, .int 1, .int 42, .int 3, .int 16, .int 0, .int (f2 1), .int 1]) (st' := []) rfl rfl rfl ?_
                    refine pm_R_br pm_M185 (pc' := 19) rfl rfl ?_
                    refine pm_R_lo pm_M185 (pc' := 21) rfl rfl rfl ?_
                    refine pm_R_lo pm_M185 (pc' := 22) rfl rfl rfl ?_
                    refine pm_R_br pm_M185 (pc' := 25) (st' := []) rfl rfl ?_
                    refine pm_R_lo pm_M185 (pc' := 26) rfl rfl rfl ?_
                    refine rf_R_get pm_M185 T3298 (pc' := 29) (v := .ref 51) rfl rfl rfl rfl ?_
                    refine pm_R_lo pm_M185 (pc' := 30) rfl rfl rfl ?_
                    refine pm_R_lo pm_M185 (pc' := 31) rfl rfl rfl ?_
                    refine pm_R_lo pm_M185 (pc' := 33) rfl rfl rfl ?_
                    refine sf_R_imulV pm_M185 (pc' := 34) rfl rfl sf_k3 B2482 (by decide) (by decide) (by decide) e3286 ?_
                    refine sf_R_iaddV pm_M185 (pc' := 35) rfl rfl sf_k42 B3287 (by decide) (by decide) e3289 ?_
                    refine pm_R_lo pm_M185 (pc' := 37) rfl rfl rfl ?_
                    refine sf_R_iadd pm_M185 (pc' := 38) rfl rfl B3290 sf_k1 (by decide) (by decide) (fun z3304 e3305 B3306 => ?_)
                    refine pm_R_lo pm_M185 (pc' := 39) rfl rfl rfl ?_
                    refine rf_R_get pm_M185 T3298 (pc' := 42) (v := .ref 52) rfl rfl rfl rfl ?_
                    refine pm_R_lo pm_M185 (pc' := 44) rfl rfl rfl ?_
                    refine pm_R_lo pm_M185 (pc' := 46) rfl rfl rfl ?_
                    refine pm_R_op pm_M185 (pc' := 47) (st' := [.int 1, .ref 52, .int z3304, .ref 51]) rfl rfl rfl ?_
                    have e3307 := (F3299.cell (by decide) e3294)
                    refine pm_R_iald pm_M185 (pc' := 48) (v := (m3078 14)) rfl e3307 (Nat.lt_of_lt_of_le (by decide) T3298.1) rfl (Eq.trans (show (upd (upd (upd f2508 (Int32.toNatClampNeg 0) (m2485 14)) (Int32.toNatClampNeg 1) (m3078 14)) (Int32.toNatClampNeg 2) (m3132 14)) (Int32.toNatClampNeg 1) = (upd (upd f2508 (Int32.toNatClampNeg 0) (m2485 14)) (Int32.toNatClampNeg 1) (m3078 14)) (Int32.toNatClampNeg 1) from rfl) rfl) rfl ?_
                    refine rf_R_ist pm_M185 T3298 (pc' := 49) rfl e3300 (by decide) (by decide) (sf_in B3306 (by decide) (by decide)) ⟨_, rfl⟩ rfl (fun h3310 T3311 F3312 e3313 => ?_)
                    have F3314 := F3301.trans F3312 (by decide)
                    have ct3315 : rf_ct 0 (upd (upd f2 (Int32.toNatClampNeg z3291) (m2485 14)) (Int32.toNatClampNeg z3304) (m3078 14)) := ⟨(sf_eqL (Eq.trans (sf_upd_ne (j := Int32.toNatClampNeg 0) B3306 (by decide) (by decide)) (Eq.trans (sf_upd_ne (j := Int32.toNatClampNeg 0) B3293 (by decide) (by decide)) rfl)) ct4.1), (sf_eqL (Eq.trans (sf_upd_ne (j := Int32.toNatClampNeg 1) B3306 (by decide) (by decide)) (Eq.trans (sf_upd_ne (j := Int32.toNatClampNeg 1) B3293 (by decide) (by decide)) rfl)) (sf_weak B2482 (by decide) (by decide)))⟩
                    have bd3316 : (m3268 17).toInt = 0 → rf_bd 0 (upd (upd f2 (Int32.toNatClampNeg z3291) (m2485 14)) (Int32.toNatClampNeg z3304) (m3078 14)) := fun z => (sf_pos B3277 (by decide) z)
                    refine pm_R_lo pm_M185 (pc' := 52) (ls' := [.ref 41, .int 1, .int 42, .int 3, .int 16, .int 0, .int (f2 1), .int 2]) (st' := []) rfl rfl rfl ?_
                    refine pm_R_br pm_M185 (pc' := 19) rfl rfl ?_
                    refine pm_R_lo pm_M185 (pc' := 21) rfl rfl rfl ?_
                    refine pm_R_lo pm_M185 (pc' := 22) rfl rfl rfl ?_
                    refine pm_R_br pm_M185 (pc' := 25) (st' := []) rfl rfl ?_
                    refine pm_R_lo pm_M185 (pc' := 26) rfl rfl rfl ?_
                    refine rf_R_get pm_M185 T3311 (pc' := 29) (v := .ref 51) rfl rfl rfl rfl ?_
                    refine pm_R_lo pm_M185 (pc' := 30) rfl rfl rfl ?_
                    refine pm_R_lo pm_M185 (pc' := 31) rfl rfl rfl ?_
                    refine pm_R_lo pm_M185 (pc' := 33) rfl rfl rfl ?_
                    refine sf_R_imulV pm_M185 (pc' := 34) rfl rfl sf_k3 B2482 (by decide) (by decide) (by decide) e3286 ?_
                    refine sf_R_iaddV pm_M185 (pc' := 35) rfl rfl sf_k42 B3287 (by decide) (by decide) e3289 ?_
                    refine pm_R_lo pm_M185 (pc' := 37) rfl rfl rfl ?_
                    refine sf_R_iadd pm_M185 (pc' := 38) rfl rfl B3290 sf_k2 (by decide) (by decide) (fun z3317 e3318 B3319 => ?_)
                    refine pm_R_lo pm_M185 (pc' := 39) rfl rfl rfl ?_
                    refine rf_R_get pm_M185 T3311 (pc' := 42) (v := .ref 52) rfl rfl rfl rfl ?_
                    refine pm_R_lo pm_M185 (pc' := 44) rfl rfl rfl ?_
                    refine pm_R_lo pm_M185 (pc' := 46) rfl rfl rfl ?_
                    refine pm_R_op pm_M185 (pc' := 47) (st' := [.int 2, .ref 52, .int z3317, .ref 51]) rfl rfl rfl ?_
                    have e3320 := (F3312.cell (by decide) e3307)
                    refine pm_R_iald pm_M185 (pc' := 48) (v := (m3132 14)) rfl e3320 (Nat.lt_of_lt_of_le (by decide) T3311.1) rfl rfl rfl ?_
                    refine rf_R_ist pm_M185 T3311 (pc' := 49) rfl e3313 (by decide) (by decide) (sf_in B3319 (by decide) (by decide)) ⟨_, rfl⟩ rfl (fun h3323 T3324 F3325 e3326 => ?_)
                    have F3327 := F3314.trans F3325 (by decide)
                    have ct3328 : rf_ct 0 (upd (upd (upd f2 (Int32.toNatClampNeg z3291) (m2485 14)) (Int32.toNatClampNeg z3304) (m3078 14)) (Int32.toNatClampNeg z3317) (m3132 14)) := ⟨(sf_eqL (Eq.trans (sf_upd_ne (j := Int32.toNatClampNeg 0) B3319 (by decide) (by decide)) (Eq.trans (sf_upd_ne (j := Int32.toNatClampNeg 0) B3306 (by decide) (by decide)) (Eq.trans (sf_upd_ne (j := Int32.toNatClampNeg 0) B3293 (by decide) (by decide)) rfl))) ct4.1), (sf_eqL (Eq.trans (sf_upd_ne (j := Int32.toNatClampNeg 1) B3319 (by decide) (by decide)) (Eq.trans (sf_upd_ne (j := Int32.toNatClampNeg 1) B3306 (by decide) (by decide)) (Eq.trans (sf_upd_ne (j := Int32.toNatClampNeg 1) B3293 (by decide) (by decide)) rfl))) (sf_weak B2482 (by decide) (by decide)))⟩
                    have bd3329 : (m3268 17).toInt = 0 → rf_bd 0 (upd (upd (upd f2 (Int32.toNatClampNeg z3291) (m2485 14)) (Int32.toNatClampNeg z3304) (m3078 14)) (Int32.toNatClampNeg z3317) (m3132 14)) := fun z => (sf_pos B3277 (by decide) z)
                    refine pm_R_lo pm_M185 (pc' := 52) (ls' := [.ref 41, .int 1, .int 42, .int 3, .int 16, .int 0, .int (f2 1), .int 3]) (st' := []) rfl rfl rfl ?_
                    refine pm_R_br pm_M185 (pc' := 19) rfl rfl ?_
                    refine pm_R_lo pm_M185 (pc' := 21) rfl rfl rfl ?_
                    refine pm_R_lo pm_M185 (pc' := 22) rfl rfl rfl ?_
                    refine pm_R_br pm_M185 (pc' := 55) (st' := []) rfl rfl ?_
                    refine pm_R_lo pm_M185 (pc' := 56) rfl rfl rfl ?_
                    refine rf_R_get pm_M185 T3324 (pc' := 59) (v := .ref 51) rfl rfl rfl rfl ?_
                    refine pm_R_lo pm_M185 (pc' := 60) rfl rfl rfl ?_
                    refine pm_R_op pm_M185 (pc' := 61) (st' := [.int 1, .ref 51, .int 1, .ref 51]) rfl rfl rfl ?_
                    refine pm_R_iald pm_M185 (pc' := 62) (v := (f2 1)) rfl e3326 (Nat.lt_of_lt_of_le (by decide) T3324.1) rfl (Eq.trans (sf_upd_ne (j := Int32.toNatClampNeg 1) B3319 (by decide) (by decide)) (Eq.trans (sf_upd_ne (j := Int32.toNatClampNeg 1) B3306 (by decide) (by decide)) (Eq.trans (sf_upd_ne (j := Int32.toNatClampNeg 1) B3293 (by decide) (by decide)) rfl))) rfl ?_
                    refine pm_R_op pm_M185 (pc' := 63) (st' := [.int 1, .int (f2 1), .int 1, .ref 51]) rfl rfl rfl ?_
                    refine sf_R_iadd pm_M185 (pc' := 64) rfl rfl B2482 sf_k1 (by decide) (by decide) (fun z3332 e3333 B3334 => ?_)
                    refine rf_R_ist pm_M185 T3324 (pc' := 65) rfl e3326 (by decide) (by decide) rfl ⟨_, rfl⟩ rfl (fun h3335 T3336 F3337 e3338 => ?_)
                    have F3339 := F3327.trans F3337 (by decide)
                    have ct3340 : rf_ct 0 (upd (upd (upd (upd f2 (Int32.toNatClampNeg z3291) (m2485 14)) (Int32.toNatClampNeg z3304) (m3078 14)) (Int32.toNatClampNeg z3317) (m3132 14)) (Int32.toNatClampNeg 1) z3332) := ⟨(sf_eqL (Eq.trans (show (upd (upd (upd (upd f2 (Int32.toNatClampNeg z3291) (m2485 14)) (Int32.toNatClampNeg z3304) (m3078 14)) (Int32.toNatClampNeg z3317) (m3132 14)) (Int32.toNatClampNeg 1) z3332) (Int32.toNatClampNeg 0) = (upd (upd (upd f2 (Int32.toNatClampNeg z3291) (m2485 14)) (Int32.toNatClampNeg z3304) (m3078 14)) (Int32.toNatClampNeg z3317) (m3132 14)) (Int32.toNatClampNeg 0) from rfl) (Eq.trans (sf_upd_ne (j := Int32.toNatClampNeg 0) B3319 (by decide) (by decide)) (Eq.trans (sf_upd_ne (j := Int32.toNatClampNeg 0) B3306 (by decide) (by decide)) (Eq.trans (sf_upd_ne (j := Int32.toNatClampNeg 0) B3293 (by decide) (by decide)) rfl)))) ct4.1), (sf_eqL rfl (sf_weak B3334 (by decide) (by decide)))⟩
                    have bd3341 : (m3268 17).toInt = 0 → rf_bd 0 (upd (upd (upd (upd f2 (Int32.toNatClampNeg z3291) (m2485 14)) (Int32.toNatClampNeg z3304) (m3078 14)) (Int32.toNatClampNeg z3317) (m3132 14)) (Int32.toNatClampNeg 1) z3332) := fun z => (sf_pos B3277 (by decide) z)
                    refine pm_R_ret pm_M185 (r := none) rfl rfl ?_
                    show pm_R _ 187 189 [.ref 41, .long a0, pm_no, .int a1] [] _ _
                    refine pm_R_op pm_M187 (pc' := 190) (st' := [.int 1]) (pm_q187_1 (Nat.le_of_ble_eq_true rfl)) rfl rfl ?_
                    have B3342 : sf_B 0 600 (m3268 10) := T3336.2.2.1 10
                    exact pm_R_ret pm_M187 (r := some (.int 1)) (pm_q187_1 (Nat.le_of_ble_eq_true rfl)) rfl (K1 m3268 w3269 h3335 T3336 F3339 W3280 (⟨(upd (upd (upd (upd f2 (Int32.toNatClampNeg z3291) (m2485 14)) (Int32.toNatClampNeg z3304) (m3078 14)) (Int32.toNatClampNeg z3317) (m3132 14)) (Int32.toNatClampNeg 1) z3332), e3338, ct3340, fun z => (sf_pos B3277 (by decide) z)⟩) (sf_aux97 _ _ _ _ _ _ X2491 X3084 X3138 X3274))
                · skip
                  refine pm_R_lo pm_M183 (pc' := 9) rfl rfl rfl ?_
                  refine pm_R_cv pm_M183 (pc' := 12) (a := 41) (ra := []) (rest := []) (ls' := [.ref 41]) rfl rfl (Or.inl rfl) pm_M184 T3135.2.1 rfl (by decide) (Nat.lt_of_lt_of_le (by decide) T3135.1) rfl rfl (Nat.le_of_ble_eq_true rfl) rfl rfl ?_
                  refine pm_R_lo pm_M184 (pc' := 1) rfl rfl rfl ?_
                  refine pm_R_lo pm_M184 (pc' := 2) rfl rfl rfl ?_
                  have B3343 : sf_B 0 600 (m3132 12) := T3135.2.2.1 12
                  refine rf_R_get pm_M184 T3135 (pc' := 5) (v := .int (m3132 12)) rfl rfl rfl rfl ?_
                  refine rf_R_put pm_M184 T3135 (pc' := 8) rfl rfl rfl (by decide) rfl rfl B3343 rfl rfl (fun h3344 m3347 em3348 T3345 F3346 => ?_)
                  have F3349 := F3140.trans F3346 (by decide)
                  have B3350 : sf_B 1 4 (m3347 17) := by rw [em3348]; exact B3141
                  have ek3351 : (m3347 17).toInt = ((m3105 17)).toInt := by rw [em3348]; exact ek3142
                  have B3352 : sf_B 0 0 (m3347 22) := by rw [em3348]; exact B3143
                  have B3353 : sf_B 0 600 (m3347 16) := by rw [em3348]; exact B3343
                  have ek3354 : (m3347 16).toInt = ((m3132 12)).toInt := by rw [em3348]; rfl
                  have W3355 : rf_W [10, 12, 13, 14, 16, 17, 18, 22] m m3347 := by rw [em3348]; exact W3144.put (by decide)
                  refine pm_R_op pm_M184 (pc' := 9) (st' := [.int 0]) rfl rfl rfl ?_
                  refine pm_R_ret pm_M184 (r := some (.int 0)) rfl rfl ?_
                  show pm_R _ 183 12 [.ref 41, .int 2, .int 49, .int (-1)] [.int 0] _ _
                  refine pm_R_ret pm_M183 (r := some (.int 0)) rfl rfl ?_
                  show pm_R _ 187 173 [.ref 41, .long a0, pm_no, .int a1] [.int 0] _ _
                  refine pm_R_br pm_M187 (pc' := 176) (st' := []) (pm_q187_1 (Nat.le_of_ble_eq_true rfl)) rfl ?_
                  refine pm_R_op pm_M187 (pc' := 177) (st' := [.int 0]) (pm_q187_1 (Nat.le_of_ble_eq_true rfl)) rfl rfl ?_
                  have B3356 : sf_B 0 600 (m3347 10) := T3345.2.2.1 10
                  exact pm_R_ret pm_M187 (r := some (.int 0)) (pm_q187_1 (Nat.le_of_ble_eq_true rfl)) rfl (K0 m3347 w3133 h3344 T3345 F3349 W3355 (sf_aux86 _ _ _ _ _ _ X2491 X3084 X3138))
              · have B3357 : sf_B 0 5 (m3078 14) := sf_leL (Int32.not_lt.mp c3100) B3093 sf_k5
                refine pm_R_lo pm_M183 (pc' := 32) rfl rfl rfl ?_
                refine rf_R_get pm_M183 T3096 (pc' := 35) (v := .int (m3078 14)) rfl rfl rfl rfl ?_
                refine pm_R_lo pm_M183 (pc' := 36) rfl rfl rfl ?_
                refine pm_R_icmp pm_M183 (t := 53) (pc' := 39) rfl rfl rfl (fun c3358 => ?_) (fun c3358 => absurd (Classical.not_not.mp c3358) (sf_neq1 B3357 sf_kn1 (by decide)))
                skip
                refine pm_R_lo pm_M183 (pc' := 54) rfl rfl rfl ?_
                refine pm_R_cv pm_M183 (pc' := 57) (a := 41) (ra := []) (rest := []) (ls' := [.ref 41, pm_no, pm_no]) rfl rfl (Or.inl rfl) pm_M179 T3096.2.1 rfl (by decide) (Nat.lt_of_lt_of_le (by decide) T3096.1) rfl rfl (Nat.le_of_ble_eq_true rfl) rfl rfl ?_
                have B3359 : sf_B 0 600 (m3078 10) := T3096.2.2.1 10
                refine rf_c179 (d := d + 0) T3096  (fun m3362 w3363 h3364 T3365 F3366 W3367 X3368 X3369 => ?_)
                have F3370 := F3099.trans F3366 (by decide)
                have B3371 : sf_B 0 4 (m3362 17) := by rw [W3367 17 (by decide)]; exact B3087
                have ek3372 : (m3362 17).toInt = ((m 17)).toInt := by rw [W3367 17 (by decide)]; exact ek3088
                have W3373 : rf_W [10, 12, 13, 14, 16, 17, 18, 22] m m3362 := W3089.trans W3367 (by decide)
                show pm_R _ 183 57 [.ref 41, .int 1, .int 5, .int (-1)] [] _ _
                refine pm_R_op pm_M183 (pc' := 58) (st' := [.int 1]) rfl rfl rfl ?_
                refine pm_R_ret pm_M183 (r := some (.int 1)) rfl rfl ?_
                show pm_R _ 187 162 [.ref 41, .long a0, pm_no, .int a1] [.int 1] _ _
                refine pm_R_br pm_M187 (pc' := 165) (st' := []) (pm_q187_1 (Nat.le_of_ble_eq_true rfl)) rfl ?_
                refine pm_R_lo pm_M187 (pc' := 166) (pm_q187_1 (Nat.le_of_ble_eq_true rfl)) rfl rfl ?_
                refine pm_R_op pm_M187 (pc' := 167) (st' := [.int 2, .ref 41]) (pm_q187_1 (Nat.le_of_ble_eq_true rfl)) rfl rfl ?_
                refine pm_R_op pm_M187 (pc' := 169) (st' := [.int 49, .int 2, .ref 41]) (pm_q187_1 (Nat.le_of_ble_eq_true rfl)) rfl rfl ?_
                refine pm_R_op pm_M187 (pc' := 170) (st' := [.int (-1), .int 49, .int 2, .ref 41]) (pm_q187_1 (Nat.le_of_ble_eq_true rfl)) rfl rfl ?_
                refine pm_R_cv pm_M187 (pc' := 173) (a := 41) (ra := [.int (-1), .int 49, .int 2]) (rest := []) (ls' := [.ref 41, .int 2, .int 49, .int (-1)]) (pm_q187_1 (Nat.le_of_ble_eq_true rfl)) rfl (Or.inl rfl) pm_M183 T3365.2.1 rfl (by decide) (Nat.lt_of_lt_of_le (by decide) T3365.1) rfl rfl (Nat.le_of_ble_eq_true rfl) rfl rfl ?_
                refine pm_R_lo pm_M183 (pc' := 1) rfl rfl rfl ?_
                have B3374 : sf_B 0 4 (m3362 13) := T3365.2.2.1 13
                refine rf_R_get pm_M183 T3365 (pc' := 4) (v := .int (m3362 13)) rfl rfl rfl rfl ?_
                refine pm_R_op pm_M183 (pc' := 5) (st' := [.int 3, .int (m3362 13)]) rfl rfl rfl ?_
                refine pm_R_icmp pm_M183 (t := 13) (pc' := 8) rfl rfl rfl (fun c3375 => ?_) (fun c3375 => ?_)
                · have B3376 : sf_B 3 3 (m3362 13) := sf_eqL c3375 sf_k3
                  refine pm_R_lo pm_M183 (pc' := 14) rfl rfl rfl ?_
                  refine rf_R_get pm_M183 T3365 (pc' := 17) (v := .ref 52) rfl rfl rfl rfl ?_
                  refine pm_R_lo pm_M183 (pc' := 18) rfl rfl rfl ?_
                  refine pm_R_lo pm_M183 (pc' := 19) rfl rfl rfl ?_
                  have B3377 : sf_B 0 99 (m3362 14) := T3365.2.2.1 14
                  refine rf_R_get pm_M183 T3365 (pc' := 22) (v := .int (m3362 14)) rfl rfl rfl rfl ?_
                  have e3378 := (F3366.cell (by decide) e3098)
                  refine rf_R_ist pm_M183 T3365 (pc' := 23) rfl e3378 (by decide) (by decide) rfl ⟨_, rfl, sf_upd (sf_upd (sf_upd b2510 (sf_weak B2507 (by decide) (by decide)) _) (sf_weak B3093 (by decide) (by decide)) _) (sf_weak B3377 (by decide) (by decide)) _⟩ rfl (fun h3379 T3380 F3381 e3382 => ?_)
                  have F3383 := F3370.trans F3381 (by decide)
                  refine pm_R_lo pm_M183 (pc' := 24) rfl rfl rfl ?_
                  refine rf_R_get pm_M183 T3380 (pc' := 27) (v := .int (m3362 14)) rfl rfl rfl rfl ?_
                  refine pm_R_lo pm_M183 (pc' := 28) rfl rfl rfl ?_
                  refine pm_R_icmp pm_M183 (t := 39) (pc' := 31) rfl rfl rfl (fun c3384 => ?_) (fun c3384 => ?_)
                  · have B3385 : sf_B 50 99 (m3362 14) := sf_ltR c3384 sf_k49 B3377
                    refine pm_R_lo pm_M183 (pc' := 40) rfl rfl rfl ?_
                    refine pm_R_op pm_M183 (pc' := 41) (st' := [.int 2, .ref 41]) rfl rfl rfl ?_
                    refine pm_R_lo pm_M183 (pc' := 42) rfl rfl rfl ?_
                    have B3386 : sf_B 0 600 (m3362 12) := T3380.2.2.1 12
                    refine rf_R_get pm_M183 T3380 (pc' := 45) (v := .int (m3362 12)) rfl rfl rfl rfl ?_
                    refine pm_R_cv pm_M183 (pc' := 48) (a := 41) (ra := [.int (m3362 12), .int 2]) (rest := []) (ls' := [.ref 41, .int 2, .int (m3362 12)]) rfl rfl (Or.inl rfl) pm_M182 T3380.2.1 rfl (by decide) (Nat.lt_of_lt_of_le (by decide) T3380.1) rfl rfl (Nat.le_of_ble_eq_true rfl) rfl rfl ?_
                    refine rf_c182 (d := d + 1) T3380 (sf_weak sf_k2 (by decide) (by decide)) B3386 (fun m3389 w3390 h3391 T3392 F3393 W3394 B3395 => ?_)
                    have F3396 := F3383.trans F3393 (by decide)
                    have B3397 : sf_B 3 3 (m3389 13) := by rw [W3394 13 (by decide)]; exact B3376
                    have B3398 : sf_B 50 99 (m3389 14) := by rw [W3394 14 (by decide)]; exact B3385
                    have W3399 : rf_W [10, 12, 13, 14, 16, 17, 18, 22] m m3389 := W3373.trans W3394 (by decide)
                    show pm_R _ 183 48 [.ref 41, .int 2, .int 49, .int (-1)] [] _ _
                    refine pm_R_lo pm_M183 (pc' := 49) rfl rfl rfl ?_
                    refine pm_R_op pm_M183 (pc' := 50) (st' := [.int 0, .ref 41]) rfl rfl rfl ?_
                    refine rf_R_put pm_M183 T3392 (pc' := 53) rfl rfl rfl (by decide) rfl rfl (sf_weak sf_k0 (by decide) (by decide)) rfl rfl (fun h3400 m3403 em3404 T3401 F3402 => ?_)
                    have F3405 := F3396.trans F3402 (by decide)
                    have B3406 : sf_B 3 3 (m3403 13) := by rw [em3404]; exact B3397
                    have B3407 : sf_B 50 99 (m3403 14) := by rw [em3404]; exact B3398
                    have B3408 : sf_B 1 4 (m3403 17) := by rw [em3404]; exact B3395
                    have ek3409 : (m3403 17).toInt = ((m3389 17)).toInt := by rw [em3404]; rfl
                    have B3410 : sf_B 0 0 (m3403 22) := by rw [em3404]; exact sf_k0
                    have W3412 : rf_W [10, 12, 13, 14, 16, 17, 18, 22] m m3403 := by rw [em3404]; exact W3399.put (by decide)
                    refine pm_R_lo pm_M183 (pc' := 54) rfl rfl rfl ?_
                    refine pm_R_cv pm_M183 (pc' := 57) (a := 41) (ra := []) (rest := []) (ls' := [.ref 41, pm_no, pm_no]) rfl rfl (Or.inl rfl) pm_M179 T3401.2.1 rfl (by decide) (Nat.lt_of_lt_of_le (by decide) T3401.1) rfl rfl (Nat.le_of_ble_eq_true rfl) rfl rfl ?_
                    have B3413 : sf_B 0 600 (m3403 10) := T3401.2.2.1 10
                    refine rf_c179 (d := d + 0) T3401  (fun m3416 w3417 h3418 T3419 F3420 W3421 X3422 X3423 => ?_)
                    have F3424 := F3405.trans F3420 (by decide)
                    have B3425 : sf_B 1 4 (m3416 17) := by rw [W3421 17 (by decide)]; exact B3408
                    have ek3426 : (m3416 17).toInt = ((m3389 17)).toInt := by rw [W3421 17 (by decide)]; exact ek3409
                    have B3427 : sf_B 0 0 (m3416 22) := by rw [W3421 22 (by decide)]; exact B3410
                    have W3428 : rf_W [10, 12, 13, 14, 16, 17, 18, 22] m m3416 := W3412.trans W3421 (by decide)
                    show pm_R _ 183 57 [.ref 41, .int 2, .int 49, .int (-1)] [] _ _
                    refine pm_R_op pm_M183 (pc' := 58) (st' := [.int 1]) rfl rfl rfl ?_
                    refine pm_R_ret pm_M183 (r := some (.int 1)) rfl rfl ?_
                    show pm_R _ 187 173 [.ref 41, .long a0, pm_no, .int a1] [.int 1] _ _
                    refine pm_R_br pm_M187 (pc' := 178) (st' := []) (pm_q187_1 (Nat.le_of_ble_eq_true rfl)) rfl ?_
                    refine pm_R_lo pm_M187 (pc' := 179) (pm_q187_1 (Nat.le_of_ble_eq_true rfl)) rfl rfl ?_
                    refine pm_R_op pm_M187 (pc' := 180) (st' := [.int 1, .ref 41]) (pm_q187_1 (Nat.le_of_ble_eq_true rfl)) rfl rfl ?_
                    refine pm_R_op pm_M187 (pc' := 182) (st' := [.int 42, .int 1, .ref 41]) (pm_q187_1 (Nat.le_of_ble_eq_true rfl)) rfl rfl ?_
                    refine pm_R_op pm_M187 (pc' := 183) (st' := [.int 3, .int 42, .int 1, .ref 41]) (pm_q187_1 (Nat.le_of_ble_eq_true rfl)) rfl rfl ?_
                    refine pm_R_op pm_M187 (pc' := 185) (st' := [.int 16, .int 3, .int 42, .int 1, .ref 41]) (pm_q187_1 (Nat.le_of_ble_eq_true rfl)) rfl rfl ?_
                    refine pm_R_op pm_M187 (pc' := 186) (st' := [.int 0, .int 16, .int 3, .int 42, .int 1, .ref 41]) (pm_q187_1 (Nat.le_of_ble_eq_true rfl)) rfl rfl ?_
                    refine pm_R_cv pm_M187 (pc' := 189) (a := 41) (ra := [.int 0, .int 16, .int 3, .int 42, .int 1]) (rest := []) (ls' := [.ref 41, .int 1, .int 42, .int 3, .int 16, .int 0, pm_no, pm_no]) (pm_q187_1 (Nat.le_of_ble_eq_true rfl)) rfl (Or.inl rfl) pm_M185 T3419.2.1 rfl (by decide) (Nat.lt_of_lt_of_le (by decide) T3419.1) rfl rfl (Nat.le_of_ble_eq_true rfl) rfl rfl ?_
                    refine pm_R_lo pm_M185 (pc' := 1) rfl rfl rfl ?_
                    refine rf_R_get pm_M185 T3419 (pc' := 4) (v := .ref 51) rfl rfl rfl rfl ?_
                    refine pm_R_lo pm_M185 (pc' := 5) rfl rfl rfl ?_
                    have e3429 := (F3420.cell (by decide) (F3402.cell (by decide) (F3393.cell (by decide) (F3381.cell (by decide) (F3366.cell (by decide) (F3097.cell (by decide) (F3082.cell (by decide) (F2513.cell (by decide) (F2489.cell (by decide) e3)))))))))
                    refine pm_R_iald pm_M185 (pc' := 6) (v := (f2 1)) rfl e3429 (Nat.lt_of_lt_of_le (by decide) T3419.1) rfl rfl rfl ?_
                    refine pm_R_lo pm_M185 (pc' := 8) (ls' := [.ref 41, .int 1, .int 42, .int 3, .int 16, .int 0, .int (f2 1), pm_no]) (st' := []) rfl rfl rfl ?_
                    refine pm_R_lo pm_M185 (pc' := 10) rfl rfl rfl ?_
                    refine pm_R_lo pm_M185 (pc' := 12) rfl rfl rfl ?_
                    refine pm_R_icmp pm_M185 (t := 16) (pc' := 15) rfl rfl rfl (fun c3432 => ?_) (fun c3432 => absurd (Classical.not_not.mp c3432) (sf_neq2 B2482 sf_k16 (by decide)))
                    skip
                    refine pm_R_op pm_M185 (pc' := 17) (st' := [.int 0]) rfl rfl rfl ?_
                    refine pm_R_lo pm_M185 (pc' := 19) (ls' := [.ref 41, .int 1, .int 42, .int 3, .int 16, .int 0, .int (f2 1), .int 0]) (st' := []) rfl rfl rfl ?_
                    refine pm_R_lo pm_M185 (pc' := 21) rfl rfl rfl ?_
                    refine pm_R_lo pm_M185 (pc' := 22) rfl rfl rfl ?_
                    refine pm_R_br pm_M185 (pc' := 25) (st' := []) rfl rfl ?_
                    refine pm_R_lo pm_M185 (pc' := 26) rfl rfl rfl ?_
                    refine rf_R_get pm_M185 T3419 (pc' := 29) (v := .ref 51) rfl rfl rfl rfl ?_
                    refine pm_R_lo pm_M185 (pc' := 30) rfl rfl rfl ?_
                    refine pm_R_lo pm_M185 (pc' := 31) rfl rfl rfl ?_
                    refine pm_R_lo pm_M185 (pc' := 33) rfl rfl rfl ?_
                    refine sf_R_imul pm_M185 (pc' := 34) rfl rfl sf_k3 B2482 (by decide) (by decide) (by decide) (fun z3433 e3434 B3435 => ?_)
                    refine sf_R_iadd pm_M185 (pc' := 35) rfl rfl sf_k42 B3435 (by decide) (by decide) (fun z3436 e3437 B3438 => ?_)
                    refine pm_R_lo pm_M185 (pc' := 37) rfl rfl rfl ?_
                    refine sf_R_iadd pm_M185 (pc' := 38) rfl rfl B3438 sf_k0 (by decide) (by decide) (fun z3439 e3440 B3441 => ?_)
                    refine pm_R_lo pm_M185 (pc' := 39) rfl rfl rfl ?_
                    refine rf_R_get pm_M185 T3419 (pc' := 42) (v := .ref 52) rfl rfl rfl rfl ?_
                    refine pm_R_lo pm_M185 (pc' := 44) rfl rfl rfl ?_
                    refine pm_R_lo pm_M185 (pc' := 46) rfl rfl rfl ?_
                    refine pm_R_op pm_M185 (pc' := 47) (st' := [.int 0, .ref 52, .int z3439, .ref 51]) rfl rfl rfl ?_
                    have e3442 := (F3420.cell (by decide) (F3402.cell (by decide) (F3393.cell (by decide) e3382)))
                    refine pm_R_iald pm_M185 (pc' := 48) (v := (m2485 14)) rfl e3442 (Nat.lt_of_lt_of_le (by decide) T3419.1) rfl (Eq.trans (show (upd (upd (upd f2508 (Int32.toNatClampNeg 0) (m2485 14)) (Int32.toNatClampNeg 1) (m3078 14)) (Int32.toNatClampNeg 2) (m3362 14)) (Int32.toNatClampNeg 0) = (upd (upd f2508 (Int32.toNatClampNeg 0) (m2485 14)) (Int32.toNatClampNeg 1) (m3078 14)) (Int32.toNatClampNeg 0) from rfl) (Eq.trans (show (upd (upd f2508 (Int32.toNatClampNeg 0) (m2485 14)) (Int32.toNatClampNeg 1) (m3078 14)) (Int32.toNatClampNeg 0) = (upd f2508 (Int32.toNatClampNeg 0) (m2485 14)) (Int32.toNatClampNeg 0) from rfl) rfl)) rfl ?_
                    refine rf_R_ist pm_M185 T3419 (pc' := 49) rfl e3429 (by decide) (by decide) (sf_in B3441 (by decide) (by decide)) ⟨_, rfl⟩ rfl (fun h3445 T3446 F3447 e3448 => ?_)
                    have F3449 := F3424.trans F3447 (by decide)
                    have ct3450 : rf_ct 0 (upd f2 (Int32.toNatClampNeg z3439) (m2485 14)) := ⟨(sf_eqL (Eq.trans (sf_upd_ne (j := Int32.toNatClampNeg 0) B3441 (by decide) (by decide)) rfl) ct4.1), (sf_eqL (Eq.trans (sf_upd_ne (j := Int32.toNatClampNeg 1) B3441 (by decide) (by decide)) rfl) (sf_weak B2482 (by decide) (by decide)))⟩
                    have bd3451 : (m3416 17).toInt = 0 → rf_bd 0 (upd f2 (Int32.toNatClampNeg z3439) (m2485 14)) := fun z => (sf_pos B3425 (by decide) z)
                    refine pm_R_lo pm_M185 (pc' := 52) (ls' := [.ref 41, .int 1, .int 42, .int 3, .int 16, .int 0, .int (f2 1), .int 1]) (st' := []) rfl rfl rfl ?_
                    refine pm_R_br pm_M185 (pc' := 19) rfl rfl ?_
                    refine pm_R_lo pm_M185 (pc' := 21) rfl rfl rfl ?_
                    refine pm_R_lo pm_M185 (pc' := 22) rfl rfl rfl ?_
                    refine pm_R_br pm_M185 (pc' := 25) (st' := []) rfl rfl ?_
                    refine pm_R_lo pm_M185 (pc' := 26) rfl rfl rfl ?_
                    refine rf_R_get pm_M185 T3446 (pc' := 29) (v := .ref 51) rfl rfl rfl rfl ?_
                    refine pm_R_lo pm_M185 (pc' := 30) rfl rfl rfl ?_
                    refine pm_R_lo pm_M185 (pc' := 31) rfl rfl rfl ?_
                    refine pm_R_lo pm_M185 (pc' := 33) rfl rfl rfl ?_
                    refine sf_R_imulV pm_M185 (pc' := 34) rfl rfl sf_k3 B2482 (by decide) (by decide) (by decide) e3434 ?_
                    refine sf_R_iaddV pm_M185 (pc' := 35) rfl rfl sf_k42 B3435 (by decide) (by decide) e3437 ?_
                    refine pm_R_lo pm_M185 (pc' := 37) rfl rfl rfl ?_
                    refine sf_R_iadd pm_M185 (pc' := 38) rfl rfl B3438 sf_k1 (by decide) (by decide) (fun z3452 e3453 B3454 => ?_)
                    refine pm_R_lo pm_M185 (pc' := 39) rfl rfl rfl ?_
                    refine rf_R_get pm_M185 T3446 (pc' := 42) (v := .ref 52) rfl rfl rfl rfl ?_
                    refine pm_R_lo pm_M185 (pc' := 44) rfl rfl rfl ?_
                    refine pm_R_lo pm_M185 (pc' := 46) rfl rfl rfl ?_
                    refine pm_R_op pm_M185 (pc' := 47) (st' := [.int 1, .ref 52, .int z3452, .ref 51]) rfl rfl rfl ?_
                    have e3455 := (F3447.cell (by decide) e3442)
                    refine pm_R_iald pm_M185 (pc' := 48) (v := (m3078 14)) rfl e3455 (Nat.lt_of_lt_of_le (by decide) T3446.1) rfl (Eq.trans (show (upd (upd (upd f2508 (Int32.toNatClampNeg 0) (m2485 14)) (Int32.toNatClampNeg 1) (m3078 14)) (Int32.toNatClampNeg 2) (m3362 14)) (Int32.toNatClampNeg 1) = (upd (upd f2508 (Int32.toNatClampNeg 0) (m2485 14)) (Int32.toNatClampNeg 1) (m3078 14)) (Int32.toNatClampNeg 1) from rfl) rfl) rfl ?_
                    refine rf_R_ist pm_M185 T3446 (pc' := 49) rfl e3448 (by decide) (by decide) (sf_in B3454 (by decide) (by decide)) ⟨_, rfl⟩ rfl (fun h3458 T3459 F3460 e3461 => ?_)
                    have F3462 := F3449.trans F3460 (by decide)
                    have ct3463 : rf_ct 0 (upd (upd f2 (Int32.toNatClampNeg z3439) (m2485 14)) (Int32.toNatClampNeg z3452) (m3078 14)) := ⟨(sf_eqL (Eq.trans (sf_upd_ne (j := Int32.toNatClampNeg 0) B3454 (by decide) (by decide)) (Eq.trans (sf_upd_ne (j := Int32.toNatClampNeg 0) B3441 (by decide) (by decide)) rfl)) ct4.1), (sf_eqL (Eq.trans (sf_upd_ne (j := Int32.toNatClampNeg 1) B3454 (by decide) (by decide)) (Eq.trans (sf_upd_ne (j := Int32.toNatClampNeg 1) B3441 (by decide) (by decide)) rfl)) (sf_weak B2482 (by decide) (by decide)))⟩
                    have bd3464 : (m3416 17).toInt = 0 → rf_bd 0 (upd (upd f2 (Int32.toNatClampNeg z3439) (m2485 14)) (Int32.toNatClampNeg z3452) (m3078 14)) := fun z => (sf_pos B3425 (by decide) z)
                    refine pm_R_lo pm_M185 (pc' := 52) (ls' := [.ref 41, .int 1, .int 42, .int 3, .int 16, .int 0, .int (f2 1), .int 2]) (st' := []) rfl rfl rfl ?_
                    refine pm_R_br pm_M185 (pc' := 19) rfl rfl ?_
                    refine pm_R_lo pm_M185 (pc' := 21) rfl rfl rfl ?_
                    refine pm_R_lo pm_M185 (pc' := 22) rfl rfl rfl ?_
                    refine pm_R_br pm_M185 (pc' := 25) (st' := []) rfl rfl ?_
                    refine pm_R_lo pm_M185 (pc' := 26) rfl rfl rfl ?_
                    refine rf_R_get pm_M185 T3459 (pc' := 29) (v := .ref 51) rfl rfl rfl rfl ?_
                    refine pm_R_lo pm_M185 (pc' := 30) rfl rfl rfl ?_
                    refine pm_R_lo pm_M185 (pc' := 31) rfl rfl rfl ?_
                    refine pm_R_lo pm_M185 (pc' := 33) rfl rfl rfl ?_
                    refine sf_R_imulV pm_M185 (pc' := 34) rfl rfl sf_k3 B2482 (by decide) (by decide) (by decide) e3434 ?_
                    refine sf_R_iaddV pm_M185 (pc' := 35) rfl rfl sf_k42 B3435 (by decide) (by decide) e3437 ?_
                    refine pm_R_lo pm_M185 (pc' := 37) rfl rfl rfl ?_
                    refine sf_R_iadd pm_M185 (pc' := 38) rfl rfl B3438 sf_k2 (by decide) (by decide) (fun z3465 e3466 B3467 => ?_)
                    refine pm_R_lo pm_M185 (pc' := 39) rfl rfl rfl ?_
                    refine rf_R_get pm_M185 T3459 (pc' := 42) (v := .ref 52) rfl rfl rfl rfl ?_
                    refine pm_R_lo pm_M185 (pc' := 44) rfl rfl rfl ?_
                    refine pm_R_lo pm_M185 (pc' := 46) rfl rfl rfl ?_
                    refine pm_R_op pm_M185 (pc' := 47) (st' := [.int 2, .ref 52, .int z3465, .ref 51]) rfl rfl rfl ?_
                    have e3468 := (F3460.cell (by decide) e3455)
                    refine pm_R_iald pm_M185 (pc' := 48) (v := (m3362 14)) rfl e3468 (Nat.lt_of_lt_of_le (by decide) T3459.1) rfl rfl rfl ?_
                    refine rf_R_ist pm_M185 T3459 (pc' := 49) rfl e3461 (by decide) (by decide) (sf_in B3467 (by decide) (by decide)) ⟨_, rfl⟩ rfl (fun h3471 T3472 F3473 e3474 => ?_)
                    have F3475 := F3462.trans F3473 (by decide)
                    have ct3476 : rf_ct 0 (upd (upd (upd f2 (Int32.toNatClampNeg z3439) (m2485 14)) (Int32.toNatClampNeg z3452) (m3078 14)) (Int32.toNatClampNeg z3465) (m3362 14)) := ⟨(sf_eqL (Eq.trans (sf_upd_ne (j := Int32.toNatClampNeg 0) B3467 (by decide) (by decide)) (Eq.trans (sf_upd_ne (j := Int32.toNatClampNeg 0) B3454 (by decide) (by decide)) (Eq.trans (sf_upd_ne (j := Int32.toNatClampNeg 0) B3441 (by decide) (by decide)) rfl))) ct4.1), (sf_eqL (Eq.trans (sf_upd_ne (j := Int32.toNatClampNeg 1) B3467 (by decide) (by decide)) (Eq.trans (sf_upd_ne (j := Int32.toNatClampNeg 1) B3454 (by decide) (by decide)) (Eq.trans (sf_upd_ne (j := Int32.toNatClampNeg 1) B3441 (by decide) (by decide)) rfl))) (sf_weak B2482 (by decide) (by decide)))⟩
                    have bd3477 : (m3416 17).toInt = 0 → rf_bd 0 (upd (upd (upd f2 (Int32.toNatClampNeg z3439) (m2485 14)) (Int32.toNatClampNeg z3452) (m3078 14)) (Int32.toNatClampNeg z3465) (m3362 14)) := fun z => (sf_pos B3425 (by decide) z)
                    refine pm_R_lo pm_M185 (pc' := 52) (ls' := [.ref 41, .int 1, .int 42, .int 3, .int 16, .int 0, .int (f2 1), .int 3]) (st' := []) rfl rfl rfl ?_
                    refine pm_R_br pm_M185 (pc' := 19) rfl rfl ?_
                    refine pm_R_lo pm_M185 (pc' := 21) rfl rfl rfl ?_
                    refine pm_R_lo pm_M185 (pc' := 22) rfl rfl rfl ?_
                    refine pm_R_br pm_M185 (pc' := 55) (st' := []) rfl rfl ?_
                    refine pm_R_lo pm_M185 (pc' := 56) rfl rfl rfl ?_
                    refine rf_R_get pm_M185 T3472 (pc' := 59) (v := .ref 51) rfl rfl rfl rfl ?_
                    refine pm_R_lo pm_M185 (pc' := 60) rfl rfl rfl ?_
                    refine pm_R_op pm_M185 (pc' := 61) (st' := [.int 1, .ref 51, .int 1, .ref 51]) rfl rfl rfl ?_
                    refine pm_R_iald pm_M185 (pc' := 62) (v := (f2 1)) rfl e3474 (Nat.lt_of_lt_of_le (by decide) T3472.1) rfl (Eq.trans (sf_upd_ne (j := Int32.toNatClampNeg 1) B3467 (by decide) (by decide)) (Eq.trans (sf_upd_ne (j := Int32.toNatClampNeg 1) B3454 (by decide) (by decide)) (Eq.trans (sf_upd_ne (j := Int32.toNatClampNeg 1) B3441 (by decide) (by decide)) rfl))) rfl ?_
                    refine pm_R_op pm_M185 (pc' := 63) (st' := [.int 1, .int (f2 1), .int 1, .ref 51]) rfl rfl rfl ?_
                    refine sf_R_iadd pm_M185 (pc' := 64) rfl rfl B2482 sf_k1 (by decide) (by decide) (fun z3480 e3481 B3482 => ?_)
                    refine rf_R_ist pm_M185 T3472 (pc' := 65) rfl e3474 (by decide) (by decide) rfl ⟨_, rfl⟩ rfl (fun h3483 T3484 F3485 e3486 => ?_)
                    have F3487 := F3475.trans F3485 (by decide)
                    have ct3488 : rf_ct 0 (upd (upd (upd (upd f2 (Int32.toNatClampNeg z3439) (m2485 14)) (Int32.toNatClampNeg z3452) (m3078 14)) (Int32.toNatClampNeg z3465) (m3362 14)) (Int32.toNatClampNeg 1) z3480) := ⟨(sf_eqL (Eq.trans (show (upd (upd (upd (upd f2 (Int32.toNatClampNeg z3439) (m2485 14)) (Int32.toNatClampNeg z3452) (m3078 14)) (Int32.toNatClampNeg z3465) (m3362 14)) (Int32.toNatClampNeg 1) z3480) (Int32.toNatClampNeg 0) = (upd (upd (upd f2 (Int32.toNatClampNeg z3439) (m2485 14)) (Int32.toNatClampNeg z3452) (m3078 14)) (Int32.toNatClampNeg z3465) (m3362 14)) (Int32.toNatClampNeg 0) from rfl) (Eq.trans (sf_upd_ne (j := Int32.toNatClampNeg 0) B3467 (by decide) (by decide)) (Eq.trans (sf_upd_ne (j := Int32.toNatClampNeg 0) B3454 (by decide) (by decide)) (Eq.trans (sf_upd_ne (j := Int32.toNatClampNeg 0) B3441 (by decide) (by decide)) rfl)))) ct4.1), (sf_eqL rfl (sf_weak B3482 (by decide) (by decide)))⟩
                    have bd3489 : (m3416 17).toInt = 0 → rf_bd 0 (upd (upd (upd (upd f2 (Int32.toNatClampNeg z3439) (m2485 14)) (Int32.toNatClampNeg z3452) (m3078 14)) (Int32.toNatClampNeg z3465) (m3362 14)) (Int32.toNatClampNeg 1) z3480) := fun z => (sf_pos B3425 (by decide) z)
                    refine pm_R_ret pm_M185 (r := none) rfl rfl ?_
                    show pm_R _ 187 189 [.ref 41, .long a0, pm_no, .int a1] [] _ _
                    refine pm_R_op pm_M187 (pc' := 190) (st' := [.int 1]) (pm_q187_1 (Nat.le_of_ble_eq_true rfl)) rfl rfl ?_
                    have B3490 : sf_B 0 600 (m3416 10) := T3484.2.2.1 10
                    exact pm_R_ret pm_M187 (r := some (.int 1)) (pm_q187_1 (Nat.le_of_ble_eq_true rfl)) rfl (K1 m3416 w3417 h3483 T3484 F3487 W3428 (⟨(upd (upd (upd (upd f2 (Int32.toNatClampNeg z3439) (m2485 14)) (Int32.toNatClampNeg z3452) (m3078 14)) (Int32.toNatClampNeg z3465) (m3362 14)) (Int32.toNatClampNeg 1) z3480), e3486, ct3488, fun z => (sf_pos B3425 (by decide) z)⟩) (sf_aux98 _ _ _ _ _ _ X2491 X3084 X3368 X3422))
                  · have B3491 : sf_B 0 49 (m3362 14) := sf_leL (Int32.not_lt.mp c3384) B3377 sf_k49
                    refine pm_R_lo pm_M183 (pc' := 32) rfl rfl rfl ?_
                    refine rf_R_get pm_M183 T3380 (pc' := 35) (v := .int (m3362 14)) rfl rfl rfl rfl ?_
                    refine pm_R_lo pm_M183 (pc' := 36) rfl rfl rfl ?_
                    refine pm_R_icmp pm_M183 (t := 53) (pc' := 39) rfl rfl rfl (fun c3492 => ?_) (fun c3492 => absurd (Classical.not_not.mp c3492) (sf_neq1 B3491 sf_kn1 (by decide)))
                    skip
                    refine pm_R_lo pm_M183 (pc' := 54) rfl rfl rfl ?_
                    refine pm_R_cv pm_M183 (pc' := 57) (a := 41) (ra := []) (rest := []) (ls' := [.ref 41, pm_no, pm_no]) rfl rfl (Or.inl rfl) pm_M179 T3380.2.1 rfl (by decide) (Nat.lt_of_lt_of_le (by decide) T3380.1) rfl rfl (Nat.le_of_ble_eq_true rfl) rfl rfl ?_
                    have B3493 : sf_B 0 600 (m3362 10) := T3380.2.2.1 10
                    refine rf_c179 (d := d + 0) T3380  (fun m3496 w3497 h3498 T3499 F3500 W3501 X3502 X3503 => ?_)
                    have F3504 := F3383.trans F3500 (by decide)
                    have B3505 : sf_B 0 4 (m3496 17) := by rw [W3501 17 (by decide)]; exact B3371
                    have ek3506 : (m3496 17).toInt = ((m 17)).toInt := by rw [W3501 17 (by decide)]; exact ek3372
                    have W3507 : rf_W [10, 12, 13, 14, 16, 17, 18, 22] m m3496 := W3373.trans W3501 (by decide)
                    show pm_R _ 183 57 [.ref 41, .int 2, .int 49, .int (-1)] [] _ _
                    refine pm_R_op pm_M183 (pc' := 58) (st' := [.int 1]) rfl rfl rfl ?_
                    refine pm_R_ret pm_M183 (r := some (.int 1)) rfl rfl ?_
                    show pm_R _ 187 173 [.ref 41, .long a0, pm_no, .int a1] [.int 1] _ _
                    refine pm_R_br pm_M187 (pc' := 178) (st' := []) (pm_q187_1 (Nat.le_of_ble_eq_true rfl)) rfl ?_
                    refine pm_R_lo pm_M187 (pc' := 179) (pm_q187_1 (Nat.le_of_ble_eq_true rfl)) rfl rfl ?_
                    refine pm_R_op pm_M187 (pc' := 180) (st' := [.int 1, .ref 41]) (pm_q187_1 (Nat.le_of_ble_eq_true rfl)) rfl rfl ?_
                    refine pm_R_op pm_M187 (pc' := 182) (st' := [.int 42, .int 1, .ref 41]) (pm_q187_1 (Nat.le_of_ble_eq_true rfl)) rfl rfl ?_
                    refine pm_R_op pm_M187 (pc' := 183) (st' := [.int 3, .int 42, .int 1, .ref 41]) (pm_q187_1 (Nat.le_of_ble_eq_true rfl)) rfl rfl ?_
                    refine pm_R_op pm_M187 (pc' := 185) (st' := [.int 16, .int 3, .int 42, .int 1, .ref 41]) (pm_q187_1 (Nat.le_of_ble_eq_true rfl)) rfl rfl ?_
                    refine pm_R_op pm_M187 (pc' := 186) (st' := [.int 0, .int 16, .int 3, .int 42, .int 1, .ref 41]) (pm_q187_1 (Nat.le_of_ble_eq_true rfl)) rfl rfl ?_
                    refine pm_R_cv pm_M187 (pc' := 189) (a := 41) (ra := [.int 0, .int 16, .int 3, .int 42, .int 1]) (rest := []) (ls' := [.ref 41, .int 1, .int 42, .int 3, .int 16, .int 0, pm_no, pm_no]) (pm_q187_1 (Nat.le_of_ble_eq_true rfl)) rfl (Or.inl rfl) pm_M185 T3499.2.1 rfl (by decide) (Nat.lt_of_lt_of_le (by decide) T3499.1) rfl rfl (Nat.le_of_ble_eq_true rfl) rfl rfl ?_
                    refine pm_R_lo pm_M185 (pc' := 1) rfl rfl rfl ?_
                    refine rf_R_get pm_M185 T3499 (pc' := 4) (v := .ref 51) rfl rfl rfl rfl ?_
                    refine pm_R_lo pm_M185 (pc' := 5) rfl rfl rfl ?_
                    have e3508 := (F3500.cell (by decide) (F3381.cell (by decide) (F3366.cell (by decide) (F3097.cell (by decide) (F3082.cell (by decide) (F2513.cell (by decide) (F2489.cell (by decide) e3)))))))
                    refine pm_R_iald pm_M185 (pc' := 6) (v := (f2 1)) rfl e3508 (Nat.lt_of_lt_of_le (by decide) T3499.1) rfl rfl rfl ?_
                    refine pm_R_lo pm_M185 (pc' := 8) (ls' := [.ref 41, .int 1, .int 42, .int 3, .int 16, .int 0, .int (f2 1), pm_no]) (st' := []) rfl rfl rfl ?_
                    refine pm_R_lo pm_M185 (pc' := 10) rfl rfl rfl ?_
                    refine pm_R_lo pm_M185 (pc' := 12) rfl rfl rfl ?_
                    refine pm_R_icmp pm_M185 (t := 16) (pc' := 15) rfl rfl rfl (fun c3511 => ?_) (fun c3511 => absurd (Classical.not_not.mp c3511) (sf_neq2 B2482 sf_k16 (by decide)))
                    skip
                    refine pm_R_op pm_M185 (pc' := 17) (st' := [.int 0]) rfl rfl rfl ?_
                    refine pm_R_lo pm_M185 (pc' := 19) (ls' := [.ref 41, .int 1, .int 42, .int 3, .int 16, .int 0, .int (f2 1), .int 0]) (st' := []) rfl rfl rfl ?_
                    refine pm_R_lo pm_M185 (pc' := 21) rfl rfl rfl ?_
                    refine pm_R_lo pm_M185 (pc' := 22) rfl rfl rfl ?_
                    refine pm_R_br pm_M185 (pc' := 25) (st' := []) rfl rfl ?_
                    refine pm_R_lo pm_M185 (pc' := 26) rfl rfl rfl ?_
                    refine rf_R_get pm_M185 T3499 (pc' := 29) (v := .ref 51) rfl rfl rfl rfl ?_
                    refine pm_R_lo pm_M185 (pc' := 30) rfl rfl rfl ?_
                    refine pm_R_lo pm_M185 (pc' := 31) rfl rfl rfl ?_
                    refine pm_R_lo pm_M185 (pc' := 33) rfl rfl rfl ?_
                    refine sf_R_imul pm_M185 (pc' := 34) rfl rfl sf_k3 B2482 (by decide) (by decide) (by decide) (fun z3512 e3513 B3514 => ?_)
                    refine sf_R_iadd pm_M185 (pc' := 35) rfl rfl sf_k42 B3514 (by decide) (by decide) (fun z3515 e3516 B3517 => ?_)
                    refine pm_R_lo pm_M185 (pc' := 37) rfl rfl rfl ?_
                    refine sf_R_iadd pm_M185 (pc' := 38) rfl rfl B3517 sf_k0 (by decide) (by decide) (fun z3518 e3519 B3520 => ?_)
                    refine pm_R_lo pm_M185 (pc' := 39) rfl rfl rfl ?_
                    refine rf_R_get pm_M185 T3499 (pc' := 42) (v := .ref 52) rfl rfl rfl rfl ?_
                    refine pm_R_lo pm_M185 (pc' := 44) rfl rfl rfl ?_
                    refine pm_R_lo pm_M185 (pc' := 46) rfl rfl rfl ?_
                    refine pm_R_op pm_M185 (pc' := 47) (st' := [.int 0, .ref 52, .int z3518, .ref 51]) rfl rfl rfl ?_
                    have e3521 := (F3500.cell (by decide) e3382)
                    refine pm_R_iald pm_M185 (pc' := 48) (v := (m2485 14)) rfl e3521 (Nat.lt_of_lt_of_le (by decide) T3499.1) rfl (Eq.trans (show (upd (upd (upd f2508 (Int32.toNatClampNeg 0) (m2485 14)) (Int32.toNatClampNeg 1) (m3078 14)) (Int32.toNatClampNeg 2) (m3362 14)) (Int32.toNatClampNeg 0) = (upd (upd f2508 (Int32.toNatClampNeg 0) (m2485 14)) (Int32.toNatClampNeg 1) (m3078 14)) (Int32.toNatClampNeg 0) from rfl) (Eq.trans (show (upd (upd f2508 (Int32.toNatClampNeg 0) (m2485 14)) (Int32.toNatClampNeg 1) (m3078 14)) (Int32.toNatClampNeg 0) = (upd f2508 (Int32.toNatClampNeg 0) (m2485 14)) (Int32.toNatClampNeg 0) from rfl) rfl)) rfl ?_
                    refine rf_R_ist pm_M185 T3499 (pc' := 49) rfl e3508 (by decide) (by decide) (sf_in B3520 (by decide) (by decide)) ⟨_, rfl⟩ rfl (fun h3524 T3525 F3526 e3527 => ?_)
                    have F3528 := F3504.trans F3526 (by decide)
                    have w3529 := rf_w0s (sf_aux58 _ _ _ _ e3513 e3516 e3519) B2482
                    have ct3530 : rf_ct 0 (upd f2 (Int32.toNatClampNeg z3518) (m2485 14)) := ⟨(sf_eqL (Eq.trans (sf_upd_ne (j := Int32.toNatClampNeg 0) B3520 (by decide) (by decide)) rfl) ct4.1), (sf_eqL (Eq.trans (sf_upd_ne (j := Int32.toNatClampNeg 1) B3520 (by decide) (by decide)) rfl) (sf_weak B2482 (by decide) (by decide)))⟩
                    have bd3531 : (m3496 17).toInt = 0 → rf_bd 0 (upd f2 (Int32.toNatClampNeg z3518) (m2485 14)) := fun z => ((bd5 (sf_aux53 _ _ ek3506 z)).set (k := z3518) B3073 w3529.1 w3529.2)
                    refine pm_R_lo pm_M185 (pc' := 52) (ls' := [.ref 41, .int 1, .int 42, .int 3, .int 16, .int 0, .int (f2 1), .int 1]) (st' := []) rfl rfl rfl ?_
                    refine pm_R_br pm_M185 (pc' := 19) rfl rfl ?_
                    refine pm_R_lo pm_M185 (pc' := 21) rfl rfl rfl ?_
                    refine pm_R_lo pm_M185 (pc' := 22) rfl rfl rfl ?_
                    refine pm_R_br pm_M185 (pc' := 25) (st' := []) rfl rfl ?_
                    refine pm_R_lo pm_M185 (pc' := 26) rfl rfl rfl ?_
                    refine rf_R_get pm_M185 T3525 (pc' := 29) (v := .ref 51) rfl rfl rfl rfl ?_
                    refine pm_R_lo pm_M185 (pc' := 30) rfl rfl rfl ?_
                    refine pm_R_lo pm_M185 (pc' := 31) rfl rfl rfl ?_
                    refine pm_R_lo pm_M185 (pc' := 33) rfl rfl rfl ?_
                    refine sf_R_imulV pm_M185 (pc' := 34) rfl rfl sf_k3 B2482 (by decide) (by decide) (by decide) e3513 ?_
                    refine sf_R_iaddV pm_M185 (pc' := 35) rfl rfl sf_k42 B3514 (by decide) (by decide) e3516 ?_
                    refine pm_R_lo pm_M185 (pc' := 37) rfl rfl rfl ?_
                    refine sf_R_iadd pm_M185 (pc' := 38) rfl rfl B3517 sf_k1 (by decide) (by decide) (fun z3532 e3533 B3534 => ?_)
                    refine pm_R_lo pm_M185 (pc' := 39) rfl rfl rfl ?_
                    refine rf_R_get pm_M185 T3525 (pc' := 42) (v := .ref 52) rfl rfl rfl rfl ?_
                    refine pm_R_lo pm_M185 (pc' := 44) rfl rfl rfl ?_
                    refine pm_R_lo pm_M185 (pc' := 46) rfl rfl rfl ?_
                    refine pm_R_op pm_M185 (pc' := 47) (st' := [.int 1, .ref 52, .int z3532, .ref 51]) rfl rfl rfl ?_
                    have e3535 := (F3526.cell (by decide) e3521)
                    refine pm_R_iald pm_M185 (pc' := 48) (v := (m3078 14)) rfl e3535 (Nat.lt_of_lt_of_le (by decide) T3525.1) rfl (Eq.trans (show (upd (upd (upd f2508 (Int32.toNatClampNeg 0) (m2485 14)) (Int32.toNatClampNeg 1) (m3078 14)) (Int32.toNatClampNeg 2) (m3362 14)) (Int32.toNatClampNeg 1) = (upd (upd f2508 (Int32.toNatClampNeg 0) (m2485 14)) (Int32.toNatClampNeg 1) (m3078 14)) (Int32.toNatClampNeg 1) from rfl) rfl) rfl ?_
                    refine rf_R_ist pm_M185 T3525 (pc' := 49) rfl e3527 (by decide) (by decide) (sf_in B3534 (by decide) (by decide)) ⟨_, rfl⟩ rfl (fun h3538 T3539 F3540 e3541 => ?_)
                    have F3542 := F3528.trans F3540 (by decide)
                    have w3543 := rf_w0k (sf_aux59 _ _ _ _ e3513 e3516 e3533) B2482
                    have ct3544 : rf_ct 0 (upd (upd f2 (Int32.toNatClampNeg z3518) (m2485 14)) (Int32.toNatClampNeg z3532) (m3078 14)) := ⟨(sf_eqL (Eq.trans (sf_upd_ne (j := Int32.toNatClampNeg 0) B3534 (by decide) (by decide)) (Eq.trans (sf_upd_ne (j := Int32.toNatClampNeg 0) B3520 (by decide) (by decide)) rfl)) ct4.1), (sf_eqL (Eq.trans (sf_upd_ne (j := Int32.toNatClampNeg 1) B3534 (by decide) (by decide)) (Eq.trans (sf_upd_ne (j := Int32.toNatClampNeg 1) B3520 (by decide) (by decide)) rfl)) (sf_weak B2482 (by decide) (by decide)))⟩
                    have bd3545 : (m3496 17).toInt = 0 → rf_bd 0 (upd (upd f2 (Int32.toNatClampNeg z3518) (m2485 14)) (Int32.toNatClampNeg z3532) (m3078 14)) := fun z => ((bd3531 z).set (k := z3532) B3357 w3543.1 w3543.2)
                    refine pm_R_lo pm_M185 (pc' := 52) (ls' := [.ref 41, .int 1, .int 42, .int 3, .int 16, .int 0, .int (f2 1), .int 2]) (st' := []) rfl rfl rfl ?_
                    refine pm_R_br pm_M185 (pc' := 19) rfl rfl ?_
                    refine pm_R_lo pm_M185 (pc' := 21) rfl rfl rfl ?_
                    refine pm_R_lo pm_M185 (pc' := 22) rfl rfl rfl ?_
                    refine pm_R_br pm_M185 (pc' := 25) (st' := []) rfl rfl ?_
                    refine pm_R_lo pm_M185 (pc' := 26) rfl rfl rfl ?_
                    refine rf_R_get pm_M185 T3539 (pc' := 29) (v := .ref 51) rfl rfl rfl rfl ?_
                    refine pm_R_lo pm_M185 (pc' := 30) rfl rfl rfl ?_
                    refine pm_R_lo pm_M185 (pc' := 31) rfl rfl rfl ?_
                    refine pm_R_lo pm_M185 (pc' := 33) rfl rfl rfl ?_
                    refine sf_R_imulV pm_M185 (pc' := 34) rfl rfl sf_k3 B2482 (by decide) (by decide) (by decide) e3513 ?_
                    refine sf_R_iaddV pm_M185 (pc' := 35) rfl rfl sf_k42 B3514 (by decide) (by decide) e3516 ?_
                    refine pm_R_lo pm_M185 (pc' := 37) rfl rfl rfl ?_
                    refine sf_R_iadd pm_M185 (pc' := 38) rfl rfl B3517 sf_k2 (by decide) (by decide) (fun z3546 e3547 B3548 => ?_)
                    refine pm_R_lo pm_M185 (pc' := 39) rfl rfl rfl ?_
                    refine rf_R_get pm_M185 T3539 (pc' := 42) (v := .ref 52) rfl rfl rfl rfl ?_
                    refine pm_R_lo pm_M185 (pc' := 44) rfl rfl rfl ?_
                    refine pm_R_lo pm_M185 (pc' := 46) rfl rfl rfl ?_
                    refine pm_R_op pm_M185 (pc' := 47) (st' := [.int 2, .ref 52, .int z3546, .ref 51]) rfl rfl rfl ?_
                    have e3549 := (F3540.cell (by decide) e3535)
                    refine pm_R_iald pm_M185 (pc' := 48) (v := (m3362 14)) rfl e3549 (Nat.lt_of_lt_of_le (by decide) T3539.1) rfl rfl rfl ?_
                    refine rf_R_ist pm_M185 T3539 (pc' := 49) rfl e3541 (by decide) (by decide) (sf_in B3548 (by decide) (by decide)) ⟨_, rfl⟩ rfl (fun h3552 T3553 F3554 e3555 => ?_)
                    have F3556 := F3542.trans F3554 (by decide)
                    have w3557 := rf_w0v (sf_aux60 _ _ _ _ e3513 e3516 e3547) B2482
                    have ct3558 : rf_ct 0 (upd (upd (upd f2 (Int32.toNatClampNeg z3518) (m2485 14)) (Int32.toNatClampNeg z3532) (m3078 14)) (Int32.toNatClampNeg z3546) (m3362 14)) := ⟨(sf_eqL (Eq.trans (sf_upd_ne (j := Int32.toNatClampNeg 0) B3548 (by decide) (by decide)) (Eq.trans (sf_upd_ne (j := Int32.toNatClampNeg 0) B3534 (by decide) (by decide)) (Eq.trans (sf_upd_ne (j := Int32.toNatClampNeg 0) B3520 (by decide) (by decide)) rfl))) ct4.1), (sf_eqL (Eq.trans (sf_upd_ne (j := Int32.toNatClampNeg 1) B3548 (by decide) (by decide)) (Eq.trans (sf_upd_ne (j := Int32.toNatClampNeg 1) B3534 (by decide) (by decide)) (Eq.trans (sf_upd_ne (j := Int32.toNatClampNeg 1) B3520 (by decide) (by decide)) rfl))) (sf_weak B2482 (by decide) (by decide)))⟩
                    have bd3559 : (m3496 17).toInt = 0 → rf_bd 0 (upd (upd (upd f2 (Int32.toNatClampNeg z3518) (m2485 14)) (Int32.toNatClampNeg z3532) (m3078 14)) (Int32.toNatClampNeg z3546) (m3362 14)) := fun z => ((bd3545 z).set (k := z3546) B3491 w3557.1 w3557.2)
                    refine pm_R_lo pm_M185 (pc' := 52) (ls' := [.ref 41, .int 1, .int 42, .int 3, .int 16, .int 0, .int (f2 1), .int 3]) (st' := []) rfl rfl rfl ?_
                    refine pm_R_br pm_M185 (pc' := 19) rfl rfl ?_
                    refine pm_R_lo pm_M185 (pc' := 21) rfl rfl rfl ?_
                    refine pm_R_lo pm_M185 (pc' := 22) rfl rfl rfl ?_
                    refine pm_R_br pm_M185 (pc' := 55) (st' := []) rfl rfl ?_
                    refine pm_R_lo pm_M185 (pc' := 56) rfl rfl rfl ?_
                    refine rf_R_get pm_M185 T3553 (pc' := 59) (v := .ref 51) rfl rfl rfl rfl ?_
                    refine pm_R_lo pm_M185 (pc' := 60) rfl rfl rfl ?_
                    refine pm_R_op pm_M185 (pc' := 61) (st' := [.int 1, .ref 51, .int 1, .ref 51]) rfl rfl rfl ?_
                    refine pm_R_iald pm_M185 (pc' := 62) (v := (f2 1)) rfl e3555 (Nat.lt_of_lt_of_le (by decide) T3553.1) rfl (Eq.trans (sf_upd_ne (j := Int32.toNatClampNeg 1) B3548 (by decide) (by decide)) (Eq.trans (sf_upd_ne (j := Int32.toNatClampNeg 1) B3534 (by decide) (by decide)) (Eq.trans (sf_upd_ne (j := Int32.toNatClampNeg 1) B3520 (by decide) (by decide)) rfl))) rfl ?_
                    refine pm_R_op pm_M185 (pc' := 63) (st' := [.int 1, .int (f2 1), .int 1, .ref 51]) rfl rfl rfl ?_
                    refine sf_R_iadd pm_M185 (pc' := 64) rfl rfl B2482 sf_k1 (by decide) (by decide) (fun z3562 e3563 B3564 => ?_)
                    refine rf_R_ist pm_M185 T3553 (pc' := 65) rfl e3555 (by decide) (by decide) rfl ⟨_, rfl⟩ rfl (fun h3565 T3566 F3567 e3568 => ?_)
                    have F3569 := F3556.trans F3567 (by decide)
                    have ct3570 : rf_ct 0 (upd (upd (upd (upd f2 (Int32.toNatClampNeg z3518) (m2485 14)) (Int32.toNatClampNeg z3532) (m3078 14)) (Int32.toNatClampNeg z3546) (m3362 14)) (Int32.toNatClampNeg 1) z3562) := ⟨(sf_eqL (Eq.trans (show (upd (upd (upd (upd f2 (Int32.toNatClampNeg z3518) (m2485 14)) (Int32.toNatClampNeg z3532) (m3078 14)) (Int32.toNatClampNeg z3546) (m3362 14)) (Int32.toNatClampNeg 1) z3562) (Int32.toNatClampNeg 0) = (upd (upd (upd f2 (Int32.toNatClampNeg z3518) (m2485 14)) (Int32.toNatClampNeg z3532) (m3078 14)) (Int32.toNatClampNeg z3546) (m3362 14)) (Int32.toNatClampNeg 0) from rfl) (Eq.trans (sf_upd_ne (j := Int32.toNatClampNeg 0) B3548 (by decide) (by decide)) (Eq.trans (sf_upd_ne (j := Int32.toNatClampNeg 0) B3534 (by decide) (by decide)) (Eq.trans (sf_upd_ne (j := Int32.toNatClampNeg 0) B3520 (by decide) (by decide)) rfl)))) ct4.1), (sf_eqL rfl (sf_weak B3564 (by decide) (by decide)))⟩
                    have bd3571 : (m3496 17).toInt = 0 → rf_bd 0 (upd (upd (upd (upd f2 (Int32.toNatClampNeg z3518) (m2485 14)) (Int32.toNatClampNeg z3532) (m3078 14)) (Int32.toNatClampNeg z3546) (m3362 14)) (Int32.toNatClampNeg 1) z3562) := fun z => ((bd3559 z).set (k := 1) B3564 (by decide) (by decide))
                    refine pm_R_ret pm_M185 (r := none) rfl rfl ?_
                    show pm_R _ 187 189 [.ref 41, .long a0, pm_no, .int a1] [] _ _
                    refine pm_R_op pm_M187 (pc' := 190) (st' := [.int 1]) (pm_q187_1 (Nat.le_of_ble_eq_true rfl)) rfl rfl ?_
                    have B3572 : sf_B 0 600 (m3496 10) := T3566.2.2.1 10
                    exact pm_R_ret pm_M187 (r := some (.int 1)) (pm_q187_1 (Nat.le_of_ble_eq_true rfl)) rfl (K1 m3496 w3497 h3565 T3566 F3569 W3507 (⟨(upd (upd (upd (upd f2 (Int32.toNatClampNeg z3518) (m2485 14)) (Int32.toNatClampNeg z3532) (m3078 14)) (Int32.toNatClampNeg z3546) (m3362 14)) (Int32.toNatClampNeg 1) z3562), e3568, ct3570, fun z => (bd3571 z)⟩) (sf_aux99 _ _ _ _ _ X2491 X3084 X3368 X3502))
                · skip
                  refine pm_R_lo pm_M183 (pc' := 9) rfl rfl rfl ?_
                  refine pm_R_cv pm_M183 (pc' := 12) (a := 41) (ra := []) (rest := []) (ls' := [.ref 41]) rfl rfl (Or.inl rfl) pm_M184 T3365.2.1 rfl (by decide) (Nat.lt_of_lt_of_le (by decide) T3365.1) rfl rfl (Nat.le_of_ble_eq_true rfl) rfl rfl ?_
                  refine pm_R_lo pm_M184 (pc' := 1) rfl rfl rfl ?_
                  refine pm_R_lo pm_M184 (pc' := 2) rfl rfl rfl ?_
                  have B3573 : sf_B 0 600 (m3362 12) := T3365.2.2.1 12
                  refine rf_R_get pm_M184 T3365 (pc' := 5) (v := .int (m3362 12)) rfl rfl rfl rfl ?_
                  refine rf_R_put pm_M184 T3365 (pc' := 8) rfl rfl rfl (by decide) rfl rfl B3573 rfl rfl (fun h3574 m3577 em3578 T3575 F3576 => ?_)
                  have F3579 := F3370.trans F3576 (by decide)
                  have B3580 : sf_B 0 4 (m3577 17) := by rw [em3578]; exact B3371
                  have ek3581 : (m3577 17).toInt = ((m 17)).toInt := by rw [em3578]; exact ek3372
                  have B3582 : sf_B 0 600 (m3577 16) := by rw [em3578]; exact B3573
                  have ek3583 : (m3577 16).toInt = ((m3362 12)).toInt := by rw [em3578]; rfl
                  have W3584 : rf_W [10, 12, 13, 14, 16, 17, 18, 22] m m3577 := by rw [em3578]; exact W3373.put (by decide)
                  refine pm_R_op pm_M184 (pc' := 9) (st' := [.int 0]) rfl rfl rfl ?_
                  refine pm_R_ret pm_M184 (r := some (.int 0)) rfl rfl ?_
                  show pm_R _ 183 12 [.ref 41, .int 2, .int 49, .int (-1)] [.int 0] _ _
                  refine pm_R_ret pm_M183 (r := some (.int 0)) rfl rfl ?_
                  show pm_R _ 187 173 [.ref 41, .long a0, pm_no, .int a1] [.int 0] _ _
                  refine pm_R_br pm_M187 (pc' := 176) (st' := []) (pm_q187_1 (Nat.le_of_ble_eq_true rfl)) rfl ?_
                  refine pm_R_op pm_M187 (pc' := 177) (st' := [.int 0]) (pm_q187_1 (Nat.le_of_ble_eq_true rfl)) rfl rfl ?_
                  have B3585 : sf_B 0 600 (m3577 10) := T3575.2.2.1 10
                  exact pm_R_ret pm_M187 (r := some (.int 0)) (pm_q187_1 (Nat.le_of_ble_eq_true rfl)) rfl (K0 m3577 w3363 h3574 T3575 F3579 W3584 (sf_aux89 _ _ _ _ _ X2491 X3084 X3368))
            · skip
              refine pm_R_lo pm_M183 (pc' := 9) rfl rfl rfl ?_
              refine pm_R_cv pm_M183 (pc' := 12) (a := 41) (ra := []) (rest := []) (ls' := [.ref 41]) rfl rfl (Or.inl rfl) pm_M184 T3081.2.1 rfl (by decide) (Nat.lt_of_lt_of_le (by decide) T3081.1) rfl rfl (Nat.le_of_ble_eq_true rfl) rfl rfl ?_
              refine pm_R_lo pm_M184 (pc' := 1) rfl rfl rfl ?_
              refine pm_R_lo pm_M184 (pc' := 2) rfl rfl rfl ?_
              have B3586 : sf_B 0 600 (m3078 12) := T3081.2.2.1 12
              refine rf_R_get pm_M184 T3081 (pc' := 5) (v := .int (m3078 12)) rfl rfl rfl rfl ?_
              refine rf_R_put pm_M184 T3081 (pc' := 8) rfl rfl rfl (by decide) rfl rfl B3586 rfl rfl (fun h3587 m3590 em3591 T3588 F3589 => ?_)
              have F3592 := F3086.trans F3589 (by decide)
              have B3593 : sf_B 0 4 (m3590 17) := by rw [em3591]; exact B3087
              have ek3594 : (m3590 17).toInt = ((m 17)).toInt := by rw [em3591]; exact ek3088
              have B3595 : sf_B 0 600 (m3590 16) := by rw [em3591]; exact B3586
              have ek3596 : (m3590 16).toInt = ((m3078 12)).toInt := by rw [em3591]; rfl
              have W3597 : rf_W [10, 12, 13, 14, 16, 17, 18, 22] m m3590 := by rw [em3591]; exact W3089.put (by decide)
              refine pm_R_op pm_M184 (pc' := 9) (st' := [.int 0]) rfl rfl rfl ?_
              refine pm_R_ret pm_M184 (r := some (.int 0)) rfl rfl ?_
              show pm_R _ 183 12 [.ref 41, .int 1, .int 5, .int (-1)] [.int 0] _ _
              refine pm_R_ret pm_M183 (r := some (.int 0)) rfl rfl ?_
              show pm_R _ 187 162 [.ref 41, .long a0, pm_no, .int a1] [.int 0] _ _
              refine pm_R_br pm_M187 (pc' := 176) (st' := []) (pm_q187_1 (Nat.le_of_ble_eq_true rfl)) rfl ?_
              refine pm_R_op pm_M187 (pc' := 177) (st' := [.int 0]) (pm_q187_1 (Nat.le_of_ble_eq_true rfl)) rfl rfl ?_
              have B3598 : sf_B 0 600 (m3590 10) := T3588.2.2.1 10
              exact pm_R_ret pm_M187 (r := some (.int 0)) (pm_q187_1 (Nat.le_of_ble_eq_true rfl)) rfl (K0 m3590 w3079 h3587 T3588 F3592 W3597 (sf_aux90 _ _ _ _ X2491 X3084))
        · skip
          refine pm_R_lo pm_M183 (pc' := 9) rfl rfl rfl ?_
          refine pm_R_cv pm_M183 (pc' := 12) (a := 41) (ra := []) (rest := []) (ls' := [.ref 41]) rfl rfl (Or.inl rfl) pm_M184 T2488.2.1 rfl (by decide) (Nat.lt_of_lt_of_le (by decide) T2488.1) rfl rfl (Nat.le_of_ble_eq_true rfl) rfl rfl ?_
          refine pm_R_lo pm_M184 (pc' := 1) rfl rfl rfl ?_
          refine pm_R_lo pm_M184 (pc' := 2) rfl rfl rfl ?_
          have B3599 : sf_B 0 600 (m2485 12) := T2488.2.2.1 12
          refine rf_R_get pm_M184 T2488 (pc' := 5) (v := .int (m2485 12)) rfl rfl rfl rfl ?_
          refine rf_R_put pm_M184 T2488 (pc' := 8) rfl rfl rfl (by decide) rfl rfl B3599 rfl rfl (fun h3600 m3603 em3604 T3601 F3602 => ?_)
          have F3605 := F2493.trans F3602 (by decide)
          have B3606 : sf_B 0 4 (m3603 17) := by rw [em3604]; exact B2494
          have ek3607 : (m3603 17).toInt = ((m 17)).toInt := by rw [em3604]; exact ek2495
          have B3608 : sf_B 0 600 (m3603 16) := by rw [em3604]; exact B3599
          have ek3609 : (m3603 16).toInt = ((m2485 12)).toInt := by rw [em3604]; rfl
          have W3610 : rf_W [10, 12, 13, 14, 16, 17, 18, 22] m m3603 := by rw [em3604]; exact W2496.put (by decide)
          refine pm_R_op pm_M184 (pc' := 9) (st' := [.int 0]) rfl rfl rfl ?_
          refine pm_R_ret pm_M184 (r := some (.int 0)) rfl rfl ?_
          show pm_R _ 183 12 [.ref 41, .int 0, .int 9, .int (-1)] [.int 0] _ _
          refine pm_R_ret pm_M183 (r := some (.int 0)) rfl rfl ?_
          show pm_R _ 187 152 [.ref 41, .long a0, pm_no, .int a1] [.int 0] _ _
          refine pm_R_br pm_M187 (pc' := 176) (st' := []) (pm_q187_1 (Nat.le_of_ble_eq_true rfl)) rfl ?_
          refine pm_R_op pm_M187 (pc' := 177) (st' := [.int 0]) (pm_q187_1 (Nat.le_of_ble_eq_true rfl)) rfl rfl ?_
          have B3611 : sf_B 0 600 (m3603 10) := T3601.2.2.1 10
          exact pm_R_ret pm_M187 (r := some (.int 0)) (pm_q187_1 (Nat.le_of_ble_eq_true rfl)) rfl (K0 m3603 w2486 h3600 T3601 F3605 W3610 (sf_aux91 _ _ _ X2491))
      · have B3612 : sf_B 16 16 (f2 1) := sf_eqL (Classical.not_not.mp c2481) sf_k16
        refine pm_R_lo pm_M187 (pc' := 68) rfl rfl rfl ?_
        refine pm_R_op pm_M187 (pc' := 69) (st' := [.int 3, .ref 41]) rfl rfl rfl ?_
        refine pm_R_lo pm_M187 (pc' := 70) rfl rfl rfl ?_
        refine pm_R_cv pm_M187 (pc' := 73) (a := 41) (ra := [.int a1, .int 3]) (rest := []) (ls' := [.ref 41, .int 3, .int a1]) rfl rfl (Or.inl rfl) pm_M182 T.2.1 rfl (by decide) (Nat.lt_of_lt_of_le (by decide) T.1) rfl rfl (Nat.le_of_ble_eq_true rfl) rfl rfl ?_
        refine rf_c182 (d := d + 2) T (sf_weak sf_k3 (by decide) (by decide)) Ba1 (fun m3615 w3616 h3617 T3618 F3619 W3620 B3621 => ?_)
        have F3622 := (rf_G.refl [41, 51, 52] h).trans F3619 (by decide)
        have B3623 : sf_B 0 600 (m3615 10) := by rw [W3620 10 (by decide)]; exact B1
        have ek3624 : (m3615 10).toInt = ((m 10)).toInt := by rw [W3620 10 (by decide)]
        have W3625 : rf_W [10, 12, 13, 14, 16, 17, 18, 22] m m3615 := (rf_W.refl [10, 12, 13, 14, 16, 17, 18, 22] m).trans W3620 (by decide)
        show pm_R _ 187 73 [.ref 41, .long a0, pm_no, .int a1] [] _ _
        refine pm_R_lo pm_M187 (pc' := 74) rfl rfl rfl ?_
        refine pm_R_cv pm_M187 (pc' := 77) (a := 41) (ra := []) (rest := []) (ls' := [.ref 41, pm_no, pm_no]) rfl rfl (Or.inl rfl) pm_M179 T3618.2.1 rfl (by decide) (Nat.lt_of_lt_of_le (by decide) T3618.1) rfl rfl (Nat.le_of_ble_eq_true rfl) rfl rfl ?_
        refine rf_c179 (d := d + 1) T3618  (fun m3628 w3629 h3630 T3631 F3632 W3633 X3634 X3635 => ?_)
        have F3636 := F3622.trans F3632 (by decide)
        have B3637 : sf_B 1 4 (m3628 17) := by rw [W3633 17 (by decide)]; exact B3621
        have ek3638 : (m3628 17).toInt = ((m3615 17)).toInt := by rw [W3633 17 (by decide)]
        have W3639 : rf_W [10, 12, 13, 14, 16, 17, 18, 22] m m3628 := W3625.trans W3633 (by decide)
        show pm_R _ 187 77 [.ref 41, .long a0, pm_no, .int a1] [] _ _
        refine pm_R_lo pm_M187 (pc' := 78) rfl rfl rfl ?_
        refine pm_R_ldc2 pm_M187 (pc' := 81) rfl rfl rfl ?_
        refine pm_R_op pm_M187 (pc' := 82) (st' := [.int z7]) rfl (by show some (Value.int (lg_cmp a0 1920298085) :: _) = _; rw [← e8]) rfl ?_
        refine pm_R_ifc pm_M187 (t := 136) (pc' := 85) rfl rfl rfl (fun c3642 => ?_) (fun c3642 => absurd (Classical.not_not.mp c3642) c9)
        have k3643 := sf_lneC e8 c3642
        refine pm_R_lo pm_M187 (pc' := 137) (pm_q187_1 (Nat.le_of_ble_eq_true rfl)) rfl rfl ?_
        refine pm_R_ldc2 pm_M187 (pc' := 140) (pm_q187_1 (Nat.le_of_ble_eq_true rfl)) rfl rfl ?_
        refine pm_R_op pm_M187 (pc' := 141) (st' := [.int z2467]) (pm_q187_1 (Nat.le_of_ble_eq_true rfl)) (by show some (Value.int (lg_cmp a0 1936287598) :: _) = _; rw [← e2468]) rfl ?_
        refine pm_R_ifc pm_M187 (t := 191) (pc' := 144) (pm_q187_1 (Nat.le_of_ble_eq_true rfl)) rfl rfl (fun c3646 => absurd (sf_pt2 B2470 sf_k0) c3646) (fun c3646 => ?_)
        refine pm_R_lo pm_M187 (pc' := 145) (pm_q187_1 (Nat.le_of_ble_eq_true rfl)) rfl rfl ?_
        refine pm_R_op pm_M187 (pc' := 146) (st' := [.int 0, .ref 41]) (pm_q187_1 (Nat.le_of_ble_eq_true rfl)) rfl rfl ?_
        refine pm_R_op pm_M187 (pc' := 148) (st' := [.int 9, .int 0, .ref 41]) (pm_q187_1 (Nat.le_of_ble_eq_true rfl)) rfl rfl ?_
        refine pm_R_op pm_M187 (pc' := 149) (st' := [.int (-1), .int 9, .int 0, .ref 41]) (pm_q187_1 (Nat.le_of_ble_eq_true rfl)) rfl rfl ?_
        refine pm_R_cv pm_M187 (pc' := 152) (a := 41) (ra := [.int (-1), .int 9, .int 0]) (rest := []) (ls' := [.ref 41, .int 0, .int 9, .int (-1)]) (pm_q187_1 (Nat.le_of_ble_eq_true rfl)) rfl (Or.inl rfl) pm_M183 T3631.2.1 rfl (by decide) (Nat.lt_of_lt_of_le (by decide) T3631.1) rfl rfl (Nat.le_of_ble_eq_true rfl) rfl rfl ?_
        refine pm_R_lo pm_M183 (pc' := 1) rfl rfl rfl ?_
        have B3647 : sf_B 0 4 (m3628 13) := T3631.2.2.1 13
        refine rf_R_get pm_M183 T3631 (pc' := 4) (v := .int (m3628 13)) rfl rfl rfl rfl ?_
        refine pm_R_op pm_M183 (pc' := 5) (st' := [.int 3, .int (m3628 13)]) rfl rfl rfl ?_
        refine pm_R_icmp pm_M183 (t := 13) (pc' := 8) rfl rfl rfl (fun c3648 => ?_) (fun c3648 => ?_)
        · have B3649 : sf_B 3 3 (m3628 13) := sf_eqL c3648 sf_k3
          refine pm_R_lo pm_M183 (pc' := 14) rfl rfl rfl ?_
          refine rf_R_get pm_M183 T3631 (pc' := 17) (v := .ref 52) rfl rfl rfl rfl ?_
          refine pm_R_lo pm_M183 (pc' := 18) rfl rfl rfl ?_
          refine pm_R_lo pm_M183 (pc' := 19) rfl rfl rfl ?_
          have B3650 : sf_B 0 99 (m3628 14) := T3631.2.2.1 14
          refine rf_R_get pm_M183 T3631 (pc' := 22) (v := .int (m3628 14)) rfl rfl rfl rfl ?_
          obtain ⟨f3651, e3652, b3653⟩ := T3631.2.2.2.1 52 (by decide) (by decide)
          refine rf_R_ist pm_M183 T3631 (pc' := 23) rfl e3652 (by decide) (by decide) rfl ⟨_, rfl, sf_upd b3653 (sf_weak B3650 (by decide) (by decide)) _⟩ rfl (fun h3654 T3655 F3656 e3657 => ?_)
          have F3658 := F3636.trans F3656 (by decide)
          refine pm_R_lo pm_M183 (pc' := 24) rfl rfl rfl ?_
          refine rf_R_get pm_M183 T3655 (pc' := 27) (v := .int (m3628 14)) rfl rfl rfl rfl ?_
          refine pm_R_lo pm_M183 (pc' := 28) rfl rfl rfl ?_
          refine pm_R_icmp pm_M183 (t := 39) (pc' := 31) rfl rfl rfl (fun c3659 => ?_) (fun c3659 => ?_)
          · have B3660 : sf_B 10 99 (m3628 14) := sf_ltR c3659 sf_k9 B3650
            refine pm_R_lo pm_M183 (pc' := 40) rfl rfl rfl ?_
            refine pm_R_op pm_M183 (pc' := 41) (st' := [.int 2, .ref 41]) rfl rfl rfl ?_
            refine pm_R_lo pm_M183 (pc' := 42) rfl rfl rfl ?_
            have B3661 : sf_B 0 600 (m3628 12) := T3655.2.2.1 12
            refine rf_R_get pm_M183 T3655 (pc' := 45) (v := .int (m3628 12)) rfl rfl rfl rfl ?_
            refine pm_R_cv pm_M183 (pc' := 48) (a := 41) (ra := [.int (m3628 12), .int 2]) (rest := []) (ls' := [.ref 41, .int 2, .int (m3628 12)]) rfl rfl (Or.inl rfl) pm_M182 T3655.2.1 rfl (by decide) (Nat.lt_of_lt_of_le (by decide) T3655.1) rfl rfl (Nat.le_of_ble_eq_true rfl) rfl rfl ?_
            refine rf_c182 (d := d + 1) T3655 (sf_weak sf_k2 (by decide) (by decide)) B3661 (fun m3664 w3665 h3666 T3667 F3668 W3669 B3670 => ?_)
            have F3671 := F3658.trans F3668 (by decide)
            have B3672 : sf_B 3 3 (m3664 13) := by rw [W3669 13 (by decide)]; exact B3649
            have B3673 : sf_B 10 99 (m3664 14) := by rw [W3669 14 (by decide)]; exact B3660
            have W3674 : rf_W [10, 12, 13, 14, 16, 17, 18, 22] m m3664 := W3639.trans W3669 (by decide)
            show pm_R _ 183 48 [.ref 41, .int 0, .int 9, .int (-1)] [] _ _
            refine pm_R_lo pm_M183 (pc' := 49) rfl rfl rfl ?_
            refine pm_R_op pm_M183 (pc' := 50) (st' := [.int 0, .ref 41]) rfl rfl rfl ?_
            refine rf_R_put pm_M183 T3667 (pc' := 53) rfl rfl rfl (by decide) rfl rfl (sf_weak sf_k0 (by decide) (by decide)) rfl rfl (fun h3675 m3678 em3679 T3676 F3677 => ?_)
            have F3680 := F3671.trans F3677 (by decide)
            have B3681 : sf_B 3 3 (m3678 13) := by rw [em3679]; exact B3672
            have B3682 : sf_B 10 99 (m3678 14) := by rw [em3679]; exact B3673
            have B3683 : sf_B 1 4 (m3678 17) := by rw [em3679]; exact B3670
            have ek3684 : (m3678 17).toInt = ((m3664 17)).toInt := by rw [em3679]; rfl
            have B3685 : sf_B 0 0 (m3678 22) := by rw [em3679]; exact sf_k0
            have W3687 : rf_W [10, 12, 13, 14, 16, 17, 18, 22] m m3678 := by rw [em3679]; exact W3674.put (by decide)
            refine pm_R_lo pm_M183 (pc' := 54) rfl rfl rfl ?_
            refine pm_R_cv pm_M183 (pc' := 57) (a := 41) (ra := []) (rest := []) (ls' := [.ref 41, pm_no, pm_no]) rfl rfl (Or.inl rfl) pm_M179 T3676.2.1 rfl (by decide) (Nat.lt_of_lt_of_le (by decide) T3676.1) rfl rfl (Nat.le_of_ble_eq_true rfl) rfl rfl ?_
            have B3688 : sf_B 0 600 (m3678 10) := T3676.2.2.1 10
            refine rf_c179 (d := d + 0) T3676  (fun m3691 w3692 h3693 T3694 F3695 W3696 X3697 X3698 => ?_)
            have F3699 := F3680.trans F3695 (by decide)
            have B3700 : sf_B 1 4 (m3691 17) := by rw [W3696 17 (by decide)]; exact B3683
            have ek3701 : (m3691 17).toInt = ((m3664 17)).toInt := by rw [W3696 17 (by decide)]; exact ek3684
            have B3702 : sf_B 0 0 (m3691 22) := by rw [W3696 22 (by decide)]; exact B3685
            have W3703 : rf_W [10, 12, 13, 14, 16, 17, 18, 22] m m3691 := W3687.trans W3696 (by decide)
            show pm_R _ 183 57 [.ref 41, .int 0, .int 9, .int (-1)] [] _ _
            refine pm_R_op pm_M183 (pc' := 58) (st' := [.int 1]) rfl rfl rfl ?_
            refine pm_R_ret pm_M183 (r := some (.int 1)) rfl rfl ?_
            show pm_R _ 187 152 [.ref 41, .long a0, pm_no, .int a1] [.int 1] _ _
            refine pm_R_br pm_M187 (pc' := 155) (st' := []) (pm_q187_1 (Nat.le_of_ble_eq_true rfl)) rfl ?_
            refine pm_R_lo pm_M187 (pc' := 156) (pm_q187_1 (Nat.le_of_ble_eq_true rfl)) rfl rfl ?_
            refine pm_R_op pm_M187 (pc' := 157) (st' := [.int 1, .ref 41]) (pm_q187_1 (Nat.le_of_ble_eq_true rfl)) rfl rfl ?_
            refine pm_R_op pm_M187 (pc' := 158) (st' := [.int 5, .int 1, .ref 41]) (pm_q187_1 (Nat.le_of_ble_eq_true rfl)) rfl rfl ?_
            refine pm_R_op pm_M187 (pc' := 159) (st' := [.int (-1), .int 5, .int 1, .ref 41]) (pm_q187_1 (Nat.le_of_ble_eq_true rfl)) rfl rfl ?_
            refine pm_R_cv pm_M187 (pc' := 162) (a := 41) (ra := [.int (-1), .int 5, .int 1]) (rest := []) (ls' := [.ref 41, .int 1, .int 5, .int (-1)]) (pm_q187_1 (Nat.le_of_ble_eq_true rfl)) rfl (Or.inl rfl) pm_M183 T3694.2.1 rfl (by decide) (Nat.lt_of_lt_of_le (by decide) T3694.1) rfl rfl (Nat.le_of_ble_eq_true rfl) rfl rfl ?_
            refine pm_R_lo pm_M183 (pc' := 1) rfl rfl rfl ?_
            have B3704 : sf_B 0 4 (m3691 13) := T3694.2.2.1 13
            refine rf_R_get pm_M183 T3694 (pc' := 4) (v := .int (m3691 13)) rfl rfl rfl rfl ?_
            refine pm_R_op pm_M183 (pc' := 5) (st' := [.int 3, .int (m3691 13)]) rfl rfl rfl ?_
            refine pm_R_icmp pm_M183 (t := 13) (pc' := 8) rfl rfl rfl (fun c3705 => ?_) (fun c3705 => ?_)
            · have B3706 : sf_B 3 3 (m3691 13) := sf_eqL c3705 sf_k3
              refine pm_R_lo pm_M183 (pc' := 14) rfl rfl rfl ?_
              refine rf_R_get pm_M183 T3694 (pc' := 17) (v := .ref 52) rfl rfl rfl rfl ?_
              refine pm_R_lo pm_M183 (pc' := 18) rfl rfl rfl ?_
              refine pm_R_lo pm_M183 (pc' := 19) rfl rfl rfl ?_
              have B3707 : sf_B 0 99 (m3691 14) := T3694.2.2.1 14
              refine rf_R_get pm_M183 T3694 (pc' := 22) (v := .int (m3691 14)) rfl rfl rfl rfl ?_
              have e3708 := (F3695.cell (by decide) (F3677.cell (by decide) (F3668.cell (by decide) e3657)))
              refine rf_R_ist pm_M183 T3694 (pc' := 23) rfl e3708 (by decide) (by decide) rfl ⟨_, rfl, sf_upd (sf_upd b3653 (sf_weak B3650 (by decide) (by decide)) _) (sf_weak B3707 (by decide) (by decide)) _⟩ rfl (fun h3709 T3710 F3711 e3712 => ?_)
              have F3713 := F3699.trans F3711 (by decide)
              refine pm_R_lo pm_M183 (pc' := 24) rfl rfl rfl ?_
              refine rf_R_get pm_M183 T3710 (pc' := 27) (v := .int (m3691 14)) rfl rfl rfl rfl ?_
              refine pm_R_lo pm_M183 (pc' := 28) rfl rfl rfl ?_
              refine pm_R_icmp pm_M183 (t := 39) (pc' := 31) rfl rfl rfl (fun c3714 => ?_) (fun c3714 => ?_)
              · have B3715 : sf_B 6 99 (m3691 14) := sf_ltR c3714 sf_k5 B3707
                refine pm_R_lo pm_M183 (pc' := 40) rfl rfl rfl ?_
                refine pm_R_op pm_M183 (pc' := 41) (st' := [.int 2, .ref 41]) rfl rfl rfl ?_
                refine pm_R_lo pm_M183 (pc' := 42) rfl rfl rfl ?_
                have B3716 : sf_B 0 600 (m3691 12) := T3710.2.2.1 12
                refine rf_R_get pm_M183 T3710 (pc' := 45) (v := .int (m3691 12)) rfl rfl rfl rfl ?_
                refine pm_R_cv pm_M183 (pc' := 48) (a := 41) (ra := [.int (m3691 12), .int 2]) (rest := []) (ls' := [.ref 41, .int 2, .int (m3691 12)]) rfl rfl (Or.inl rfl) pm_M182 T3710.2.1 rfl (by decide) (Nat.lt_of_lt_of_le (by decide) T3710.1) rfl rfl (Nat.le_of_ble_eq_true rfl) rfl rfl ?_
                refine rf_c182 (d := d + 1) T3710 (sf_weak sf_k2 (by decide) (by decide)) B3716 (fun m3719 w3720 h3721 T3722 F3723 W3724 B3725 => ?_)
                have F3726 := F3713.trans F3723 (by decide)
                have B3727 : sf_B 0 0 (m3719 22) := by rw [W3724 22 (by decide)]; exact B3702
                have B3728 : sf_B 3 3 (m3719 13) := by rw [W3724 13 (by decide)]; exact B3706
                have B3729 : sf_B 6 99 (m3719 14) := by rw [W3724 14 (by decide)]; exact B3715
                have W3730 : rf_W [10, 12, 13, 14, 16, 17, 18, 22] m m3719 := W3703.trans W3724 (by decide)
                show pm_R _ 183 48 [.ref 41, .int 1, .int 5, .int (-1)] [] _ _
                refine pm_R_lo pm_M183 (pc' := 49) rfl rfl rfl ?_
                refine pm_R_op pm_M183 (pc' := 50) (st' := [.int 0, .ref 41]) rfl rfl rfl ?_
                refine rf_R_put pm_M183 T3722 (pc' := 53) rfl rfl rfl (by decide) rfl rfl (sf_weak sf_k0 (by decide) (by decide)) rfl rfl (fun h3731 m3734 em3735 T3732 F3733 => ?_)
                have F3736 := F3726.trans F3733 (by decide)
                have B3737 : sf_B 3 3 (m3734 13) := by rw [em3735]; exact B3728
                have B3738 : sf_B 6 99 (m3734 14) := by rw [em3735]; exact B3729
                have B3739 : sf_B 1 4 (m3734 17) := by rw [em3735]; exact B3725
                have ek3740 : (m3734 17).toInt = ((m3719 17)).toInt := by rw [em3735]; rfl
                have B3741 : sf_B 0 0 (m3734 22) := by rw [em3735]; exact sf_k0
                have W3743 : rf_W [10, 12, 13, 14, 16, 17, 18, 22] m m3734 := by rw [em3735]; exact W3730.put (by decide)
                refine pm_R_lo pm_M183 (pc' := 54) rfl rfl rfl ?_
                refine pm_R_cv pm_M183 (pc' := 57) (a := 41) (ra := []) (rest := []) (ls' := [.ref 41, pm_no, pm_no]) rfl rfl (Or.inl rfl) pm_M179 T3732.2.1 rfl (by decide) (Nat.lt_of_lt_of_le (by decide) T3732.1) rfl rfl (Nat.le_of_ble_eq_true rfl) rfl rfl ?_
                have B3744 : sf_B 0 600 (m3734 10) := T3732.2.2.1 10
                refine rf_c179 (d := d + 0) T3732  (fun m3747 w3748 h3749 T3750 F3751 W3752 X3753 X3754 => ?_)
                have F3755 := F3736.trans F3751 (by decide)
                have B3756 : sf_B 1 4 (m3747 17) := by rw [W3752 17 (by decide)]; exact B3739
                have ek3757 : (m3747 17).toInt = ((m3719 17)).toInt := by rw [W3752 17 (by decide)]; exact ek3740
                have B3758 : sf_B 0 0 (m3747 22) := by rw [W3752 22 (by decide)]; exact B3741
                have W3759 : rf_W [10, 12, 13, 14, 16, 17, 18, 22] m m3747 := W3743.trans W3752 (by decide)
                show pm_R _ 183 57 [.ref 41, .int 1, .int 5, .int (-1)] [] _ _
                refine pm_R_op pm_M183 (pc' := 58) (st' := [.int 1]) rfl rfl rfl ?_
                refine pm_R_ret pm_M183 (r := some (.int 1)) rfl rfl ?_
                show pm_R _ 187 162 [.ref 41, .long a0, pm_no, .int a1] [.int 1] _ _
                refine pm_R_br pm_M187 (pc' := 165) (st' := []) (pm_q187_1 (Nat.le_of_ble_eq_true rfl)) rfl ?_
                refine pm_R_lo pm_M187 (pc' := 166) (pm_q187_1 (Nat.le_of_ble_eq_true rfl)) rfl rfl ?_
                refine pm_R_op pm_M187 (pc' := 167) (st' := [.int 2, .ref 41]) (pm_q187_1 (Nat.le_of_ble_eq_true rfl)) rfl rfl ?_
                refine pm_R_op pm_M187 (pc' := 169) (st' := [.int 49, .int 2, .ref 41]) (pm_q187_1 (Nat.le_of_ble_eq_true rfl)) rfl rfl ?_
                refine pm_R_op pm_M187 (pc' := 170) (st' := [.int (-1), .int 49, .int 2, .ref 41]) (pm_q187_1 (Nat.le_of_ble_eq_true rfl)) rfl rfl ?_
                refine pm_R_cv pm_M187 (pc' := 173) (a := 41) (ra := [.int (-1), .int 49, .int 2]) (rest := []) (ls' := [.ref 41, .int 2, .int 49, .int (-1)]) (pm_q187_1 (Nat.le_of_ble_eq_true rfl)) rfl (Or.inl rfl) pm_M183 T3750.2.1 rfl (by decide) (Nat.lt_of_lt_of_le (by decide) T3750.1) rfl rfl (Nat.le_of_ble_eq_true rfl) rfl rfl ?_
                refine pm_R_lo pm_M183 (pc' := 1) rfl rfl rfl ?_
                have B3760 : sf_B 0 4 (m3747 13) := T3750.2.2.1 13
                refine rf_R_get pm_M183 T3750 (pc' := 4) (v := .int (m3747 13)) rfl rfl rfl rfl ?_
                refine pm_R_op pm_M183 (pc' := 5) (st' := [.int 3, .int (m3747 13)]) rfl rfl rfl ?_
                refine pm_R_icmp pm_M183 (t := 13) (pc' := 8) rfl rfl rfl (fun c3761 => ?_) (fun c3761 => ?_)
                · have B3762 : sf_B 3 3 (m3747 13) := sf_eqL c3761 sf_k3
                  refine pm_R_lo pm_M183 (pc' := 14) rfl rfl rfl ?_
                  refine rf_R_get pm_M183 T3750 (pc' := 17) (v := .ref 52) rfl rfl rfl rfl ?_
                  refine pm_R_lo pm_M183 (pc' := 18) rfl rfl rfl ?_
                  refine pm_R_lo pm_M183 (pc' := 19) rfl rfl rfl ?_
                  have B3763 : sf_B 0 99 (m3747 14) := T3750.2.2.1 14
                  refine rf_R_get pm_M183 T3750 (pc' := 22) (v := .int (m3747 14)) rfl rfl rfl rfl ?_
                  have e3764 := (F3751.cell (by decide) (F3733.cell (by decide) (F3723.cell (by decide) e3712)))
                  refine rf_R_ist pm_M183 T3750 (pc' := 23) rfl e3764 (by decide) (by decide) rfl ⟨_, rfl, sf_upd (sf_upd (sf_upd b3653 (sf_weak B3650 (by decide) (by decide)) _) (sf_weak B3707 (by decide) (by decide)) _) (sf_weak B3763 (by decide) (by decide)) _⟩ rfl (fun h3765 T3766 F3767 e3768 => ?_)
                  have F3769 := F3755.trans F3767 (by decide)
                  refine pm_R_lo pm_M183 (pc' := 24) rfl rfl rfl ?_
                  refine rf_R_get pm_M183 T3766 (pc' := 27) (v := .int (m3747 14)) rfl rfl rfl rfl ?_
                  refine pm_R_lo pm_M183 (pc' := 28) rfl rfl rfl ?_
                  refine pm_R_icmp pm_M183 (t := 39) (pc' := 31) rfl rfl rfl (fun c3770 => ?_) (fun c3770 => ?_)
                  · have B3771 : sf_B 50 99 (m3747 14) := sf_ltR c3770 sf_k49 B3763
                    refine pm_R_lo pm_M183 (pc' := 40) rfl rfl rfl ?_
                    refine pm_R_op pm_M183 (pc' := 41) (st' := [.int 2, .ref 41]) rfl rfl rfl ?_
                    refine pm_R_lo pm_M183 (pc' := 42) rfl rfl rfl ?_
                    have B3772 : sf_B 0 600 (m3747 12) := T3766.2.2.1 12
                    refine rf_R_get pm_M183 T3766 (pc' := 45) (v := .int (m3747 12)) rfl rfl rfl rfl ?_
                    refine pm_R_cv pm_M183 (pc' := 48) (a := 41) (ra := [.int (m3747 12), .int 2]) (rest := []) (ls' := [.ref 41, .int 2, .int (m3747 12)]) rfl rfl (Or.inl rfl) pm_M182 T3766.2.1 rfl (by decide) (Nat.lt_of_lt_of_le (by decide) T3766.1) rfl rfl (Nat.le_of_ble_eq_true rfl) rfl rfl ?_
                    refine rf_c182 (d := d + 1) T3766 (sf_weak sf_k2 (by decide) (by decide)) B3772 (fun m3775 w3776 h3777 T3778 F3779 W3780 B3781 => ?_)
                    have F3782 := F3769.trans F3779 (by decide)
                    have B3783 : sf_B 0 0 (m3775 22) := by rw [W3780 22 (by decide)]; exact B3758
                    have B3784 : sf_B 3 3 (m3775 13) := by rw [W3780 13 (by decide)]; exact B3762
                    have B3785 : sf_B 50 99 (m3775 14) := by rw [W3780 14 (by decide)]; exact B3771
                    have W3786 : rf_W [10, 12, 13, 14, 16, 17, 18, 22] m m3775 := W3759.trans W3780 (by decide)
                    show pm_R _ 183 48 [.ref 41, .int 2, .int 49, .int (-1)] [] _ _
                    refine pm_R_lo pm_M183 (pc' := 49) rfl rfl rfl ?_
                    refine pm_R_op pm_M183 (pc' := 50) (st' := [.int 0, .ref 41]) rfl rfl rfl ?_
                    refine rf_R_put pm_M183 T3778 (pc' := 53) rfl rfl rfl (by decide) rfl rfl (sf_weak sf_k0 (by decide) (by decide)) rfl rfl (fun h3787 m3790 em3791 T3788 F3789 => ?_)
                    have F3792 := F3782.trans F3789 (by decide)
                    have B3793 : sf_B 3 3 (m3790 13) := by rw [em3791]; exact B3784
                    have B3794 : sf_B 50 99 (m3790 14) := by rw [em3791]; exact B3785
                    have B3795 : sf_B 1 4 (m3790 17) := by rw [em3791]; exact B3781
                    have ek3796 : (m3790 17).toInt = ((m3775 17)).toInt := by rw [em3791]; rfl
                    have B3797 : sf_B 0 0 (m3790 22) := by rw [em3791]; exact sf_k0
                    have W3799 : rf_W [10, 12, 13, 14, 16, 17, 18, 22] m m3790 := by rw [em3791]; exact W3786.put (by decide)
                    refine pm_R_lo pm_M183 (pc' := 54) rfl rfl rfl ?_
                    refine pm_R_cv pm_M183 (pc' := 57) (a := 41) (ra := []) (rest := []) (ls' := [.ref 41, pm_no, pm_no]) rfl rfl (Or.inl rfl) pm_M179 T3788.2.1 rfl (by decide) (Nat.lt_of_lt_of_le (by decide) T3788.1) rfl rfl (Nat.le_of_ble_eq_true rfl) rfl rfl ?_
                    have B3800 : sf_B 0 600 (m3790 10) := T3788.2.2.1 10
                    refine rf_c179 (d := d + 0) T3788  (fun m3803 w3804 h3805 T3806 F3807 W3808 X3809 X3810 => ?_)
                    have F3811 := F3792.trans F3807 (by decide)
                    have B3812 : sf_B 1 4 (m3803 17) := by rw [W3808 17 (by decide)]; exact B3795
                    have ek3813 : (m3803 17).toInt = ((m3775 17)).toInt := by rw [W3808 17 (by decide)]; exact ek3796
                    have B3814 : sf_B 0 0 (m3803 22) := by rw [W3808 22 (by decide)]; exact B3797
                    have W3815 : rf_W [10, 12, 13, 14, 16, 17, 18, 22] m m3803 := W3799.trans W3808 (by decide)
                    show pm_R _ 183 57 [.ref 41, .int 2, .int 49, .int (-1)] [] _ _
                    refine pm_R_op pm_M183 (pc' := 58) (st' := [.int 1]) rfl rfl rfl ?_
                    refine pm_R_ret pm_M183 (r := some (.int 1)) rfl rfl ?_
                    show pm_R _ 187 173 [.ref 41, .long a0, pm_no, .int a1] [.int 1] _ _
                    refine pm_R_br pm_M187 (pc' := 178) (st' := []) (pm_q187_1 (Nat.le_of_ble_eq_true rfl)) rfl ?_
                    refine pm_R_lo pm_M187 (pc' := 179) (pm_q187_1 (Nat.le_of_ble_eq_true rfl)) rfl rfl ?_
                    refine pm_R_op pm_M187 (pc' := 180) (st' := [.int 1, .ref 41]) (pm_q187_1 (Nat.le_of_ble_eq_true rfl)) rfl rfl ?_
                    refine pm_R_op pm_M187 (pc' := 182) (st' := [.int 42, .int 1, .ref 41]) (pm_q187_1 (Nat.le_of_ble_eq_true rfl)) rfl rfl ?_
                    refine pm_R_op pm_M187 (pc' := 183) (st' := [.int 3, .int 42, .int 1, .ref 41]) (pm_q187_1 (Nat.le_of_ble_eq_true rfl)) rfl rfl ?_
                    refine pm_R_op pm_M187 (pc' := 185) (st' := [.int 16, .int 3, .int 42, .int 1, .ref 41]) (pm_q187_1 (Nat.le_of_ble_eq_true rfl)) rfl rfl ?_
                    refine pm_R_op pm_M187 (pc' := 186) (st' := [.int 0, .int 16, .int 3, .int 42, .int 1, .ref 41]) (pm_q187_1 (Nat.le_of_ble_eq_true rfl)) rfl rfl ?_
                    refine pm_R_cv pm_M187 (pc' := 189) (a := 41) (ra := [.int 0, .int 16, .int 3, .int 42, .int 1]) (rest := []) (ls' := [.ref 41, .int 1, .int 42, .int 3, .int 16, .int 0, pm_no, pm_no]) (pm_q187_1 (Nat.le_of_ble_eq_true rfl)) rfl (Or.inl rfl) pm_M185 T3806.2.1 rfl (by decide) (Nat.lt_of_lt_of_le (by decide) T3806.1) rfl rfl (Nat.le_of_ble_eq_true rfl) rfl rfl ?_
                    refine pm_R_lo pm_M185 (pc' := 1) rfl rfl rfl ?_
                    refine rf_R_get pm_M185 T3806 (pc' := 4) (v := .ref 51) rfl rfl rfl rfl ?_
                    refine pm_R_lo pm_M185 (pc' := 5) rfl rfl rfl ?_
                    have e3816 := (F3807.cell (by decide) (F3789.cell (by decide) (F3779.cell (by decide) (F3767.cell (by decide) (F3751.cell (by decide) (F3733.cell (by decide) (F3723.cell (by decide) (F3711.cell (by decide) (F3695.cell (by decide) (F3677.cell (by decide) (F3668.cell (by decide) (F3656.cell (by decide) (F3632.cell (by decide) (F3619.cell (by decide) e3))))))))))))))
                    refine pm_R_iald pm_M185 (pc' := 6) (v := (f2 1)) rfl e3816 (Nat.lt_of_lt_of_le (by decide) T3806.1) rfl rfl rfl ?_
                    refine pm_R_lo pm_M185 (pc' := 8) (ls' := [.ref 41, .int 1, .int 42, .int 3, .int 16, .int 0, .int (f2 1), pm_no]) (st' := []) rfl rfl rfl ?_
                    refine pm_R_lo pm_M185 (pc' := 10) rfl rfl rfl ?_
                    refine pm_R_lo pm_M185 (pc' := 12) rfl rfl rfl ?_
                    refine pm_R_icmp pm_M185 (t := 16) (pc' := 15) rfl rfl rfl (fun c3819 => absurd (sf_pt2 B3612 sf_k16) c3819) (fun c3819 => ?_)
                    refine pm_R_ret pm_M185 (r := none) rfl rfl ?_
                    show pm_R _ 187 189 [.ref 41, .long a0, pm_no, .int a1] [] _ _
                    refine pm_R_op pm_M187 (pc' := 190) (st' := [.int 1]) (pm_q187_1 (Nat.le_of_ble_eq_true rfl)) rfl rfl ?_
                    have B3820 : sf_B 0 600 (m3803 10) := T3806.2.2.1 10
                    exact pm_R_ret pm_M187 (r := some (.int 1)) (pm_q187_1 (Nat.le_of_ble_eq_true rfl)) rfl (K1 m3803 w3804 h3805 T3806 F3811 W3815 (⟨f2, e3816, ct4, fun z => (sf_pos B3812 (by decide) z)⟩) (sf_aux100 _ _ _ _ _ _ _ _ _ X3634 X3697 X3753 X3809))
                  · have B3821 : sf_B 0 49 (m3747 14) := sf_leL (Int32.not_lt.mp c3770) B3763 sf_k49
                    refine pm_R_lo pm_M183 (pc' := 32) rfl rfl rfl ?_
                    refine rf_R_get pm_M183 T3766 (pc' := 35) (v := .int (m3747 14)) rfl rfl rfl rfl ?_
                    refine pm_R_lo pm_M183 (pc' := 36) rfl rfl rfl ?_
                    refine pm_R_icmp pm_M183 (t := 53) (pc' := 39) rfl rfl rfl (fun c3822 => ?_) (fun c3822 => absurd (Classical.not_not.mp c3822) (sf_neq1 B3821 sf_kn1 (by decide)))
                    skip
                    refine pm_R_lo pm_M183 (pc' := 54) rfl rfl rfl ?_
                    refine pm_R_cv pm_M183 (pc' := 57) (a := 41) (ra := []) (rest := []) (ls' := [.ref 41, pm_no, pm_no]) rfl rfl (Or.inl rfl) pm_M179 T3766.2.1 rfl (by decide) (Nat.lt_of_lt_of_le (by decide) T3766.1) rfl rfl (Nat.le_of_ble_eq_true rfl) rfl rfl ?_
                    have B3823 : sf_B 0 600 (m3747 10) := T3766.2.2.1 10
                    refine rf_c179 (d := d + 0) T3766  (fun m3826 w3827 h3828 T3829 F3830 W3831 X3832 X3833 => ?_)
                    have F3834 := F3769.trans F3830 (by decide)
                    have B3835 : sf_B 1 4 (m3826 17) := by rw [W3831 17 (by decide)]; exact B3756
                    have ek3836 : (m3826 17).toInt = ((m3719 17)).toInt := by rw [W3831 17 (by decide)]; exact ek3757
                    have B3837 : sf_B 0 0 (m3826 22) := by rw [W3831 22 (by decide)]; exact B3758
                    have W3838 : rf_W [10, 12, 13, 14, 16, 17, 18, 22] m m3826 := W3759.trans W3831 (by decide)
                    show pm_R _ 183 57 [.ref 41, .int 2, .int 49, .int (-1)] [] _ _
                    refine pm_R_op pm_M183 (pc' := 58) (st' := [.int 1]) rfl rfl rfl ?_
                    refine pm_R_ret pm_M183 (r := some (.int 1)) rfl rfl ?_
                    show pm_R _ 187 173 [.ref 41, .long a0, pm_no, .int a1] [.int 1] _ _
                    refine pm_R_br pm_M187 (pc' := 178) (st' := []) (pm_q187_1 (Nat.le_of_ble_eq_true rfl)) rfl ?_
                    refine pm_R_lo pm_M187 (pc' := 179) (pm_q187_1 (Nat.le_of_ble_eq_true rfl)) rfl rfl ?_
                    refine pm_R_op pm_M187 (pc' := 180) (st' := [.int 1, .ref 41]) (pm_q187_1 (Nat.le_of_ble_eq_true rfl)) rfl rfl ?_
                    refine pm_R_op pm_M187 (pc' := 182) (st' := [.int 42, .int 1, .ref 41]) (pm_q187_1 (Nat.le_of_ble_eq_true rfl)) rfl rfl ?_
                    refine pm_R_op pm_M187 (pc' := 183) (st' := [.int 3, .int 42, .int 1, .ref 41]) (pm_q187_1 (Nat.le_of_ble_eq_true rfl)) rfl rfl ?_
                    refine pm_R_op pm_M187 (pc' := 185) (st' := [.int 16, .int 3, .int 42, .int 1, .ref 41]) (pm_q187_1 (Nat.le_of_ble_eq_true rfl)) rfl rfl ?_
                    refine pm_R_op pm_M187 (pc' := 186) (st' := [.int 0, .int 16, .int 3, .int 42, .int 1, .ref 41]) (pm_q187_1 (Nat.le_of_ble_eq_true rfl)) rfl rfl ?_
                    refine pm_R_cv pm_M187 (pc' := 189) (a := 41) (ra := [.int 0, .int 16, .int 3, .int 42, .int 1]) (rest := []) (ls' := [.ref 41, .int 1, .int 42, .int 3, .int 16, .int 0, pm_no, pm_no]) (pm_q187_1 (Nat.le_of_ble_eq_true rfl)) rfl (Or.inl rfl) pm_M185 T3829.2.1 rfl (by decide) (Nat.lt_of_lt_of_le (by decide) T3829.1) rfl rfl (Nat.le_of_ble_eq_true rfl) rfl rfl ?_
                    refine pm_R_lo pm_M185 (pc' := 1) rfl rfl rfl ?_
                    refine rf_R_get pm_M185 T3829 (pc' := 4) (v := .ref 51) rfl rfl rfl rfl ?_
                    refine pm_R_lo pm_M185 (pc' := 5) rfl rfl rfl ?_
                    have e3839 := (F3830.cell (by decide) (F3767.cell (by decide) (F3751.cell (by decide) (F3733.cell (by decide) (F3723.cell (by decide) (F3711.cell (by decide) (F3695.cell (by decide) (F3677.cell (by decide) (F3668.cell (by decide) (F3656.cell (by decide) (F3632.cell (by decide) (F3619.cell (by decide) e3))))))))))))
                    refine pm_R_iald pm_M185 (pc' := 6) (v := (f2 1)) rfl e3839 (Nat.lt_of_lt_of_le (by decide) T3829.1) rfl rfl rfl ?_
                    refine pm_R_lo pm_M185 (pc' := 8) (ls' := [.ref 41, .int 1, .int 42, .int 3, .int 16, .int 0, .int (f2 1), pm_no]) (st' := []) rfl rfl rfl ?_
                    refine pm_R_lo pm_M185 (pc' := 10) rfl rfl rfl ?_
                    refine pm_R_lo pm_M185 (pc' := 12) rfl rfl rfl ?_
                    refine pm_R_icmp pm_M185 (t := 16) (pc' := 15) rfl rfl rfl (fun c3842 => absurd (sf_pt2 B3612 sf_k16) c3842) (fun c3842 => ?_)
                    refine pm_R_ret pm_M185 (r := none) rfl rfl ?_
                    show pm_R _ 187 189 [.ref 41, .long a0, pm_no, .int a1] [] _ _
                    refine pm_R_op pm_M187 (pc' := 190) (st' := [.int 1]) (pm_q187_1 (Nat.le_of_ble_eq_true rfl)) rfl rfl ?_
                    have B3843 : sf_B 0 600 (m3826 10) := T3829.2.2.1 10
                    exact pm_R_ret pm_M187 (r := some (.int 1)) (pm_q187_1 (Nat.le_of_ble_eq_true rfl)) rfl (K1 m3826 w3827 h3828 T3829 F3834 W3838 (⟨f2, e3839, ct4, fun z => (sf_pos B3835 (by decide) z)⟩) (sf_aux101 _ _ _ _ _ _ _ _ X3634 X3697 X3753 X3832))
                · skip
                  refine pm_R_lo pm_M183 (pc' := 9) rfl rfl rfl ?_
                  refine pm_R_cv pm_M183 (pc' := 12) (a := 41) (ra := []) (rest := []) (ls' := [.ref 41]) rfl rfl (Or.inl rfl) pm_M184 T3750.2.1 rfl (by decide) (Nat.lt_of_lt_of_le (by decide) T3750.1) rfl rfl (Nat.le_of_ble_eq_true rfl) rfl rfl ?_
                  refine pm_R_lo pm_M184 (pc' := 1) rfl rfl rfl ?_
                  refine pm_R_lo pm_M184 (pc' := 2) rfl rfl rfl ?_
                  have B3844 : sf_B 0 600 (m3747 12) := T3750.2.2.1 12
                  refine rf_R_get pm_M184 T3750 (pc' := 5) (v := .int (m3747 12)) rfl rfl rfl rfl ?_
                  refine rf_R_put pm_M184 T3750 (pc' := 8) rfl rfl rfl (by decide) rfl rfl B3844 rfl rfl (fun h3845 m3848 em3849 T3846 F3847 => ?_)
                  have F3850 := F3755.trans F3847 (by decide)
                  have B3851 : sf_B 1 4 (m3848 17) := by rw [em3849]; exact B3756
                  have ek3852 : (m3848 17).toInt = ((m3719 17)).toInt := by rw [em3849]; exact ek3757
                  have B3853 : sf_B 0 0 (m3848 22) := by rw [em3849]; exact B3758
                  have B3854 : sf_B 0 600 (m3848 16) := by rw [em3849]; exact B3844
                  have ek3855 : (m3848 16).toInt = ((m3747 12)).toInt := by rw [em3849]; rfl
                  have W3856 : rf_W [10, 12, 13, 14, 16, 17, 18, 22] m m3848 := by rw [em3849]; exact W3759.put (by decide)
                  refine pm_R_op pm_M184 (pc' := 9) (st' := [.int 0]) rfl rfl rfl ?_
                  refine pm_R_ret pm_M184 (r := some (.int 0)) rfl rfl ?_
                  show pm_R _ 183 12 [.ref 41, .int 2, .int 49, .int (-1)] [.int 0] _ _
                  refine pm_R_ret pm_M183 (r := some (.int 0)) rfl rfl ?_
                  show pm_R _ 187 173 [.ref 41, .long a0, pm_no, .int a1] [.int 0] _ _
                  refine pm_R_br pm_M187 (pc' := 176) (st' := []) (pm_q187_1 (Nat.le_of_ble_eq_true rfl)) rfl ?_
                  refine pm_R_op pm_M187 (pc' := 177) (st' := [.int 0]) (pm_q187_1 (Nat.le_of_ble_eq_true rfl)) rfl rfl ?_
                  have B3857 : sf_B 0 600 (m3848 10) := T3846.2.2.1 10
                  exact pm_R_ret pm_M187 (r := some (.int 0)) (pm_q187_1 (Nat.le_of_ble_eq_true rfl)) rfl (K0 m3848 w3748 h3845 T3846 F3850 W3856 (sf_aux64 _ _ _ _ _ _ _ _ X3634 X3697 X3753))
              · have B3858 : sf_B 0 5 (m3691 14) := sf_leL (Int32.not_lt.mp c3714) B3707 sf_k5
                refine pm_R_lo pm_M183 (pc' := 32) rfl rfl rfl ?_
                refine rf_R_get pm_M183 T3710 (pc' := 35) (v := .int (m3691 14)) rfl rfl rfl rfl ?_
                refine pm_R_lo pm_M183 (pc' := 36) rfl rfl rfl ?_
                refine pm_R_icmp pm_M183 (t := 53) (pc' := 39) rfl rfl rfl (fun c3859 => ?_) (fun c3859 => absurd (Classical.not_not.mp c3859) (sf_neq1 B3858 sf_kn1 (by decide)))
                skip
                refine pm_R_lo pm_M183 (pc' := 54) rfl rfl rfl ?_
                refine pm_R_cv pm_M183 (pc' := 57) (a := 41) (ra := []) (rest := []) (ls' := [.ref 41, pm_no, pm_no]) rfl rfl (Or.inl rfl) pm_M179 T3710.2.1 rfl (by decide) (Nat.lt_of_lt_of_le (by decide) T3710.1) rfl rfl (Nat.le_of_ble_eq_true rfl) rfl rfl ?_
                have B3860 : sf_B 0 600 (m3691 10) := T3710.2.2.1 10
                refine rf_c179 (d := d + 0) T3710  (fun m3863 w3864 h3865 T3866 F3867 W3868 X3869 X3870 => ?_)
                have F3871 := F3713.trans F3867 (by decide)
                have B3872 : sf_B 1 4 (m3863 17) := by rw [W3868 17 (by decide)]; exact B3700
                have ek3873 : (m3863 17).toInt = ((m3664 17)).toInt := by rw [W3868 17 (by decide)]; exact ek3701
                have B3874 : sf_B 0 0 (m3863 22) := by rw [W3868 22 (by decide)]; exact B3702
                have W3875 : rf_W [10, 12, 13, 14, 16, 17, 18, 22] m m3863 := W3703.trans W3868 (by decide)
                show pm_R _ 183 57 [.ref 41, .int 1, .int 5, .int (-1)] [] _ _
                refine pm_R_op pm_M183 (pc' := 58) (st' := [.int 1]) rfl rfl rfl ?_
                refine pm_R_ret pm_M183 (r := some (.int 1)) rfl rfl ?_
                show pm_R _ 187 162 [.ref 41, .long a0, pm_no, .int a1] [.int 1] _ _
                refine pm_R_br pm_M187 (pc' := 165) (st' := []) (pm_q187_1 (Nat.le_of_ble_eq_true rfl)) rfl ?_
                refine pm_R_lo pm_M187 (pc' := 166) (pm_q187_1 (Nat.le_of_ble_eq_true rfl)) rfl rfl ?_
                refine pm_R_op pm_M187 (pc' := 167) (st' := [.int 2, .ref 41]) (pm_q187_1 (Nat.le_of_ble_eq_true rfl)) rfl rfl ?_
                refine pm_R_op pm_M187 (pc' := 169) (st' := [.int 49, .int 2, .ref 41]) (pm_q187_1 (Nat.le_of_ble_eq_true rfl)) rfl rfl ?_
                refine pm_R_op pm_M187 (pc' := 170) (st' := [.int (-1), .int 49, .int 2, .ref 41]) (pm_q187_1 (Nat.le_of_ble_eq_true rfl)) rfl rfl ?_
                refine pm_R_cv pm_M187 (pc' := 173) (a := 41) (ra := [.int (-1), .int 49, .int 2]) (rest := []) (ls' := [.ref 41, .int 2, .int 49, .int (-1)]) (pm_q187_1 (Nat.le_of_ble_eq_true rfl)) rfl (Or.inl rfl) pm_M183 T3866.2.1 rfl (by decide) (Nat.lt_of_lt_of_le (by decide) T3866.1) rfl rfl (Nat.le_of_ble_eq_true rfl) rfl rfl ?_
                refine pm_R_lo pm_M183 (pc' := 1) rfl rfl rfl ?_
                have B3876 : sf_B 0 4 (m3863 13) := T3866.2.2.1 13
                refine rf_R_get pm_M183 T3866 (pc' := 4) (v := .int (m3863 13)) rfl rfl rfl rfl ?_
                refine pm_R_op pm_M183 (pc' := 5) (st' := [.int 3, .int (m3863 13)]) rfl rfl rfl ?_
                refine pm_R_icmp pm_M183 (t := 13) (pc' := 8) rfl rfl rfl (fun c3877 => ?_) (fun c3877 => ?_)
                · have B3878 : sf_B 3 3 (m3863 13) := sf_eqL c3877 sf_k3
                  refine pm_R_lo pm_M183 (pc' := 14) rfl rfl rfl ?_
                  refine rf_R_get pm_M183 T3866 (pc' := 17) (v := .ref 52) rfl rfl rfl rfl ?_
                  refine pm_R_lo pm_M183 (pc' := 18) rfl rfl rfl ?_
                  refine pm_R_lo pm_M183 (pc' := 19) rfl rfl rfl ?_
                  have B3879 : sf_B 0 99 (m3863 14) := T3866.2.2.1 14
                  refine rf_R_get pm_M183 T3866 (pc' := 22) (v := .int (m3863 14)) rfl rfl rfl rfl ?_
                  have e3880 := (F3867.cell (by decide) e3712)
                  refine rf_R_ist pm_M183 T3866 (pc' := 23) rfl e3880 (by decide) (by decide) rfl ⟨_, rfl, sf_upd (sf_upd (sf_upd b3653 (sf_weak B3650 (by decide) (by decide)) _) (sf_weak B3707 (by decide) (by decide)) _) (sf_weak B3879 (by decide) (by decide)) _⟩ rfl (fun h3881 T3882 F3883 e3884 => ?_)
                  have F3885 := F3871.trans F3883 (by decide)
                  refine pm_R_lo pm_M183 (pc' := 24) rfl rfl rfl ?_
                  refine rf_R_get pm_M183 T3882 (pc' := 27) (v := .int (m3863 14)) rfl rfl rfl rfl ?_
                  refine pm_R_lo pm_M183 (pc' := 28) rfl rfl rfl ?_
                  refine pm_R_icmp pm_M183 (t := 39) (pc' := 31) rfl rfl rfl (fun c3886 => ?_) (fun c3886 => ?_)
                  · have B3887 : sf_B 50 99 (m3863 14) := sf_ltR c3886 sf_k49 B3879
                    refine pm_R_lo pm_M183 (pc' := 40) rfl rfl rfl ?_
                    refine pm_R_op pm_M183 (pc' := 41) (st' := [.int 2, .ref 41]) rfl rfl rfl ?_
                    refine pm_R_lo pm_M183 (pc' := 42) rfl rfl rfl ?_
                    have B3888 : sf_B 0 600 (m3863 12) := T3882.2.2.1 12
                    refine rf_R_get pm_M183 T3882 (pc' := 45) (v := .int (m3863 12)) rfl rfl rfl rfl ?_
                    refine pm_R_cv pm_M183 (pc' := 48) (a := 41) (ra := [.int (m3863 12), .int 2]) (rest := []) (ls' := [.ref 41, .int 2, .int (m3863 12)]) rfl rfl (Or.inl rfl) pm_M182 T3882.2.1 rfl (by decide) (Nat.lt_of_lt_of_le (by decide) T3882.1) rfl rfl (Nat.le_of_ble_eq_true rfl) rfl rfl ?_
                    refine rf_c182 (d := d + 1) T3882 (sf_weak sf_k2 (by decide) (by decide)) B3888 (fun m3891 w3892 h3893 T3894 F3895 W3896 B3897 => ?_)
                    have F3898 := F3885.trans F3895 (by decide)
                    have B3899 : sf_B 0 0 (m3891 22) := by rw [W3896 22 (by decide)]; exact B3874
                    have B3900 : sf_B 3 3 (m3891 13) := by rw [W3896 13 (by decide)]; exact B3878
                    have B3901 : sf_B 50 99 (m3891 14) := by rw [W3896 14 (by decide)]; exact B3887
                    have W3902 : rf_W [10, 12, 13, 14, 16, 17, 18, 22] m m3891 := W3875.trans W3896 (by decide)
                    show pm_R _ 183 48 [.ref 41, .int 2, .int 49, .int (-1)] [] _ _
                    refine pm_R_lo pm_M183 (pc' := 49) rfl rfl rfl ?_
                    refine pm_R_op pm_M183 (pc' := 50) (st' := [.int 0, .ref 41]) rfl rfl rfl ?_
                    refine rf_R_put pm_M183 T3894 (pc' := 53) rfl rfl rfl (by decide) rfl rfl (sf_weak sf_k0 (by decide) (by decide)) rfl rfl (fun h3903 m3906 em3907 T3904 F3905 => ?_)
                    have F3908 := F3898.trans F3905 (by decide)
                    have B3909 : sf_B 3 3 (m3906 13) := by rw [em3907]; exact B3900
                    have B3910 : sf_B 50 99 (m3906 14) := by rw [em3907]; exact B3901
                    have B3911 : sf_B 1 4 (m3906 17) := by rw [em3907]; exact B3897
                    have ek3912 : (m3906 17).toInt = ((m3891 17)).toInt := by rw [em3907]; rfl
                    have B3913 : sf_B 0 0 (m3906 22) := by rw [em3907]; exact sf_k0
                    have W3915 : rf_W [10, 12, 13, 14, 16, 17, 18, 22] m m3906 := by rw [em3907]; exact W3902.put (by decide)
                    refine pm_R_lo pm_M183 (pc' := 54) rfl rfl rfl ?_
                    refine pm_R_cv pm_M183 (pc' := 57) (a := 41) (ra := []) (rest := []) (ls' := [.ref 41, pm_no, pm_no]) rfl rfl (Or.inl rfl) pm_M179 T3904.2.1 rfl (by decide) (Nat.lt_of_lt_of_le (by decide) T3904.1) rfl rfl (Nat.le_of_ble_eq_true rfl) rfl rfl ?_
                    have B3916 : sf_B 0 600 (m3906 10) := T3904.2.2.1 10
                    refine rf_c179 (d := d + 0) T3904  (fun m3919 w3920 h3921 T3922 F3923 W3924 X3925 X3926 => ?_)
                    have F3927 := F3908.trans F3923 (by decide)
                    have B3928 : sf_B 1 4 (m3919 17) := by rw [W3924 17 (by decide)]; exact B3911
                    have ek3929 : (m3919 17).toInt = ((m3891 17)).toInt := by rw [W3924 17 (by decide)]; exact ek3912
                    have B3930 : sf_B 0 0 (m3919 22) := by rw [W3924 22 (by decide)]; exact B3913
                    have W3931 : rf_W [10, 12, 13, 14, 16, 17, 18, 22] m m3919 := W3915.trans W3924 (by decide)
                    show pm_R _ 183 57 [.ref 41, .int 2, .int 49, .int (-1)] [] _ _
                    refine pm_R_op pm_M183 (pc' := 58) (st' := [.int 1]) rfl rfl rfl ?_
                    refine pm_R_ret pm_M183 (r := some (.int 1)) rfl rfl ?_
                    show pm_R _ 187 173 [.ref 41, .long a0, pm_no, .int a1] [.int 1] _ _
                    refine pm_R_br pm_M187 (pc' := 178) (st' := []) (pm_q187_1 (Nat.le_of_ble_eq_true rfl)) rfl ?_
                    refine pm_R_lo pm_M187 (pc' := 179) (pm_q187_1 (Nat.le_of_ble_eq_true rfl)) rfl rfl ?_
                    refine pm_R_op pm_M187 (pc' := 180) (st' := [.int 1, .ref 41]) (pm_q187_1 (Nat.le_of_ble_eq_true rfl)) rfl rfl ?_
                    refine pm_R_op pm_M187 (pc' := 182) (st' := [.int 42, .int 1, .ref 41]) (pm_q187_1 (Nat.le_of_ble_eq_true rfl)) rfl rfl ?_
                    refine pm_R_op pm_M187 (pc' := 183) (st' := [.int 3, .int 42, .int 1, .ref 41]) (pm_q187_1 (Nat.le_of_ble_eq_true rfl)) rfl rfl ?_
                    refine pm_R_op pm_M187 (pc' := 185) (st' := [.int 16, .int 3, .int 42, .int 1, .ref 41]) (pm_q187_1 (Nat.le_of_ble_eq_true rfl)) rfl rfl ?_
                    refine pm_R_op pm_M187 (pc' := 186) (st' := [.int 0, .int 16, .int 3, .int 42, .int 1, .ref 41]) (pm_q187_1 (Nat.le_of_ble_eq_true rfl)) rfl rfl ?_
                    refine pm_R_cv pm_M187 (pc' := 189) (a := 41) (ra := [.int 0, .int 16, .int 3, .int 42, .int 1]) (rest := []) (ls' := [.ref 41, .int 1, .int 42, .int 3, .int 16, .int 0, pm_no, pm_no]) (pm_q187_1 (Nat.le_of_ble_eq_true rfl)) rfl (Or.inl rfl) pm_M185 T3922.2.1 rfl (by decide) (Nat.lt_of_lt_of_le (by decide) T3922.1) rfl rfl (Nat.le_of_ble_eq_true rfl) rfl rfl ?_
                    refine pm_R_lo pm_M185 (pc' := 1) rfl rfl rfl ?_
                    refine rf_R_get pm_M185 T3922 (pc' := 4) (v := .ref 51) rfl rfl rfl rfl ?_
                    refine pm_R_lo pm_M185 (pc' := 5) rfl rfl rfl ?_
                    have e3932 := (F3923.cell (by decide) (F3905.cell (by decide) (F3895.cell (by decide) (F3883.cell (by decide) (F3867.cell (by decide) (F3711.cell (by decide) (F3695.cell (by decide) (F3677.cell (by decide) (F3668.cell (by decide) (F3656.cell (by decide) (F3632.cell (by decide) (F3619.cell (by decide) e3))))))))))))
                    refine pm_R_iald pm_M185 (pc' := 6) (v := (f2 1)) rfl e3932 (Nat.lt_of_lt_of_le (by decide) T3922.1) rfl rfl rfl ?_
                    refine pm_R_lo pm_M185 (pc' := 8) (ls' := [.ref 41, .int 1, .int 42, .int 3, .int 16, .int 0, .int (f2 1), pm_no]) (st' := []) rfl rfl rfl ?_
                    refine pm_R_lo pm_M185 (pc' := 10) rfl rfl rfl ?_
                    refine pm_R_lo pm_M185 (pc' := 12) rfl rfl rfl ?_
                    refine pm_R_icmp pm_M185 (t := 16) (pc' := 15) rfl rfl rfl (fun c3935 => absurd (sf_pt2 B3612 sf_k16) c3935) (fun c3935 => ?_)
                    refine pm_R_ret pm_M185 (r := none) rfl rfl ?_
                    show pm_R _ 187 189 [.ref 41, .long a0, pm_no, .int a1] [] _ _
                    refine pm_R_op pm_M187 (pc' := 190) (st' := [.int 1]) (pm_q187_1 (Nat.le_of_ble_eq_true rfl)) rfl rfl ?_
                    have B3936 : sf_B 0 600 (m3919 10) := T3922.2.2.1 10
                    exact pm_R_ret pm_M187 (r := some (.int 1)) (pm_q187_1 (Nat.le_of_ble_eq_true rfl)) rfl (K1 m3919 w3920 h3921 T3922 F3927 W3931 (⟨f2, e3932, ct4, fun z => (sf_pos B3928 (by decide) z)⟩) (sf_aux102 _ _ _ _ _ _ _ _ X3634 X3697 X3869 X3925))
                  · have B3937 : sf_B 0 49 (m3863 14) := sf_leL (Int32.not_lt.mp c3886) B3879 sf_k49
                    refine pm_R_lo pm_M183 (pc' := 32) rfl rfl rfl ?_
                    refine rf_R_get pm_M183 T3882 (pc' := 35) (v := .int (m3863 14)) rfl rfl rfl rfl ?_
                    refine pm_R_lo pm_M183 (pc' := 36) rfl rfl rfl ?_
                    refine pm_R_icmp pm_M183 (t := 53) (pc' := 39) rfl rfl rfl (fun c3938 => ?_) (fun c3938 => absurd (Classical.not_not.mp c3938) (sf_neq1 B3937 sf_kn1 (by decide)))
                    skip
                    refine pm_R_lo pm_M183 (pc' := 54) rfl rfl rfl ?_
                    refine pm_R_cv pm_M183 (pc' := 57) (a := 41) (ra := []) (rest := []) (ls' := [.ref 41, pm_no, pm_no]) rfl rfl (Or.inl rfl) pm_M179 T3882.2.1 rfl (by decide) (Nat.lt_of_lt_of_le (by decide) T3882.1) rfl rfl (Nat.le_of_ble_eq_true rfl) rfl rfl ?_
                    have B3939 : sf_B 0 600 (m3863 10) := T3882.2.2.1 10
                    refine rf_c179 (d := d + 0) T3882  (fun m3942 w3943 h3944 T3945 F3946 W3947 X3948 X3949 => ?_)
                    have F3950 := F3885.trans F3946 (by decide)
                    have B3951 : sf_B 1 4 (m3942 17) := by rw [W3947 17 (by decide)]; exact B3872
                    have ek3952 : (m3942 17).toInt = ((m3664 17)).toInt := by rw [W3947 17 (by decide)]; exact ek3873
                    have B3953 : sf_B 0 0 (m3942 22) := by rw [W3947 22 (by decide)]; exact B3874
                    have W3954 : rf_W [10, 12, 13, 14, 16, 17, 18, 22] m m3942 := W3875.trans W3947 (by decide)
                    show pm_R _ 183 57 [.ref 41, .int 2, .int 49, .int (-1)] [] _ _
                    refine pm_R_op pm_M183 (pc' := 58) (st' := [.int 1]) rfl rfl rfl ?_
                    refine pm_R_ret pm_M183 (r := some (.int 1)) rfl rfl ?_
                    show pm_R _ 187 173 [.ref 41, .long a0, pm_no, .int a1] [.int 1] _ _
                    refine pm_R_br pm_M187 (pc' := 178) (st' := []) (pm_q187_1 (Nat.le_of_ble_eq_true rfl)) rfl ?_
                    refine pm_R_lo pm_M187 (pc' := 179) (pm_q187_1 (Nat.le_of_ble_eq_true rfl)) rfl rfl ?_
                    refine pm_R_op pm_M187 (pc' := 180) (st' := [.int 1, .ref 41]) (pm_q187_1 (Nat.le_of_ble_eq_true rfl)) rfl rfl ?_
                    refine pm_R_op pm_M187 (pc' := 182) (st' := [.int 42, .int 1, .ref 41]) (pm_q187_1 (Nat.le_of_ble_eq_true rfl)) rfl rfl ?_
                    refine pm_R_op pm_M187 (pc' := 183) (st' := [.int 3, .int 42, .int 1, .ref 41]) (pm_q187_1 (Nat.le_of_ble_eq_true rfl)) rfl rfl ?_
                    refine pm_R_op pm_M187 (pc' := 185) (st' := [.int 16, .int 3, .int 42, .int 1, .ref 41]) (pm_q187_1 (Nat.le_of_ble_eq_true rfl)) rfl rfl ?_
                    refine pm_R_op pm_M187 (pc' := 186) (st' := [.int 0, .int 16, .int 3, .int 42, .int 1, .ref 41]) (pm_q187_1 (Nat.le_of_ble_eq_true rfl)) rfl rfl ?_
                    refine pm_R_cv pm_M187 (pc' := 189) (a := 41) (ra := [.int 0, .int 16, .int 3, .int 42, .int 1]) (rest := []) (ls' := [.ref 41, .int 1, .int 42, .int 3, .int 16, .int 0, pm_no, pm_no]) (pm_q187_1 (Nat.le_of_ble_eq_true rfl)) rfl (Or.inl rfl) pm_M185 T3945.2.1 rfl (by decide) (Nat.lt_of_lt_of_le (by decide) T3945.1) rfl rfl (Nat.le_of_ble_eq_true rfl) rfl rfl ?_
                    refine pm_R_lo pm_M185 (pc' := 1) rfl rfl rfl ?_
                    refine rf_R_get pm_M185 T3945 (pc' := 4) (v := .ref 51) rfl rfl rfl rfl ?_
                    refine pm_R_lo pm_M185 (pc' := 5) rfl rfl rfl ?_
                    have e3955 := (F3946.cell (by decide) (F3883.cell (by decide) (F3867.cell (by decide) (F3711.cell (by decide) (F3695.cell (by decide) (F3677.cell (by decide) (F3668.cell (by decide) (F3656.cell (by decide) (F3632.cell (by decide) (F3619.cell (by decide) e3))))))))))
                    refine pm_R_iald pm_M185 (pc' := 6) (v := (f2 1)) rfl e3955 (Nat.lt_of_lt_of_le (by decide) T3945.1) rfl rfl rfl ?_
                    refine pm_R_lo pm_M185 (pc' := 8) (ls' := [.ref 41, .int 1, .int 42, .int 3, .int 16, .int 0, .int (f2 1), pm_no]) (st' := []) rfl rfl rfl ?_
                    refine pm_R_lo pm_M185 (pc' := 10) rfl rfl rfl ?_
                    refine pm_R_lo pm_M185 (pc' := 12) rfl rfl rfl ?_
                    refine pm_R_icmp pm_M185 (t := 16) (pc' := 15) rfl rfl rfl (fun c3958 => absurd (sf_pt2 B3612 sf_k16) c3958) (fun c3958 => ?_)
                    refine pm_R_ret pm_M185 (r := none) rfl rfl ?_
                    show pm_R _ 187 189 [.ref 41, .long a0, pm_no, .int a1] [] _ _
                    refine pm_R_op pm_M187 (pc' := 190) (st' := [.int 1]) (pm_q187_1 (Nat.le_of_ble_eq_true rfl)) rfl rfl ?_
                    have B3959 : sf_B 0 600 (m3942 10) := T3945.2.2.1 10
                    exact pm_R_ret pm_M187 (r := some (.int 1)) (pm_q187_1 (Nat.le_of_ble_eq_true rfl)) rfl (K1 m3942 w3943 h3944 T3945 F3950 W3954 (⟨f2, e3955, ct4, fun z => (sf_pos B3951 (by decide) z)⟩) (sf_aux103 _ _ _ _ _ _ _ X3634 X3697 X3869 X3948))
                · skip
                  refine pm_R_lo pm_M183 (pc' := 9) rfl rfl rfl ?_
                  refine pm_R_cv pm_M183 (pc' := 12) (a := 41) (ra := []) (rest := []) (ls' := [.ref 41]) rfl rfl (Or.inl rfl) pm_M184 T3866.2.1 rfl (by decide) (Nat.lt_of_lt_of_le (by decide) T3866.1) rfl rfl (Nat.le_of_ble_eq_true rfl) rfl rfl ?_
                  refine pm_R_lo pm_M184 (pc' := 1) rfl rfl rfl ?_
                  refine pm_R_lo pm_M184 (pc' := 2) rfl rfl rfl ?_
                  have B3960 : sf_B 0 600 (m3863 12) := T3866.2.2.1 12
                  refine rf_R_get pm_M184 T3866 (pc' := 5) (v := .int (m3863 12)) rfl rfl rfl rfl ?_
                  refine rf_R_put pm_M184 T3866 (pc' := 8) rfl rfl rfl (by decide) rfl rfl B3960 rfl rfl (fun h3961 m3964 em3965 T3962 F3963 => ?_)
                  have F3966 := F3871.trans F3963 (by decide)
                  have B3967 : sf_B 1 4 (m3964 17) := by rw [em3965]; exact B3872
                  have ek3968 : (m3964 17).toInt = ((m3664 17)).toInt := by rw [em3965]; exact ek3873
                  have B3969 : sf_B 0 0 (m3964 22) := by rw [em3965]; exact B3874
                  have B3970 : sf_B 0 600 (m3964 16) := by rw [em3965]; exact B3960
                  have ek3971 : (m3964 16).toInt = ((m3863 12)).toInt := by rw [em3965]; rfl
                  have W3972 : rf_W [10, 12, 13, 14, 16, 17, 18, 22] m m3964 := by rw [em3965]; exact W3875.put (by decide)
                  refine pm_R_op pm_M184 (pc' := 9) (st' := [.int 0]) rfl rfl rfl ?_
                  refine pm_R_ret pm_M184 (r := some (.int 0)) rfl rfl ?_
                  show pm_R _ 183 12 [.ref 41, .int 2, .int 49, .int (-1)] [.int 0] _ _
                  refine pm_R_ret pm_M183 (r := some (.int 0)) rfl rfl ?_
                  show pm_R _ 187 173 [.ref 41, .long a0, pm_no, .int a1] [.int 0] _ _
                  refine pm_R_br pm_M187 (pc' := 176) (st' := []) (pm_q187_1 (Nat.le_of_ble_eq_true rfl)) rfl ?_
                  refine pm_R_op pm_M187 (pc' := 177) (st' := [.int 0]) (pm_q187_1 (Nat.le_of_ble_eq_true rfl)) rfl rfl ?_
                  have B3973 : sf_B 0 600 (m3964 10) := T3962.2.2.1 10
                  exact pm_R_ret pm_M187 (r := some (.int 0)) (pm_q187_1 (Nat.le_of_ble_eq_true rfl)) rfl (K0 m3964 w3864 h3961 T3962 F3966 W3972 (sf_aux67 _ _ _ _ _ _ _ X3634 X3697 X3869))
            · skip
              refine pm_R_lo pm_M183 (pc' := 9) rfl rfl rfl ?_
              refine pm_R_cv pm_M183 (pc' := 12) (a := 41) (ra := []) (rest := []) (ls' := [.ref 41]) rfl rfl (Or.inl rfl) pm_M184 T3694.2.1 rfl (by decide) (Nat.lt_of_lt_of_le (by decide) T3694.1) rfl rfl (Nat.le_of_ble_eq_true rfl) rfl rfl ?_
              refine pm_R_lo pm_M184 (pc' := 1) rfl rfl rfl ?_
              refine pm_R_lo pm_M184 (pc' := 2) rfl rfl rfl ?_
              have B3974 : sf_B 0 600 (m3691 12) := T3694.2.2.1 12
              refine rf_R_get pm_M184 T3694 (pc' := 5) (v := .int (m3691 12)) rfl rfl rfl rfl ?_
              refine rf_R_put pm_M184 T3694 (pc' := 8) rfl rfl rfl (by decide) rfl rfl B3974 rfl rfl (fun h3975 m3978 em3979 T3976 F3977 => ?_)
              have F3980 := F3699.trans F3977 (by decide)
              have B3981 : sf_B 1 4 (m3978 17) := by rw [em3979]; exact B3700
              have ek3982 : (m3978 17).toInt = ((m3664 17)).toInt := by rw [em3979]; exact ek3701
              have B3983 : sf_B 0 0 (m3978 22) := by rw [em3979]; exact B3702
              have B3984 : sf_B 0 600 (m3978 16) := by rw [em3979]; exact B3974
              have ek3985 : (m3978 16).toInt = ((m3691 12)).toInt := by rw [em3979]; rfl
              have W3986 : rf_W [10, 12, 13, 14, 16, 17, 18, 22] m m3978 := by rw [em3979]; exact W3703.put (by decide)
              refine pm_R_op pm_M184 (pc' := 9) (st' := [.int 0]) rfl rfl rfl ?_
              refine pm_R_ret pm_M184 (r := some (.int 0)) rfl rfl ?_
              show pm_R _ 183 12 [.ref 41, .int 1, .int 5, .int (-1)] [.int 0] _ _
              refine pm_R_ret pm_M183 (r := some (.int 0)) rfl rfl ?_
              show pm_R _ 187 162 [.ref 41, .long a0, pm_no, .int a1] [.int 0] _ _
              refine pm_R_br pm_M187 (pc' := 176) (st' := []) (pm_q187_1 (Nat.le_of_ble_eq_true rfl)) rfl ?_
              refine pm_R_op pm_M187 (pc' := 177) (st' := [.int 0]) (pm_q187_1 (Nat.le_of_ble_eq_true rfl)) rfl rfl ?_
              have B3987 : sf_B 0 600 (m3978 10) := T3976.2.2.1 10
              exact pm_R_ret pm_M187 (r := some (.int 0)) (pm_q187_1 (Nat.le_of_ble_eq_true rfl)) rfl (K0 m3978 w3692 h3975 T3976 F3980 W3986 (sf_aux68 _ _ _ _ _ _ X3634 X3697))
          · have B3988 : sf_B 0 9 (m3628 14) := sf_leL (Int32.not_lt.mp c3659) B3650 sf_k9
            refine pm_R_lo pm_M183 (pc' := 32) rfl rfl rfl ?_
            refine rf_R_get pm_M183 T3655 (pc' := 35) (v := .int (m3628 14)) rfl rfl rfl rfl ?_
            refine pm_R_lo pm_M183 (pc' := 36) rfl rfl rfl ?_
            refine pm_R_icmp pm_M183 (t := 53) (pc' := 39) rfl rfl rfl (fun c3989 => ?_) (fun c3989 => absurd (Classical.not_not.mp c3989) (sf_neq1 B3988 sf_kn1 (by decide)))
            skip
            refine pm_R_lo pm_M183 (pc' := 54) rfl rfl rfl ?_
            refine pm_R_cv pm_M183 (pc' := 57) (a := 41) (ra := []) (rest := []) (ls' := [.ref 41, pm_no, pm_no]) rfl rfl (Or.inl rfl) pm_M179 T3655.2.1 rfl (by decide) (Nat.lt_of_lt_of_le (by decide) T3655.1) rfl rfl (Nat.le_of_ble_eq_true rfl) rfl rfl ?_
            have B3990 : sf_B 0 600 (m3628 10) := T3655.2.2.1 10
            refine rf_c179 (d := d + 0) T3655  (fun m3993 w3994 h3995 T3996 F3997 W3998 X3999 X4000 => ?_)
            have F4001 := F3658.trans F3997 (by decide)
            have B4002 : sf_B 1 4 (m3993 17) := by rw [W3998 17 (by decide)]; exact B3637
            have ek4003 : (m3993 17).toInt = ((m3615 17)).toInt := by rw [W3998 17 (by decide)]; exact ek3638
            have W4004 : rf_W [10, 12, 13, 14, 16, 17, 18, 22] m m3993 := W3639.trans W3998 (by decide)
            show pm_R _ 183 57 [.ref 41, .int 0, .int 9, .int (-1)] [] _ _
            refine pm_R_op pm_M183 (pc' := 58) (st' := [.int 1]) rfl rfl rfl ?_
            refine pm_R_ret pm_M183 (r := some (.int 1)) rfl rfl ?_
            show pm_R _ 187 152 [.ref 41, .long a0, pm_no, .int a1] [.int 1] _ _
            refine pm_R_br pm_M187 (pc' := 155) (st' := []) (pm_q187_1 (Nat.le_of_ble_eq_true rfl)) rfl ?_
            refine pm_R_lo pm_M187 (pc' := 156) (pm_q187_1 (Nat.le_of_ble_eq_true rfl)) rfl rfl ?_
            refine pm_R_op pm_M187 (pc' := 157) (st' := [.int 1, .ref 41]) (pm_q187_1 (Nat.le_of_ble_eq_true rfl)) rfl rfl ?_
            refine pm_R_op pm_M187 (pc' := 158) (st' := [.int 5, .int 1, .ref 41]) (pm_q187_1 (Nat.le_of_ble_eq_true rfl)) rfl rfl ?_
            refine pm_R_op pm_M187 (pc' := 159) (st' := [.int (-1), .int 5, .int 1, .ref 41]) (pm_q187_1 (Nat.le_of_ble_eq_true rfl)) rfl rfl ?_
            refine pm_R_cv pm_M187 (pc' := 162) (a := 41) (ra := [.int (-1), .int 5, .int 1]) (rest := []) (ls' := [.ref 41, .int 1, .int 5, .int (-1)]) (pm_q187_1 (Nat.le_of_ble_eq_true rfl)) rfl (Or.inl rfl) pm_M183 T3996.2.1 rfl (by decide) (Nat.lt_of_lt_of_le (by decide) T3996.1) rfl rfl (Nat.le_of_ble_eq_true rfl) rfl rfl ?_
            refine pm_R_lo pm_M183 (pc' := 1) rfl rfl rfl ?_
            have B4005 : sf_B 0 4 (m3993 13) := T3996.2.2.1 13
            refine rf_R_get pm_M183 T3996 (pc' := 4) (v := .int (m3993 13)) rfl rfl rfl rfl ?_
            refine pm_R_op pm_M183 (pc' := 5) (st' := [.int 3, .int (m3993 13)]) rfl rfl rfl ?_
            refine pm_R_icmp pm_M183 (t := 13) (pc' := 8) rfl rfl rfl (fun c4006 => ?_) (fun c4006 => ?_)
            · have B4007 : sf_B 3 3 (m3993 13) := sf_eqL c4006 sf_k3
              refine pm_R_lo pm_M183 (pc' := 14) rfl rfl rfl ?_
              refine rf_R_get pm_M183 T3996 (pc' := 17) (v := .ref 52) rfl rfl rfl rfl ?_
              refine pm_R_lo pm_M183 (pc' := 18) rfl rfl rfl ?_
              refine pm_R_lo pm_M183 (pc' := 19) rfl rfl rfl ?_
              have B4008 : sf_B 0 99 (m3993 14) := T3996.2.2.1 14
              refine rf_R_get pm_M183 T3996 (pc' := 22) (v := .int (m3993 14)) rfl rfl rfl rfl ?_
              have e4009 := (F3997.cell (by decide) e3657)
              refine rf_R_ist pm_M183 T3996 (pc' := 23) rfl e4009 (by decide) (by decide) rfl ⟨_, rfl, sf_upd (sf_upd b3653 (sf_weak B3650 (by decide) (by decide)) _) (sf_weak B4008 (by decide) (by decide)) _⟩ rfl (fun h4010 T4011 F4012 e4013 => ?_)
              have F4014 := F4001.trans F4012 (by decide)
              refine pm_R_lo pm_M183 (pc' := 24) rfl rfl rfl ?_
              refine rf_R_get pm_M183 T4011 (pc' := 27) (v := .int (m3993 14)) rfl rfl rfl rfl ?_
              refine pm_R_lo pm_M183 (pc' := 28) rfl rfl rfl ?_
              refine pm_R_icmp pm_M183 (t := 39) (pc' := 31) rfl rfl rfl (fun c4015 => ?_) (fun c4015 => ?_)
              · have B4016 : sf_B 6 99 (m3993 14) := sf_ltR c4015 sf_k5 B4008
                refine pm_R_lo pm_M183 (pc' := 40) rfl rfl rfl ?_
                refine pm_R_op pm_M183 (pc' := 41) (st' := [.int 2, .ref 41]) rfl rfl rfl ?_
                refine pm_R_lo pm_M183 (pc' := 42) rfl rfl rfl ?_
                have B4017 : sf_B 0 600 (m3993 12) := T4011.2.2.1 12
                refine rf_R_get pm_M183 T4011 (pc' := 45) (v := .int (m3993 12)) rfl rfl rfl rfl ?_
                refine pm_R_cv pm_M183 (pc' := 48) (a := 41) (ra := [.int (m3993 12), .int 2]) (rest := []) (ls' := [.ref 41, .int 2, .int (m3993 12)]) rfl rfl (Or.inl rfl) pm_M182 T4011.2.1 rfl (by decide) (Nat.lt_of_lt_of_le (by decide) T4011.1) rfl rfl (Nat.le_of_ble_eq_true rfl) rfl rfl ?_
                refine rf_c182 (d := d + 1) T4011 (sf_weak sf_k2 (by decide) (by decide)) B4017 (fun m4020 w4021 h4022 T4023 F4024 W4025 B4026 => ?_)
                have F4027 := F4014.trans F4024 (by decide)
                have B4028 : sf_B 3 3 (m4020 13) := by rw [W4025 13 (by decide)]; exact B4007
                have B4029 : sf_B 6 99 (m4020 14) := by rw [W4025 14 (by decide)]; exact B4016
                have W4030 : rf_W [10, 12, 13, 14, 16, 17, 18, 22] m m4020 := W4004.trans W4025 (by decide)
                show pm_R _ 183 48 [.ref 41, .int 1, .int 5, .int (-1)] [] _ _
                refine pm_R_lo pm_M183 (pc' := 49) rfl rfl rfl ?_
                refine pm_R_op pm_M183 (pc' := 50) (st' := [.int 0, .ref 41]) rfl rfl rfl ?_
                refine rf_R_put pm_M183 T4023 (pc' := 53) rfl rfl rfl (by decide) rfl rfl (sf_weak sf_k0 (by decide) (by decide)) rfl rfl (fun h4031 m4034 em4035 T4032 F4033 => ?_)
                have F4036 := F4027.trans F4033 (by decide)
                have B4037 : sf_B 3 3 (m4034 13) := by rw [em4035]; exact B4028
                have B4038 : sf_B 6 99 (m4034 14) := by rw [em4035]; exact B4029
                have B4039 : sf_B 1 4 (m4034 17) := by rw [em4035]; exact B4026
                have ek4040 : (m4034 17).toInt = ((m4020 17)).toInt := by rw [em4035]; rfl
                have B4041 : sf_B 0 0 (m4034 22) := by rw [em4035]; exact sf_k0
                have W4043 : rf_W [10, 12, 13, 14, 16, 17, 18, 22] m m4034 := by rw [em4035]; exact W4030.put (by decide)
                refine pm_R_lo pm_M183 (pc' := 54) rfl rfl rfl ?_
                refine pm_R_cv pm_M183 (pc' := 57) (a := 41) (ra := []) (rest := []) (ls' := [.ref 41, pm_no, pm_no]) rfl rfl (Or.inl rfl) pm_M179 T4032.2.1 rfl (by decide) (Nat.lt_of_lt_of_le (by decide) T4032.1) rfl rfl (Nat.le_of_ble_eq_true rfl) rfl rfl ?_
                have B4044 : sf_B 0 600 (m4034 10) := T4032.2.2.1 10
                refine rf_c179 (d := d + 0) T4032  (fun m4047 w4048 h4049 T4050 F4051 W4052 X4053 X4054 => ?_)
                have F4055 := F4036.trans F4051 (by decide)
                have B4056 : sf_B 1 4 (m4047 17) := by rw [W4052 17 (by decide)]; exact B4039
                have ek4057 : (m4047 17).toInt = ((m4020 17)).toInt := by rw [W4052 17 (by decide)]; exact ek4040
                have B4058 : sf_B 0 0 (m4047 22) := by rw [W4052 22 (by decide)]; exact B4041
                have W4059 : rf_W [10, 12, 13, 14, 16, 17, 18, 22] m m4047 := W4043.trans W4052 (by decide)
                show pm_R _ 183 57 [.ref 41, .int 1, .int 5, .int (-1)] [] _ _
                refine pm_R_op pm_M183 (pc' := 58) (st' := [.int 1]) rfl rfl rfl ?_
                refine pm_R_ret pm_M183 (r := some (.int 1)) rfl rfl ?_
                show pm_R _ 187 162 [.ref 41, .long a0, pm_no, .int a1] [.int 1] _ _
                refine pm_R_br pm_M187 (pc' := 165) (st' := []) (pm_q187_1 (Nat.le_of_ble_eq_true rfl)) rfl ?_
                refine pm_R_lo pm_M187 (pc' := 166) (pm_q187_1 (Nat.le_of_ble_eq_true rfl)) rfl rfl ?_
                refine pm_R_op pm_M187 (pc' := 167) (st' := [.int 2, .ref 41]) (pm_q187_1 (Nat.le_of_ble_eq_true rfl)) rfl rfl ?_
                refine pm_R_op pm_M187 (pc' := 169) (st' := [.int 49, .int 2, .ref 41]) (pm_q187_1 (Nat.le_of_ble_eq_true rfl)) rfl rfl ?_
                refine pm_R_op pm_M187 (pc' := 170) (st' := [.int (-1), .int 49, .int 2, .ref 41]) (pm_q187_1 (Nat.le_of_ble_eq_true rfl)) rfl rfl ?_
                refine pm_R_cv pm_M187 (pc' := 173) (a := 41) (ra := [.int (-1), .int 49, .int 2]) (rest := []) (ls' := [.ref 41, .int 2, .int 49, .int (-1)]) (pm_q187_1 (Nat.le_of_ble_eq_true rfl)) rfl (Or.inl rfl) pm_M183 T4050.2.1 rfl (by decide) (Nat.lt_of_lt_of_le (by decide) T4050.1) rfl rfl (Nat.le_of_ble_eq_true rfl) rfl rfl ?_
                refine pm_R_lo pm_M183 (pc' := 1) rfl rfl rfl ?_
                have B4060 : sf_B 0 4 (m4047 13) := T4050.2.2.1 13
                refine rf_R_get pm_M183 T4050 (pc' := 4) (v := .int (m4047 13)) rfl rfl rfl rfl ?_
                refine pm_R_op pm_M183 (pc' := 5) (st' := [.int 3, .int (m4047 13)]) rfl rfl rfl ?_
                refine pm_R_icmp pm_M183 (t := 13) (pc' := 8) rfl rfl rfl (fun c4061 => ?_) (fun c4061 => ?_)
                · have B4062 : sf_B 3 3 (m4047 13) := sf_eqL c4061 sf_k3
                  refine pm_R_lo pm_M183 (pc' := 14) rfl rfl rfl ?_
                  refine rf_R_get pm_M183 T4050 (pc' := 17) (v := .ref 52) rfl rfl rfl rfl ?_
                  refine pm_R_lo pm_M183 (pc' := 18) rfl rfl rfl ?_
                  refine pm_R_lo pm_M183 (pc' := 19) rfl rfl rfl ?_
                  have B4063 : sf_B 0 99 (m4047 14) := T4050.2.2.1 14
                  refine rf_R_get pm_M183 T4050 (pc' := 22) (v := .int (m4047 14)) rfl rfl rfl rfl ?_
                  have e4064 := (F4051.cell (by decide) (F4033.cell (by decide) (F4024.cell (by decide) e4013)))
                  refine rf_R_ist pm_M183 T4050 (pc' := 23) rfl e4064 (by decide) (by decide) rfl ⟨_, rfl, sf_upd (sf_upd (sf_upd b3653 (sf_weak B3650 (by decide) (by decide)) _) (sf_weak B4008 (by decide) (by decide)) _) (sf_weak B4063 (by decide) (by decide)) _⟩ rfl (fun h4065 T4066 F4067 e4068 => ?_)
                  have F4069 := F4055.trans F4067 (by decide)
                  refine pm_R_lo pm_M183 (pc' := 24) rfl rfl rfl ?_
                  refine rf_R_get pm_M183 T4066 (pc' := 27) (v := .int (m4047 14)) rfl rfl rfl rfl ?_
                  refine pm_R_lo pm_M183 (pc' := 28) rfl rfl rfl ?_
                  refine pm_R_icmp pm_M183 (t := 39) (pc' := 31) rfl rfl rfl (fun c4070 => ?_) (fun c4070 => ?_)
                  · have B4071 : sf_B 50 99 (m4047 14) := sf_ltR c4070 sf_k49 B4063
                    refine pm_R_lo pm_M183 (pc' := 40) rfl rfl rfl ?_
                    refine pm_R_op pm_M183 (pc' := 41) (st' := [.int 2, .ref 41]) rfl rfl rfl ?_
                    refine pm_R_lo pm_M183 (pc' := 42) rfl rfl rfl ?_
                    have B4072 : sf_B 0 600 (m4047 12) := T4066.2.2.1 12
                    refine rf_R_get pm_M183 T4066 (pc' := 45) (v := .int (m4047 12)) rfl rfl rfl rfl ?_
                    refine pm_R_cv pm_M183 (pc' := 48) (a := 41) (ra := [.int (m4047 12), .int 2]) (rest := []) (ls' := [.ref 41, .int 2, .int (m4047 12)]) rfl rfl (Or.inl rfl) pm_M182 T4066.2.1 rfl (by decide) (Nat.lt_of_lt_of_le (by decide) T4066.1) rfl rfl (Nat.le_of_ble_eq_true rfl) rfl rfl ?_
                    refine rf_c182 (d := d + 1) T4066 (sf_weak sf_k2 (by decide) (by decide)) B4072 (fun m4075 w4076 h4077 T4078 F4079 W4080 B4081 => ?_)
                    have F4082 := F4069.trans F4079 (by decide)
                    have B4083 : sf_B 0 0 (m4075 22) := by rw [W4080 22 (by decide)]; exact B4058
                    have B4084 : sf_B 3 3 (m4075 13) := by rw [W4080 13 (by decide)]; exact B4062
                    have B4085 : sf_B 50 99 (m4075 14) := by rw [W4080 14 (by decide)]; exact B4071
                    have W4086 : rf_W [10, 12, 13, 14, 16, 17, 18, 22] m m4075 := W4059.trans W4080 (by decide)
                    show pm_R _ 183 48 [.ref 41, .int 2, .int 49, .int (-1)] [] _ _
                    refine pm_R_lo pm_M183 (pc' := 49) rfl rfl rfl ?_
                    refine pm_R_op pm_M183 (pc' := 50) (st' := [.int 0, .ref 41]) rfl rfl rfl ?_
                    refine rf_R_put pm_M183 T4078 (pc' := 53) rfl rfl rfl (by decide) rfl rfl (sf_weak sf_k0 (by decide) (by decide)) rfl rfl (fun h4087 m4090 em4091 T4088 F4089 => ?_)
                    have F4092 := F4082.trans F4089 (by decide)
                    have B4093 : sf_B 3 3 (m4090 13) := by rw [em4091]; exact B4084
                    have B4094 : sf_B 50 99 (m4090 14) := by rw [em4091]; exact B4085
                    have B4095 : sf_B 1 4 (m4090 17) := by rw [em4091]; exact B4081
                    have ek4096 : (m4090 17).toInt = ((m4075 17)).toInt := by rw [em4091]; rfl
                    have B4097 : sf_B 0 0 (m4090 22) := by rw [em4091]; exact sf_k0
                    have W4099 : rf_W [10, 12, 13, 14, 16, 17, 18, 22] m m4090 := by rw [em4091]; exact W4086.put (by decide)
                    refine pm_R_lo pm_M183 (pc' := 54) rfl rfl rfl ?_
                    refine pm_R_cv pm_M183 (pc' := 57) (a := 41) (ra := []) (rest := []) (ls' := [.ref 41, pm_no, pm_no]) rfl rfl (Or.inl rfl) pm_M179 T4088.2.1 rfl (by decide) (Nat.lt_of_lt_of_le (by decide) T4088.1) rfl rfl (Nat.le_of_ble_eq_true rfl) rfl rfl ?_
                    have B4100 : sf_B 0 600 (m4090 10) := T4088.2.2.1 10
                    refine rf_c179 (d := d + 0) T4088  (fun m4103 w4104 h4105 T4106 F4107 W4108 X4109 X4110 => ?_)
                    have F4111 := F4092.trans F4107 (by decide)
                    have B4112 : sf_B 1 4 (m4103 17) := by rw [W4108 17 (by decide)]; exact B4095
                    have ek4113 : (m4103 17).toInt = ((m4075 17)).toInt := by rw [W4108 17 (by decide)]; exact ek4096
                    have B4114 : sf_B 0 0 (m4103 22) := by rw [W4108 22 (by decide)]; exact B4097
                    have W4115 : rf_W [10, 12, 13, 14, 16, 17, 18, 22] m m4103 := W4099.trans W4108 (by decide)
                    show pm_R _ 183 57 [.ref 41, .int 2, .int 49, .int (-1)] [] _ _
                    refine pm_R_op pm_M183 (pc' := 58) (st' := [.int 1]) rfl rfl rfl ?_
                    refine pm_R_ret pm_M183 (r := some (.int 1)) rfl rfl ?_
                    show pm_R _ 187 173 [.ref 41, .long a0, pm_no, .int a1] [.int 1] _ _
                    refine pm_R_br pm_M187 (pc' := 178) (st' := []) (pm_q187_1 (Nat.le_of_ble_eq_true rfl)) rfl ?_
                    refine pm_R_lo pm_M187 (pc' := 179) (pm_q187_1 (Nat.le_of_ble_eq_true rfl)) rfl rfl ?_
                    refine pm_R_op pm_M187 (pc' := 180) (st' := [.int 1, .ref 41]) (pm_q187_1 (Nat.le_of_ble_eq_true rfl)) rfl rfl ?_
                    refine pm_R_op pm_M187 (pc' := 182) (st' := [.int 42, .int 1, .ref 41]) (pm_q187_1 (Nat.le_of_ble_eq_true rfl)) rfl rfl ?_
                    refine pm_R_op pm_M187 (pc' := 183) (st' := [.int 3, .int 42, .int 1, .ref 41]) (pm_q187_1 (Nat.le_of_ble_eq_true rfl)) rfl rfl ?_
                    refine pm_R_op pm_M187 (pc' := 185) (st' := [.int 16, .int 3, .int 42, .int 1, .ref 41]) (pm_q187_1 (Nat.le_of_ble_eq_true rfl)) rfl rfl ?_
                    refine pm_R_op pm_M187 (pc' := 186) (st' := [.int 0, .int 16, .int 3, .int 42, .int 1, .ref 41]) (pm_q187_1 (Nat.le_of_ble_eq_true rfl)) rfl rfl ?_
                    refine pm_R_cv pm_M187 (pc' := 189) (a := 41) (ra := [.int 0, .int 16, .int 3, .int 42, .int 1]) (rest := []) (ls' := [.ref 41, .int 1, .int 42, .int 3, .int 16, .int 0, pm_no, pm_no]) (pm_q187_1 (Nat.le_of_ble_eq_true rfl)) rfl (Or.inl rfl) pm_M185 T4106.2.1 rfl (by decide) (Nat.lt_of_lt_of_le (by decide) T4106.1) rfl rfl (Nat.le_of_ble_eq_true rfl) rfl rfl ?_
                    refine pm_R_lo pm_M185 (pc' := 1) rfl rfl rfl ?_
                    refine rf_R_get pm_M185 T4106 (pc' := 4) (v := .ref 51) rfl rfl rfl rfl ?_
                    refine pm_R_lo pm_M185 (pc' := 5) rfl rfl rfl ?_
                    have e4116 := (F4107.cell (by decide) (F4089.cell (by decide) (F4079.cell (by decide) (F4067.cell (by decide) (F4051.cell (by decide) (F4033.cell (by decide) (F4024.cell (by decide) (F4012.cell (by decide) (F3997.cell (by decide) (F3656.cell (by decide) (F3632.cell (by decide) (F3619.cell (by decide) e3))))))))))))
                    refine pm_R_iald pm_M185 (pc' := 6) (v := (f2 1)) rfl e4116 (Nat.lt_of_lt_of_le (by decide) T4106.1) rfl rfl rfl ?_
                    refine pm_R_lo pm_M185 (pc' := 8) (ls' := [.ref 41, .int 1, .int 42, .int 3, .int 16, .int 0, .int (f2 1), pm_no]) (st' := []) rfl rfl rfl ?_
                    refine pm_R_lo pm_M185 (pc' := 10) rfl rfl rfl ?_
                    refine pm_R_lo pm_M185 (pc' := 12) rfl rfl rfl ?_
                    refine pm_R_icmp pm_M185 (t := 16) (pc' := 15) rfl rfl rfl (fun c4119 => absurd (sf_pt2 B3612 sf_k16) c4119) (fun c4119 => ?_)
                    refine pm_R_ret pm_M185 (r := none) rfl rfl ?_
                    show pm_R _ 187 189 [.ref 41, .long a0, pm_no, .int a1] [] _ _
                    refine pm_R_op pm_M187 (pc' := 190) (st' := [.int 1]) (pm_q187_1 (Nat.le_of_ble_eq_true rfl)) rfl rfl ?_
                    have B4120 : sf_B 0 600 (m4103 10) := T4106.2.2.1 10
                    exact pm_R_ret pm_M187 (r := some (.int 1)) (pm_q187_1 (Nat.le_of_ble_eq_true rfl)) rfl (K1 m4103 w4104 h4105 T4106 F4111 W4115 (⟨f2, e4116, ct4, fun z => (sf_pos B4112 (by decide) z)⟩) (sf_aux104 _ _ _ _ _ _ _ _ X3634 X3999 X4053 X4109))
                  · have B4121 : sf_B 0 49 (m4047 14) := sf_leL (Int32.not_lt.mp c4070) B4063 sf_k49
                    refine pm_R_lo pm_M183 (pc' := 32) rfl rfl rfl ?_
                    refine rf_R_get pm_M183 T4066 (pc' := 35) (v := .int (m4047 14)) rfl rfl rfl rfl ?_
                    refine pm_R_lo pm_M183 (pc' := 36) rfl rfl rfl ?_
                    refine pm_R_icmp pm_M183 (t := 53) (pc' := 39) rfl rfl rfl (fun c4122 => ?_) (fun c4122 => absurd (Classical.not_not.mp c4122) (sf_neq1 B4121 sf_kn1 (by decide)))
                    skip
                    refine pm_R_lo pm_M183 (pc' := 54) rfl rfl rfl ?_
                    refine pm_R_cv pm_M183 (pc' := 57) (a := 41) (ra := []) (rest := []) (ls' := [.ref 41, pm_no, pm_no]) rfl rfl (Or.inl rfl) pm_M179 T4066.2.1 rfl (by decide) (Nat.lt_of_lt_of_le (by decide) T4066.1) rfl rfl (Nat.le_of_ble_eq_true rfl) rfl rfl ?_
                    have B4123 : sf_B 0 600 (m4047 10) := T4066.2.2.1 10
                    refine rf_c179 (d := d + 0) T4066  (fun m4126 w4127 h4128 T4129 F4130 W4131 X4132 X4133 => ?_)
                    have F4134 := F4069.trans F4130 (by decide)
                    have B4135 : sf_B 1 4 (m4126 17) := by rw [W4131 17 (by decide)]; exact B4056
                    have ek4136 : (m4126 17).toInt = ((m4020 17)).toInt := by rw [W4131 17 (by decide)]; exact ek4057
                    have B4137 : sf_B 0 0 (m4126 22) := by rw [W4131 22 (by decide)]; exact B4058
                    have W4138 : rf_W [10, 12, 13, 14, 16, 17, 18, 22] m m4126 := W4059.trans W4131 (by decide)
                    show pm_R _ 183 57 [.ref 41, .int 2, .int 49, .int (-1)] [] _ _
                    refine pm_R_op pm_M183 (pc' := 58) (st' := [.int 1]) rfl rfl rfl ?_
                    refine pm_R_ret pm_M183 (r := some (.int 1)) rfl rfl ?_
                    show pm_R _ 187 173 [.ref 41, .long a0, pm_no, .int a1] [.int 1] _ _
                    refine pm_R_br pm_M187 (pc' := 178) (st' := []) (pm_q187_1 (Nat.le_of_ble_eq_true rfl)) rfl ?_
                    refine pm_R_lo pm_M187 (pc' := 179) (pm_q187_1 (Nat.le_of_ble_eq_true rfl)) rfl rfl ?_
                    refine pm_R_op pm_M187 (pc' := 180) (st' := [.int 1, .ref 41]) (pm_q187_1 (Nat.le_of_ble_eq_true rfl)) rfl rfl ?_
                    refine pm_R_op pm_M187 (pc' := 182) (st' := [.int 42, .int 1, .ref 41]) (pm_q187_1 (Nat.le_of_ble_eq_true rfl)) rfl rfl ?_
                    refine pm_R_op pm_M187 (pc' := 183) (st' := [.int 3, .int 42, .int 1, .ref 41]) (pm_q187_1 (Nat.le_of_ble_eq_true rfl)) rfl rfl ?_
                    refine pm_R_op pm_M187 (pc' := 185) (st' := [.int 16, .int 3, .int 42, .int 1, .ref 41]) (pm_q187_1 (Nat.le_of_ble_eq_true rfl)) rfl rfl ?_
                    refine pm_R_op pm_M187 (pc' := 186) (st' := [.int 0, .int 16, .int 3, .int 42, .int 1, .ref 41]) (pm_q187_1 (Nat.le_of_ble_eq_true rfl)) rfl rfl ?_
                    refine pm_R_cv pm_M187 (pc' := 189) (a := 41) (ra := [.int 0, .int 16, .int 3, .int 42, .int 1]) (rest := []) (ls' := [.ref 41, .int 1, .int 42, .int 3, .int 16, .int 0, pm_no, pm_no]) (pm_q187_1 (Nat.le_of_ble_eq_true rfl)) rfl (Or.inl rfl) pm_M185 T4129.2.1 rfl (by decide) (Nat.lt_of_lt_of_le (by decide) T4129.1) rfl rfl (Nat.le_of_ble_eq_true rfl) rfl rfl ?_
                    refine pm_R_lo pm_M185 (pc' := 1) rfl rfl rfl ?_
                    refine rf_R_get pm_M185 T4129 (pc' := 4) (v := .ref 51) rfl rfl rfl rfl ?_
                    refine pm_R_lo pm_M185 (pc' := 5) rfl rfl rfl ?_
                    have e4139 := (F4130.cell (by decide) (F4067.cell (by decide) (F4051.cell (by decide) (F4033.cell (by decide) (F4024.cell (by decide) (F4012.cell (by decide) (F3997.cell (by decide) (F3656.cell (by decide) (F3632.cell (by decide) (F3619.cell (by decide) e3))))))))))
                    refine pm_R_iald pm_M185 (pc' := 6) (v := (f2 1)) rfl e4139 (Nat.lt_of_lt_of_le (by decide) T4129.1) rfl rfl rfl ?_
                    refine pm_R_lo pm_M185 (pc' := 8) (ls' := [.ref 41, .int 1, .int 42, .int 3, .int 16, .int 0, .int (f2 1), pm_no]) (st' := []) rfl rfl rfl ?_
                    refine pm_R_lo pm_M185 (pc' := 10) rfl rfl rfl ?_
                    refine pm_R_lo pm_M185 (pc' := 12) rfl rfl rfl ?_
                    refine pm_R_icmp pm_M185 (t := 16) (pc' := 15) rfl rfl rfl (fun c4142 => absurd (sf_pt2 B3612 sf_k16) c4142) (fun c4142 => ?_)
                    refine pm_R_ret pm_M185 (r := none) rfl rfl ?_
                    show pm_R _ 187 189 [.ref 41, .long a0, pm_no, .int a1] [] _ _
                    refine pm_R_op pm_M187 (pc' := 190) (st' := [.int 1]) (pm_q187_1 (Nat.le_of_ble_eq_true rfl)) rfl rfl ?_
                    have B4143 : sf_B 0 600 (m4126 10) := T4129.2.2.1 10
                    exact pm_R_ret pm_M187 (r := some (.int 1)) (pm_q187_1 (Nat.le_of_ble_eq_true rfl)) rfl (K1 m4126 w4127 h4128 T4129 F4134 W4138 (⟨f2, e4139, ct4, fun z => (sf_pos B4135 (by decide) z)⟩) (sf_aux105 _ _ _ _ _ _ _ X3634 X3999 X4053 X4132))
                · skip
                  refine pm_R_lo pm_M183 (pc' := 9) rfl rfl rfl ?_
                  refine pm_R_cv pm_M183 (pc' := 12) (a := 41) (ra := []) (rest := []) (ls' := [.ref 41]) rfl rfl (Or.inl rfl) pm_M184 T4050.2.1 rfl (by decide) (Nat.lt_of_lt_of_le (by decide) T4050.1) rfl rfl (Nat.le_of_ble_eq_true rfl) rfl rfl ?_
                  refine pm_R_lo pm_M184 (pc' := 1) rfl rfl rfl ?_
                  refine pm_R_lo pm_M184 (pc' := 2) rfl rfl rfl ?_
                  have B4144 : sf_B 0 600 (m4047 12) := T4050.2.2.1 12
                  refine rf_R_get pm_M184 T4050 (pc' := 5) (v := .int (m4047 12)) rfl rfl rfl rfl ?_
                  refine rf_R_put pm_M184 T4050 (pc' := 8) rfl rfl rfl (by decide) rfl rfl B4144 rfl rfl (fun h4145 m4148 em4149 T4146 F4147 => ?_)
                  have F4150 := F4055.trans F4147 (by decide)
                  have B4151 : sf_B 1 4 (m4148 17) := by rw [em4149]; exact B4056
                  have ek4152 : (m4148 17).toInt = ((m4020 17)).toInt := by rw [em4149]; exact ek4057
                  have B4153 : sf_B 0 0 (m4148 22) := by rw [em4149]; exact B4058
                  have B4154 : sf_B 0 600 (m4148 16) := by rw [em4149]; exact B4144
                  have ek4155 : (m4148 16).toInt = ((m4047 12)).toInt := by rw [em4149]; rfl
                  have W4156 : rf_W [10, 12, 13, 14, 16, 17, 18, 22] m m4148 := by rw [em4149]; exact W4059.put (by decide)
                  refine pm_R_op pm_M184 (pc' := 9) (st' := [.int 0]) rfl rfl rfl ?_
                  refine pm_R_ret pm_M184 (r := some (.int 0)) rfl rfl ?_
                  show pm_R _ 183 12 [.ref 41, .int 2, .int 49, .int (-1)] [.int 0] _ _
                  refine pm_R_ret pm_M183 (r := some (.int 0)) rfl rfl ?_
                  show pm_R _ 187 173 [.ref 41, .long a0, pm_no, .int a1] [.int 0] _ _
                  refine pm_R_br pm_M187 (pc' := 176) (st' := []) (pm_q187_1 (Nat.le_of_ble_eq_true rfl)) rfl ?_
                  refine pm_R_op pm_M187 (pc' := 177) (st' := [.int 0]) (pm_q187_1 (Nat.le_of_ble_eq_true rfl)) rfl rfl ?_
                  have B4157 : sf_B 0 600 (m4148 10) := T4146.2.2.1 10
                  exact pm_R_ret pm_M187 (r := some (.int 0)) (pm_q187_1 (Nat.le_of_ble_eq_true rfl)) rfl (K0 m4148 w4048 h4145 T4146 F4150 W4156 (sf_aux71 _ _ _ _ _ _ _ X3634 X3999 X4053))
              · have B4158 : sf_B 0 5 (m3993 14) := sf_leL (Int32.not_lt.mp c4015) B4008 sf_k5
                refine pm_R_lo pm_M183 (pc' := 32) rfl rfl rfl ?_
                refine rf_R_get pm_M183 T4011 (pc' := 35) (v := .int (m3993 14)) rfl rfl rfl rfl ?_
                refine pm_R_lo pm_M183 (pc' := 36) rfl rfl rfl ?_
                refine pm_R_icmp pm_M183 (t := 53) (pc' := 39) rfl rfl rfl (fun c4159 => ?_) (fun c4159 => absurd (Classical.not_not.mp c4159) (sf_neq1 B4158 sf_kn1 (by decide)))
                skip
                refine pm_R_lo pm_M183 (pc' := 54) rfl rfl rfl ?_
                refine pm_R_cv pm_M183 (pc' := 57) (a := 41) (ra := []) (rest := []) (ls' := [.ref 41, pm_no, pm_no]) rfl rfl (Or.inl rfl) pm_M179 T4011.2.1 rfl (by decide) (Nat.lt_of_lt_of_le (by decide) T4011.1) rfl rfl (Nat.le_of_ble_eq_true rfl) rfl rfl ?_
                have B4160 : sf_B 0 600 (m3993 10) := T4011.2.2.1 10
                refine rf_c179 (d := d + 0) T4011  (fun m4163 w4164 h4165 T4166 F4167 W4168 X4169 X4170 => ?_)
                have F4171 := F4014.trans F4167 (by decide)
                have B4172 : sf_B 1 4 (m4163 17) := by rw [W4168 17 (by decide)]; exact B4002
                have ek4173 : (m4163 17).toInt = ((m3615 17)).toInt := by rw [W4168 17 (by decide)]; exact ek4003
                have W4174 : rf_W [10, 12, 13, 14, 16, 17, 18, 22] m m4163 := W4004.trans W4168 (by decide)
                show pm_R _ 183 57 [.ref 41, .int 1, .int 5, .int (-1)] [] _ _
                refine pm_R_op pm_M183 (pc' := 58) (st' := [.int 1]) rfl rfl rfl ?_
                refine pm_R_ret pm_M183 (r := some (.int 1)) rfl rfl ?_
                show pm_R _ 187 162 [.ref 41, .long a0, pm_no, .int a1] [.int 1] _ _
                refine pm_R_br pm_M187 (pc' := 165) (st' := []) (pm_q187_1 (Nat.le_of_ble_eq_true rfl)) rfl ?_
                refine pm_R_lo pm_M187 (pc' := 166) (pm_q187_1 (Nat.le_of_ble_eq_true rfl)) rfl rfl ?_
                refine pm_R_op pm_M187 (pc' := 167) (st' := [.int 2, .ref 41]) (pm_q187_1 (Nat.le_of_ble_eq_true rfl)) rfl rfl ?_
                refine pm_R_op pm_M187 (pc' := 169) (st' := [.int 49, .int 2, .ref 41]) (pm_q187_1 (Nat.le_of_ble_eq_true rfl)) rfl rfl ?_
                refine pm_R_op pm_M187 (pc' := 170) (st' := [.int (-1), .int 49, .int 2, .ref 41]) (pm_q187_1 (Nat.le_of_ble_eq_true rfl)) rfl rfl ?_
                refine pm_R_cv pm_M187 (pc' := 173) (a := 41) (ra := [.int (-1), .int 49, .int 2]) (rest := []) (ls' := [.ref 41, .int 2, .int 49, .int (-1)]) (pm_q187_1 (Nat.le_of_ble_eq_true rfl)) rfl (Or.inl rfl) pm_M183 T4166.2.1 rfl (by decide) (Nat.lt_of_lt_of_le (by decide) T4166.1) rfl rfl (Nat.le_of_ble_eq_true rfl) rfl rfl ?_
                refine pm_R_lo pm_M183 (pc' := 1) rfl rfl rfl ?_
                have B4175 : sf_B 0 4 (m4163 13) := T4166.2.2.1 13
                refine rf_R_get pm_M183 T4166 (pc' := 4) (v := .int (m4163 13)) rfl rfl rfl rfl ?_
                refine pm_R_op pm_M183 (pc' := 5) (st' := [.int 3, .int (m4163 13)]) rfl rfl rfl ?_
                refine pm_R_icmp pm_M183 (t := 13) (pc' := 8) rfl rfl rfl (fun c4176 => ?_) (fun c4176 => ?_)
                · have B4177 : sf_B 3 3 (m4163 13) := sf_eqL c4176 sf_k3
                  refine pm_R_lo pm_M183 (pc' := 14) rfl rfl rfl ?_
                  refine rf_R_get pm_M183 T4166 (pc' := 17) (v := .ref 52) rfl rfl rfl rfl ?_
                  refine pm_R_lo pm_M183 (pc' := 18) rfl rfl rfl ?_
                  refine pm_R_lo pm_M183 (pc' := 19) rfl rfl rfl ?_
                  have B4178 : sf_B 0 99 (m4163 14) := T4166.2.2.1 14
                  refine rf_R_get pm_M183 T4166 (pc' := 22) (v := .int (m4163 14)) rfl rfl rfl rfl ?_
                  have e4179 := (F4167.cell (by decide) e4013)
                  refine rf_R_ist pm_M183 T4166 (pc' := 23) rfl e4179 (by decide) (by decide) rfl ⟨_, rfl, sf_upd (sf_upd (sf_upd b3653 (sf_weak B3650 (by decide) (by decide)) _) (sf_weak B4008 (by decide) (by decide)) _) (sf_weak B4178 (by decide) (by decide)) _⟩ rfl (fun h4180 T4181 F4182 e4183 => ?_)
                  have F4184 := F4171.trans F4182 (by decide)
                  refine pm_R_lo pm_M183 (pc' := 24) rfl rfl rfl ?_
                  refine rf_R_get pm_M183 T4181 (pc' := 27) (v := .int (m4163 14)) rfl rfl rfl rfl ?_
                  refine pm_R_lo pm_M183 (pc' := 28) rfl rfl rfl ?_
                  refine pm_R_icmp pm_M183 (t := 39) (pc' := 31) rfl rfl rfl (fun c4185 => ?_) (fun c4185 => ?_)
                  · have B4186 : sf_B 50 99 (m4163 14) := sf_ltR c4185 sf_k49 B4178
                    refine pm_R_lo pm_M183 (pc' := 40) rfl rfl rfl ?_
                    refine pm_R_op pm_M183 (pc' := 41) (st' := [.int 2, .ref 41]) rfl rfl rfl ?_
                    refine pm_R_lo pm_M183 (pc' := 42) rfl rfl rfl ?_
                    have B4187 : sf_B 0 600 (m4163 12) := T4181.2.2.1 12
                    refine rf_R_get pm_M183 T4181 (pc' := 45) (v := .int (m4163 12)) rfl rfl rfl rfl ?_
                    refine pm_R_cv pm_M183 (pc' := 48) (a := 41) (ra := [.int (m4163 12), .int 2]) (rest := []) (ls' := [.ref 41, .int 2, .int (m4163 12)]) rfl rfl (Or.inl rfl) pm_M182 T4181.2.1 rfl (by decide) (Nat.lt_of_lt_of_le (by decide) T4181.1) rfl rfl (Nat.le_of_ble_eq_true rfl) rfl rfl ?_
                    refine rf_c182 (d := d + 1) T4181 (sf_weak sf_k2 (by decide) (by decide)) B4187 (fun m4190 w4191 h4192 T4193 F4194 W4195 B4196 => ?_)
                    have F4197 := F4184.trans F4194 (by decide)
                    have B4198 : sf_B 3 3 (m4190 13) := by rw [W4195 13 (by decide)]; exact B4177
                    have B4199 : sf_B 50 99 (m4190 14) := by rw [W4195 14 (by decide)]; exact B4186
                    have W4200 : rf_W [10, 12, 13, 14, 16, 17, 18, 22] m m4190 := W4174.trans W4195 (by decide)
                    show pm_R _ 183 48 [.ref 41, .int 2, .int 49, .int (-1)] [] _ _
                    refine pm_R_lo pm_M183 (pc' := 49) rfl rfl rfl ?_
                    refine pm_R_op pm_M183 (pc' := 50) (st' := [.int 0, .ref 41]) rfl rfl rfl ?_
                    refine rf_R_put pm_M183 T4193 (pc' := 53) rfl rfl rfl (by decide) rfl rfl (sf_weak sf_k0 (by decide) (by decide)) rfl rfl (fun h4201 m4204 em4205 T4202 F4203 => ?_)
                    have F4206 := F4197.trans F4203 (by decide)
                    have B4207 : sf_B 3 3 (m4204 13) := by rw [em4205]; exact B4198
                    have B4208 : sf_B 50 99 (m4204 14) := by rw [em4205]; exact B4199
                    have B4209 : sf_B 1 4 (m4204 17) := by rw [em4205]; exact B4196
                    have ek4210 : (m4204 17).toInt = ((m4190 17)).toInt := by rw [em4205]; rfl
                    have B4211 : sf_B 0 0 (m4204 22) := by rw [em4205]; exact sf_k0
                    have W4213 : rf_W [10, 12, 13, 14, 16, 17, 18, 22] m m4204 := by rw [em4205]; exact W4200.put (by decide)
                    refine pm_R_lo pm_M183 (pc' := 54) rfl rfl rfl ?_
                    refine pm_R_cv pm_M183 (pc' := 57) (a := 41) (ra := []) (rest := []) (ls' := [.ref 41, pm_no, pm_no]) rfl rfl (Or.inl rfl) pm_M179 T4202.2.1 rfl (by decide) (Nat.lt_of_lt_of_le (by decide) T4202.1) rfl rfl (Nat.le_of_ble_eq_true rfl) rfl rfl ?_
                    have B4214 : sf_B 0 600 (m4204 10) := T4202.2.2.1 10
                    refine rf_c179 (d := d + 0) T4202  (fun m4217 w4218 h4219 T4220 F4221 W4222 X4223 X4224 => ?_)
                    have F4225 := F4206.trans F4221 (by decide)
                    have B4226 : sf_B 1 4 (m4217 17) := by rw [W4222 17 (by decide)]; exact B4209
                    have ek4227 : (m4217 17).toInt = ((m4190 17)).toInt := by rw [W4222 17 (by decide)]; exact ek4210
                    have B4228 : sf_B 0 0 (m4217 22) := by rw [W4222 22 (by decide)]; exact B4211
                    have W4229 : rf_W [10, 12, 13, 14, 16, 17, 18, 22] m m4217 := W4213.trans W4222 (by decide)
                    show pm_R _ 183 57 [.ref 41, .int 2, .int 49, .int (-1)] [] _ _
                    refine pm_R_op pm_M183 (pc' := 58) (st' := [.int 1]) rfl rfl rfl ?_
                    refine pm_R_ret pm_M183 (r := some (.int 1)) rfl rfl ?_
                    show pm_R _ 187 173 [.ref 41, .long a0, pm_no, .int a1] [.int 1] _ _
                    refine pm_R_br pm_M187 (pc' := 178) (st' := []) (pm_q187_1 (Nat.le_of_ble_eq_true rfl)) rfl ?_
                    refine pm_R_lo pm_M187 (pc' := 179) (pm_q187_1 (Nat.le_of_ble_eq_true rfl)) rfl rfl ?_
                    refine pm_R_op pm_M187 (pc' := 180) (st' := [.int 1, .ref 41]) (pm_q187_1 (Nat.le_of_ble_eq_true rfl)) rfl rfl ?_
                    refine pm_R_op pm_M187 (pc' := 182) (st' := [.int 42, .int 1, .ref 41]) (pm_q187_1 (Nat.le_of_ble_eq_true rfl)) rfl rfl ?_
                    refine pm_R_op pm_M187 (pc' := 183) (st' := [.int 3, .int 42, .int 1, .ref 41]) (pm_q187_1 (Nat.le_of_ble_eq_true rfl)) rfl rfl ?_
                    refine pm_R_op pm_M187 (pc' := 185) (st' := [.int 16, .int 3, .int 42, .int 1, .ref 41]) (pm_q187_1 (Nat.le_of_ble_eq_true rfl)) rfl rfl ?_
                    refine pm_R_op pm_M187 (pc' := 186) (st' := [.int 0, .int 16, .int 3, .int 42, .int 1, .ref 41]) (pm_q187_1 (Nat.le_of_ble_eq_true rfl)) rfl rfl ?_
                    refine pm_R_cv pm_M187 (pc' := 189) (a := 41) (ra := [.int 0, .int 16, .int 3, .int 42, .int 1]) (rest := []) (ls' := [.ref 41, .int 1, .int 42, .int 3, .int 16, .int 0, pm_no, pm_no]) (pm_q187_1 (Nat.le_of_ble_eq_true rfl)) rfl (Or.inl rfl) pm_M185 T4220.2.1 rfl (by decide) (Nat.lt_of_lt_of_le (by decide) T4220.1) rfl rfl (Nat.le_of_ble_eq_true rfl) rfl rfl ?_
                    refine pm_R_lo pm_M185 (pc' := 1) rfl rfl rfl ?_
                    refine rf_R_get pm_M185 T4220 (pc' := 4) (v := .ref 51) rfl rfl rfl rfl ?_
                    refine pm_R_lo pm_M185 (pc' := 5) rfl rfl rfl ?_
                    have e4230 := (F4221.cell (by decide) (F4203.cell (by decide) (F4194.cell (by decide) (F4182.cell (by decide) (F4167.cell (by decide) (F4012.cell (by decide) (F3997.cell (by decide) (F3656.cell (by decide) (F3632.cell (by decide) (F3619.cell (by decide) e3))))))))))
                    refine pm_R_iald pm_M185 (pc' := 6) (v := (f2 1)) rfl e4230 (Nat.lt_of_lt_of_le (by decide) T4220.1) rfl rfl rfl ?_
                    refine pm_R_lo pm_M185 (pc' := 8) (ls' := [.ref 41, .int 1, .int 42, .int 3, .int 16, .int 0, .int (f2 1), pm_no]) (st' := []) rfl rfl rfl ?_
                    refine pm_R_lo pm_M185 (pc' := 10) rfl rfl rfl ?_
                    refine pm_R_lo pm_M185 (pc' := 12) rfl rfl rfl ?_
                    refine pm_R_icmp pm_M185 (t := 16) (pc' := 15) rfl rfl rfl (fun c4233 => absurd (sf_pt2 B3612 sf_k16) c4233) (fun c4233 => ?_)
                    refine pm_R_ret pm_M185 (r := none) rfl rfl ?_
                    show pm_R _ 187 189 [.ref 41, .long a0, pm_no, .int a1] [] _ _
                    refine pm_R_op pm_M187 (pc' := 190) (st' := [.int 1]) (pm_q187_1 (Nat.le_of_ble_eq_true rfl)) rfl rfl ?_
                    have B4234 : sf_B 0 600 (m4217 10) := T4220.2.2.1 10
                    exact pm_R_ret pm_M187 (r := some (.int 1)) (pm_q187_1 (Nat.le_of_ble_eq_true rfl)) rfl (K1 m4217 w4218 h4219 T4220 F4225 W4229 (⟨f2, e4230, ct4, fun z => (sf_pos B4226 (by decide) z)⟩) (sf_aux106 _ _ _ _ _ _ _ X3634 X3999 X4169 X4223))
                  · have B4235 : sf_B 0 49 (m4163 14) := sf_leL (Int32.not_lt.mp c4185) B4178 sf_k49
                    refine pm_R_lo pm_M183 (pc' := 32) rfl rfl rfl ?_
                    refine rf_R_get pm_M183 T4181 (pc' := 35) (v := .int (m4163 14)) rfl rfl rfl rfl ?_
                    refine pm_R_lo pm_M183 (pc' := 36) rfl rfl rfl ?_
                    refine pm_R_icmp pm_M183 (t := 53) (pc' := 39) rfl rfl rfl (fun c4236 => ?_) (fun c4236 => absurd (Classical.not_not.mp c4236) (sf_neq1 B4235 sf_kn1 (by decide)))
                    skip
                    refine pm_R_lo pm_M183 (pc' := 54) rfl rfl rfl ?_
                    refine pm_R_cv pm_M183 (pc' := 57) (a := 41) (ra := []) (rest := []) (ls' := [.ref 41, pm_no, pm_no]) rfl rfl (Or.inl rfl) pm_M179 T4181.2.1 rfl (by decide) (Nat.lt_of_lt_of_le (by decide) T4181.1) rfl rfl (Nat.le_of_ble_eq_true rfl) rfl rfl ?_
                    have B4237 : sf_B 0 600 (m4163 10) := T4181.2.2.1 10
                    refine rf_c179 (d := d + 0) T4181  (fun m4240 w4241 h4242 T4243 F4244 W4245 X4246 X4247 => ?_)
                    have F4248 := F4184.trans F4244 (by decide)
                    have B4249 : sf_B 1 4 (m4240 17) := by rw [W4245 17 (by decide)]; exact B4172
                    have ek4250 : (m4240 17).toInt = ((m3615 17)).toInt := by rw [W4245 17 (by decide)]; exact ek4173
                    have W4251 : rf_W [10, 12, 13, 14, 16, 17, 18, 22] m m4240 := W4174.trans W4245 (by decide)
                    show pm_R _ 183 57 [.ref 41, .int 2, .int 49, .int (-1)] [] _ _
                    refine pm_R_op pm_M183 (pc' := 58) (st' := [.int 1]) rfl rfl rfl ?_
                    refine pm_R_ret pm_M183 (r := some (.int 1)) rfl rfl ?_
                    show pm_R _ 187 173 [.ref 41, .long a0, pm_no, .int a1] [.int 1] _ _
                    refine pm_R_br pm_M187 (pc' := 178) (st' := []) (pm_q187_1 (Nat.le_of_ble_eq_true rfl)) rfl ?_
                    refine pm_R_lo pm_M187 (pc' := 179) (pm_q187_1 (Nat.le_of_ble_eq_true rfl)) rfl rfl ?_
                    refine pm_R_op pm_M187 (pc' := 180) (st' := [.int 1, .ref 41]) (pm_q187_1 (Nat.le_of_ble_eq_true rfl)) rfl rfl ?_
                    refine pm_R_op pm_M187 (pc' := 182) (st' := [.int 42, .int 1, .ref 41]) (pm_q187_1 (Nat.le_of_ble_eq_true rfl)) rfl rfl ?_
                    refine pm_R_op pm_M187 (pc' := 183) (st' := [.int 3, .int 42, .int 1, .ref 41]) (pm_q187_1 (Nat.le_of_ble_eq_true rfl)) rfl rfl ?_
                    refine pm_R_op pm_M187 (pc' := 185) (st' := [.int 16, .int 3, .int 42, .int 1, .ref 41]) (pm_q187_1 (Nat.le_of_ble_eq_true rfl)) rfl rfl ?_
                    refine pm_R_op pm_M187 (pc' := 186) (st' := [.int 0, .int 16, .int 3, .int 42, .int 1, .ref 41]) (pm_q187_1 (Nat.le_of_ble_eq_true rfl)) rfl rfl ?_
                    refine pm_R_cv pm_M187 (pc' := 189) (a := 41) (ra := [.int 0, .int 16, .int 3, .int 42, .int 1]) (rest := []) (ls' := [.ref 41, .int 1, .int 42, .int 3, .int 16, .int 0, pm_no, pm_no]) (pm_q187_1 (Nat.le_of_ble_eq_true rfl)) rfl (Or.inl rfl) pm_M185 T4243.2.1 rfl (by decide) (Nat.lt_of_lt_of_le (by decide) T4243.1) rfl rfl (Nat.le_of_ble_eq_true rfl) rfl rfl ?_
                    refine pm_R_lo pm_M185 (pc' := 1) rfl rfl rfl ?_
                    refine rf_R_get pm_M185 T4243 (pc' := 4) (v := .ref 51) rfl rfl rfl rfl ?_
                    refine pm_R_lo pm_M185 (pc' := 5) rfl rfl rfl ?_
                    have e4252 := (F4244.cell (by decide) (F4182.cell (by decide) (F4167.cell (by decide) (F4012.cell (by decide) (F3997.cell (by decide) (F3656.cell (by decide) (F3632.cell (by decide) (F3619.cell (by decide) e3))))))))
                    refine pm_R_iald pm_M185 (pc' := 6) (v := (f2 1)) rfl e4252 (Nat.lt_of_lt_of_le (by decide) T4243.1) rfl rfl rfl ?_
                    refine pm_R_lo pm_M185 (pc' := 8) (ls' := [.ref 41, .int 1, .int 42, .int 3, .int 16, .int 0, .int (f2 1), pm_no]) (st' := []) rfl rfl rfl ?_
                    refine pm_R_lo pm_M185 (pc' := 10) rfl rfl rfl ?_
                    refine pm_R_lo pm_M185 (pc' := 12) rfl rfl rfl ?_
                    refine pm_R_icmp pm_M185 (t := 16) (pc' := 15) rfl rfl rfl (fun c4255 => absurd (sf_pt2 B3612 sf_k16) c4255) (fun c4255 => ?_)
                    refine pm_R_ret pm_M185 (r := none) rfl rfl ?_
                    show pm_R _ 187 189 [.ref 41, .long a0, pm_no, .int a1] [] _ _
                    refine pm_R_op pm_M187 (pc' := 190) (st' := [.int 1]) (pm_q187_1 (Nat.le_of_ble_eq_true rfl)) rfl rfl ?_
                    have B4256 : sf_B 0 600 (m4240 10) := T4243.2.2.1 10
                    exact pm_R_ret pm_M187 (r := some (.int 1)) (pm_q187_1 (Nat.le_of_ble_eq_true rfl)) rfl (K1 m4240 w4241 h4242 T4243 F4248 W4251 (⟨f2, e4252, ct4, fun z => (sf_pos B4249 (by decide) z)⟩) (sf_aux107 _ _ _ _ _ _ X3634 X3999 X4169 X4246))
                · skip
                  refine pm_R_lo pm_M183 (pc' := 9) rfl rfl rfl ?_
                  refine pm_R_cv pm_M183 (pc' := 12) (a := 41) (ra := []) (rest := []) (ls' := [.ref 41]) rfl rfl (Or.inl rfl) pm_M184 T4166.2.1 rfl (by decide) (Nat.lt_of_lt_of_le (by decide) T4166.1) rfl rfl (Nat.le_of_ble_eq_true rfl) rfl rfl ?_
                  refine pm_R_lo pm_M184 (pc' := 1) rfl rfl rfl ?_
                  refine pm_R_lo pm_M184 (pc' := 2) rfl rfl rfl ?_
                  have B4257 : sf_B 0 600 (m4163 12) := T4166.2.2.1 12
                  refine rf_R_get pm_M184 T4166 (pc' := 5) (v := .int (m4163 12)) rfl rfl rfl rfl ?_
                  refine rf_R_put pm_M184 T4166 (pc' := 8) rfl rfl rfl (by decide) rfl rfl B4257 rfl rfl (fun h4258 m4261 em4262 T4259 F4260 => ?_)
                  have F4263 := F4171.trans F4260 (by decide)
                  have B4264 : sf_B 1 4 (m4261 17) := by rw [em4262]; exact B4172
                  have ek4265 : (m4261 17).toInt = ((m3615 17)).toInt := by rw [em4262]; exact ek4173
                  have B4266 : sf_B 0 600 (m4261 16) := by rw [em4262]; exact B4257
                  have ek4267 : (m4261 16).toInt = ((m4163 12)).toInt := by rw [em4262]; rfl
                  have W4268 : rf_W [10, 12, 13, 14, 16, 17, 18, 22] m m4261 := by rw [em4262]; exact W4174.put (by decide)
                  refine pm_R_op pm_M184 (pc' := 9) (st' := [.int 0]) rfl rfl rfl ?_
                  refine pm_R_ret pm_M184 (r := some (.int 0)) rfl rfl ?_
                  show pm_R _ 183 12 [.ref 41, .int 2, .int 49, .int (-1)] [.int 0] _ _
                  refine pm_R_ret pm_M183 (r := some (.int 0)) rfl rfl ?_
                  show pm_R _ 187 173 [.ref 41, .long a0, pm_no, .int a1] [.int 0] _ _
                  refine pm_R_br pm_M187 (pc' := 176) (st' := []) (pm_q187_1 (Nat.le_of_ble_eq_true rfl)) rfl ?_
                  refine pm_R_op pm_M187 (pc' := 177) (st' := [.int 0]) (pm_q187_1 (Nat.le_of_ble_eq_true rfl)) rfl rfl ?_
                  have B4269 : sf_B 0 600 (m4261 10) := T4259.2.2.1 10
                  exact pm_R_ret pm_M187 (r := some (.int 0)) (pm_q187_1 (Nat.le_of_ble_eq_true rfl)) rfl (K0 m4261 w4164 h4258 T4259 F4263 W4268 (sf_aux74 _ _ _ _ _ _ X3634 X3999 X4169))
            · skip
              refine pm_R_lo pm_M183 (pc' := 9) rfl rfl rfl ?_
              refine pm_R_cv pm_M183 (pc' := 12) (a := 41) (ra := []) (rest := []) (ls' := [.ref 41]) rfl rfl (Or.inl rfl) pm_M184 T3996.2.1 rfl (by decide) (Nat.lt_of_lt_of_le (by decide) T3996.1) rfl rfl (Nat.le_of_ble_eq_true rfl) rfl rfl ?_
              refine pm_R_lo pm_M184 (pc' := 1) rfl rfl rfl ?_
              refine pm_R_lo pm_M184 (pc' := 2) rfl rfl rfl ?_
              have B4270 : sf_B 0 600 (m3993 12) := T3996.2.2.1 12
              refine rf_R_get pm_M184 T3996 (pc' := 5) (v := .int (m3993 12)) rfl rfl rfl rfl ?_
              refine rf_R_put pm_M184 T3996 (pc' := 8) rfl rfl rfl (by decide) rfl rfl B4270 rfl rfl (fun h4271 m4274 em4275 T4272 F4273 => ?_)
              have F4276 := F4001.trans F4273 (by decide)
              have B4277 : sf_B 1 4 (m4274 17) := by rw [em4275]; exact B4002
              have ek4278 : (m4274 17).toInt = ((m3615 17)).toInt := by rw [em4275]; exact ek4003
              have B4279 : sf_B 0 600 (m4274 16) := by rw [em4275]; exact B4270
              have ek4280 : (m4274 16).toInt = ((m3993 12)).toInt := by rw [em4275]; rfl
              have W4281 : rf_W [10, 12, 13, 14, 16, 17, 18, 22] m m4274 := by rw [em4275]; exact W4004.put (by decide)
              refine pm_R_op pm_M184 (pc' := 9) (st' := [.int 0]) rfl rfl rfl ?_
              refine pm_R_ret pm_M184 (r := some (.int 0)) rfl rfl ?_
              show pm_R _ 183 12 [.ref 41, .int 1, .int 5, .int (-1)] [.int 0] _ _
              refine pm_R_ret pm_M183 (r := some (.int 0)) rfl rfl ?_
              show pm_R _ 187 162 [.ref 41, .long a0, pm_no, .int a1] [.int 0] _ _
              refine pm_R_br pm_M187 (pc' := 176) (st' := []) (pm_q187_1 (Nat.le_of_ble_eq_true rfl)) rfl ?_
              refine pm_R_op pm_M187 (pc' := 177) (st' := [.int 0]) (pm_q187_1 (Nat.le_of_ble_eq_true rfl)) rfl rfl ?_
              have B4282 : sf_B 0 600 (m4274 10) := T4272.2.2.1 10
              exact pm_R_ret pm_M187 (r := some (.int 0)) (pm_q187_1 (Nat.le_of_ble_eq_true rfl)) rfl (K0 m4274 w3994 h4271 T4272 F4276 W4281 (sf_aux75 _ _ _ _ _ X3634 X3999))
        · skip
          refine pm_R_lo pm_M183 (pc' := 9) rfl rfl rfl ?_
          refine pm_R_cv pm_M183 (pc' := 12) (a := 41) (ra := []) (rest := []) (ls' := [.ref 41]) rfl rfl (Or.inl rfl) pm_M184 T3631.2.1 rfl (by decide) (Nat.lt_of_lt_of_le (by decide) T3631.1) rfl rfl (Nat.le_of_ble_eq_true rfl) rfl rfl ?_
          refine pm_R_lo pm_M184 (pc' := 1) rfl rfl rfl ?_
          refine pm_R_lo pm_M184 (pc' := 2) rfl rfl rfl ?_
          have B4283 : sf_B 0 600 (m3628 12) := T3631.2.2.1 12
          refine rf_R_get pm_M184 T3631 (pc' := 5) (v := .int (m3628 12)) rfl rfl rfl rfl ?_
          refine rf_R_put pm_M184 T3631 (pc' := 8) rfl rfl rfl (by decide) rfl rfl B4283 rfl rfl (fun h4284 m4287 em4288 T4285 F4286 => ?_)
          have F4289 := F3636.trans F4286 (by decide)
          have B4290 : sf_B 1 4 (m4287 17) := by rw [em4288]; exact B3637
          have ek4291 : (m4287 17).toInt = ((m3615 17)).toInt := by rw [em4288]; exact ek3638
          have B4292 : sf_B 0 600 (m4287 16) := by rw [em4288]; exact B4283
          have ek4293 : (m4287 16).toInt = ((m3628 12)).toInt := by rw [em4288]; rfl
          have W4294 : rf_W [10, 12, 13, 14, 16, 17, 18, 22] m m4287 := by rw [em4288]; exact W3639.put (by decide)
          refine pm_R_op pm_M184 (pc' := 9) (st' := [.int 0]) rfl rfl rfl ?_
          refine pm_R_ret pm_M184 (r := some (.int 0)) rfl rfl ?_
          show pm_R _ 183 12 [.ref 41, .int 0, .int 9, .int (-1)] [.int 0] _ _
          refine pm_R_ret pm_M183 (r := some (.int 0)) rfl rfl ?_
          show pm_R _ 187 152 [.ref 41, .long a0, pm_no, .int a1] [.int 0] _ _
          refine pm_R_br pm_M187 (pc' := 176) (st' := []) (pm_q187_1 (Nat.le_of_ble_eq_true rfl)) rfl ?_
          refine pm_R_op pm_M187 (pc' := 177) (st' := [.int 0]) (pm_q187_1 (Nat.le_of_ble_eq_true rfl)) rfl rfl ?_
          have B4295 : sf_B 0 600 (m4287 10) := T4285.2.2.1 10
          exact pm_R_ret pm_M187 (r := some (.int 0)) (pm_q187_1 (Nat.le_of_ble_eq_true rfl)) rfl (K0 m4287 w3629 h4284 T4285 F4289 W4294 (sf_aux76 _ _ _ _ X3634))
    · have k4296 := sf_lneC e2468 c2469
      refine pm_R_lo pm_M187 (pc' := 17) rfl rfl rfl ?_
      refine pm_R_ldc2 pm_M187 (pc' := 20) rfl rfl rfl ?_
      refine sf_R_lcmp pm_M187 (pc' := 21) rfl rfl (fun z4297 e4298 => ?_)
      refine pm_R_ifc pm_M187 (t := 29) (pc' := 24) rfl rfl rfl (fun c4299 => ?_) (fun c4299 => ?_)
      · have B4300 : sf_B 0 0 z4297 := sf_eqL c4299 sf_k0
        have B4301 : lf_B 1852137842 1852137842 a0 := lf_eqB e4298 B4300 (⟨by decide, by decide⟩ : lf_B 1852137842 1852137842 1852137842)
        refine pm_R_lo pm_M187 (pc' := 30) rfl rfl rfl ?_
        refine pm_R_ldc2 pm_M187 (pc' := 33) rfl rfl rfl ?_
        refine pm_R_op pm_M187 (pc' := 34) (st' := [.int z7]) rfl (by show some (Value.int (lg_cmp a0 1920298085) :: _) = _; rw [← e8]) rfl ?_
        refine pm_R_ifc pm_M187 (t := 48) (pc' := 37) rfl rfl rfl (fun c4304 => ?_) (fun c4304 => absurd (Classical.not_not.mp c4304) c9)
        have k4305 := sf_lneC e8 c4304
        refine pm_R_lo pm_M187 (pc' := 49) rfl rfl rfl ?_
        refine pm_R_ldc2 pm_M187 (pc' := 52) rfl rfl rfl ?_
        refine pm_R_op pm_M187 (pc' := 53) (st' := [.int z2467]) rfl (by show some (Value.int (lg_cmp a0 1936287598) :: _) = _; rw [← e2468]) rfl ?_
        refine pm_R_ifc pm_M187 (t := 73) (pc' := 56) rfl rfl rfl (fun c4308 => ?_) (fun c4308 => absurd (Classical.not_not.mp c4308) c2469)
        have k4309 := sf_lneC e2468 c4308
        refine pm_R_lo pm_M187 (pc' := 74) rfl rfl rfl ?_
        refine pm_R_cv pm_M187 (pc' := 77) (a := 41) (ra := []) (rest := []) (ls' := [.ref 41, pm_no, pm_no]) rfl rfl (Or.inl rfl) pm_M179 T.2.1 rfl (by decide) (Nat.lt_of_lt_of_le (by decide) T.1) rfl rfl (Nat.le_of_ble_eq_true rfl) rfl rfl ?_
        refine rf_c179 (d := d + 1) T  (fun m4312 w4313 h4314 T4315 F4316 W4317 X4318 X4319 => ?_)
        have F4320 := (rf_G.refl [41, 51, 52] h).trans F4316 (by decide)
        have B4321 : sf_B 0 4 (m4312 17) := by rw [W4317 17 (by decide)]; exact B6
        have ek4322 : (m4312 17).toInt = ((m 17)).toInt := by rw [W4317 17 (by decide)]
        have W4323 : rf_W [10, 12, 13, 14, 16, 17, 18, 22] m m4312 := (rf_W.refl [10, 12, 13, 14, 16, 17, 18, 22] m).trans W4317 (by decide)
        show pm_R _ 187 77 [.ref 41, .long a0, pm_no, .int a1] [] _ _
        refine pm_R_lo pm_M187 (pc' := 78) rfl rfl rfl ?_
        refine pm_R_ldc2 pm_M187 (pc' := 81) rfl rfl rfl ?_
        refine pm_R_op pm_M187 (pc' := 82) (st' := [.int z7]) rfl (by show some (Value.int (lg_cmp a0 1920298085) :: _) = _; rw [← e8]) rfl ?_
        refine pm_R_ifc pm_M187 (t := 136) (pc' := 85) rfl rfl rfl (fun c4326 => ?_) (fun c4326 => absurd (Classical.not_not.mp c4326) c9)
        have k4327 := sf_lneC e8 c4326
        refine pm_R_lo pm_M187 (pc' := 137) (pm_q187_1 (Nat.le_of_ble_eq_true rfl)) rfl rfl ?_
        refine pm_R_ldc2 pm_M187 (pc' := 140) (pm_q187_1 (Nat.le_of_ble_eq_true rfl)) rfl rfl ?_
        refine pm_R_op pm_M187 (pc' := 141) (st' := [.int z2467]) (pm_q187_1 (Nat.le_of_ble_eq_true rfl)) (by show some (Value.int (lg_cmp a0 1936287598) :: _) = _; rw [← e2468]) rfl ?_
        refine pm_R_ifc pm_M187 (t := 191) (pc' := 144) (pm_q187_1 (Nat.le_of_ble_eq_true rfl)) rfl rfl (fun c4330 => ?_) (fun c4330 => absurd (Classical.not_not.mp c4330) c2469)
        have k4331 := sf_lneC e2468 c4330
        refine pm_R_lo pm_M187 (pc' := 192) (pm_q187_1 (Nat.le_of_ble_eq_true rfl)) rfl rfl ?_
        refine pm_R_op pm_M187 (pc' := 193) (st' := [.int 0, .ref 41]) (pm_q187_1 (Nat.le_of_ble_eq_true rfl)) rfl rfl ?_
        refine pm_R_op pm_M187 (pc' := 195) (st' := [.int 9, .int 0, .ref 41]) (pm_q187_1 (Nat.le_of_ble_eq_true rfl)) rfl rfl ?_
        refine pm_R_op pm_M187 (pc' := 196) (st' := [.int (-1), .int 9, .int 0, .ref 41]) (pm_q187_1 (Nat.le_of_ble_eq_true rfl)) rfl rfl ?_
        refine pm_R_cv pm_M187 (pc' := 199) (a := 41) (ra := [.int (-1), .int 9, .int 0]) (rest := []) (ls' := [.ref 41, .int 0, .int 9, .int (-1)]) (pm_q187_1 (Nat.le_of_ble_eq_true rfl)) rfl (Or.inl rfl) pm_M183 T4315.2.1 rfl (by decide) (Nat.lt_of_lt_of_le (by decide) T4315.1) rfl rfl (Nat.le_of_ble_eq_true rfl) rfl rfl ?_
        refine pm_R_lo pm_M183 (pc' := 1) rfl rfl rfl ?_
        have B4332 : sf_B 0 4 (m4312 13) := T4315.2.2.1 13
        refine rf_R_get pm_M183 T4315 (pc' := 4) (v := .int (m4312 13)) rfl rfl rfl rfl ?_
        refine pm_R_op pm_M183 (pc' := 5) (st' := [.int 3, .int (m4312 13)]) rfl rfl rfl ?_
        refine pm_R_icmp pm_M183 (t := 13) (pc' := 8) rfl rfl rfl (fun c4333 => ?_) (fun c4333 => ?_)
        · have B4334 : sf_B 3 3 (m4312 13) := sf_eqL c4333 sf_k3
          refine pm_R_lo pm_M183 (pc' := 14) rfl rfl rfl ?_
          refine rf_R_get pm_M183 T4315 (pc' := 17) (v := .ref 52) rfl rfl rfl rfl ?_
          refine pm_R_lo pm_M183 (pc' := 18) rfl rfl rfl ?_
          refine pm_R_lo pm_M183 (pc' := 19) rfl rfl rfl ?_
          have B4335 : sf_B 0 99 (m4312 14) := T4315.2.2.1 14
          refine rf_R_get pm_M183 T4315 (pc' := 22) (v := .int (m4312 14)) rfl rfl rfl rfl ?_
          obtain ⟨f4336, e4337, b4338⟩ := T4315.2.2.2.1 52 (by decide) (by decide)
          refine rf_R_ist pm_M183 T4315 (pc' := 23) rfl e4337 (by decide) (by decide) rfl ⟨_, rfl, sf_upd b4338 (sf_weak B4335 (by decide) (by decide)) _⟩ rfl (fun h4339 T4340 F4341 e4342 => ?_)
          have F4343 := F4320.trans F4341 (by decide)
          refine pm_R_lo pm_M183 (pc' := 24) rfl rfl rfl ?_
          refine rf_R_get pm_M183 T4340 (pc' := 27) (v := .int (m4312 14)) rfl rfl rfl rfl ?_
          refine pm_R_lo pm_M183 (pc' := 28) rfl rfl rfl ?_
          refine pm_R_icmp pm_M183 (t := 39) (pc' := 31) rfl rfl rfl (fun c4344 => ?_) (fun c4344 => ?_)
          · have B4345 : sf_B 10 99 (m4312 14) := sf_ltR c4344 sf_k9 B4335
            refine pm_R_lo pm_M183 (pc' := 40) rfl rfl rfl ?_
            refine pm_R_op pm_M183 (pc' := 41) (st' := [.int 2, .ref 41]) rfl rfl rfl ?_
            refine pm_R_lo pm_M183 (pc' := 42) rfl rfl rfl ?_
            have B4346 : sf_B 0 600 (m4312 12) := T4340.2.2.1 12
            refine rf_R_get pm_M183 T4340 (pc' := 45) (v := .int (m4312 12)) rfl rfl rfl rfl ?_
            refine pm_R_cv pm_M183 (pc' := 48) (a := 41) (ra := [.int (m4312 12), .int 2]) (rest := []) (ls' := [.ref 41, .int 2, .int (m4312 12)]) rfl rfl (Or.inl rfl) pm_M182 T4340.2.1 rfl (by decide) (Nat.lt_of_lt_of_le (by decide) T4340.1) rfl rfl (Nat.le_of_ble_eq_true rfl) rfl rfl ?_
            refine rf_c182 (d := d + 1) T4340 (sf_weak sf_k2 (by decide) (by decide)) B4346 (fun m4349 w4350 h4351 T4352 F4353 W4354 B4355 => ?_)
            have F4356 := F4343.trans F4353 (by decide)
            have B4357 : sf_B 3 3 (m4349 13) := by rw [W4354 13 (by decide)]; exact B4334
            have B4358 : sf_B 10 99 (m4349 14) := by rw [W4354 14 (by decide)]; exact B4345
            have W4359 : rf_W [10, 12, 13, 14, 16, 17, 18, 22] m m4349 := W4323.trans W4354 (by decide)
            show pm_R _ 183 48 [.ref 41, .int 0, .int 9, .int (-1)] [] _ _
            refine pm_R_lo pm_M183 (pc' := 49) rfl rfl rfl ?_
            refine pm_R_op pm_M183 (pc' := 50) (st' := [.int 0, .ref 41]) rfl rfl rfl ?_
            refine rf_R_put pm_M183 T4352 (pc' := 53) rfl rfl rfl (by decide) rfl rfl (sf_weak sf_k0 (by decide) (by decide)) rfl rfl (fun h4360 m4363 em4364 T4361 F4362 => ?_)
            have F4365 := F4356.trans F4362 (by decide)
            have B4366 : sf_B 3 3 (m4363 13) := by rw [em4364]; exact B4357
            have B4367 : sf_B 10 99 (m4363 14) := by rw [em4364]; exact B4358
            have B4368 : sf_B 1 4 (m4363 17) := by rw [em4364]; exact B4355
            have ek4369 : (m4363 17).toInt = ((m4349 17)).toInt := by rw [em4364]; rfl
            have B4370 : sf_B 0 0 (m4363 22) := by rw [em4364]; exact sf_k0
            have W4372 : rf_W [10, 12, 13, 14, 16, 17, 18, 22] m m4363 := by rw [em4364]; exact W4359.put (by decide)
            refine pm_R_lo pm_M183 (pc' := 54) rfl rfl rfl ?_
            refine pm_R_cv pm_M183 (pc' := 57) (a := 41) (ra := []) (rest := []) (ls' := [.ref 41, pm_no, pm_no]) rfl rfl (Or.inl rfl) pm_M179 T4361.2.1 rfl (by decide) (Nat.lt_of_lt_of_le (by decide) T4361.1) rfl rfl (Nat.le_of_ble_eq_true rfl) rfl rfl ?_
            have B4373 : sf_B 0 600 (m4363 10) := T4361.2.2.1 10
            refine rf_c179 (d := d + 0) T4361  (fun m4376 w4377 h4378 T4379 F4380 W4381 X4382 X4383 => ?_)
            have F4384 := F4365.trans F4380 (by decide)
            have B4385 : sf_B 1 4 (m4376 17) := by rw [W4381 17 (by decide)]; exact B4368
            have ek4386 : (m4376 17).toInt = ((m4349 17)).toInt := by rw [W4381 17 (by decide)]; exact ek4369
            have B4387 : sf_B 0 0 (m4376 22) := by rw [W4381 22 (by decide)]; exact B4370
            have W4388 : rf_W [10, 12, 13, 14, 16, 17, 18, 22] m m4376 := W4372.trans W4381 (by decide)
            show pm_R _ 183 57 [.ref 41, .int 0, .int 9, .int (-1)] [] _ _
            refine pm_R_op pm_M183 (pc' := 58) (st' := [.int 1]) rfl rfl rfl ?_
            refine pm_R_ret pm_M183 (r := some (.int 1)) rfl rfl ?_
            show pm_R _ 187 199 [.ref 41, .long a0, pm_no, .int a1] [.int 1] _ _
            refine pm_R_br pm_M187 (pc' := 202) (st' := []) (pm_q187_1 (Nat.le_of_ble_eq_true rfl)) rfl ?_
            refine pm_R_lo pm_M187 (pc' := 203) (pm_q187_1 (Nat.le_of_ble_eq_true rfl)) rfl rfl ?_
            refine pm_R_op pm_M187 (pc' := 204) (st' := [.int 1, .ref 41]) (pm_q187_1 (Nat.le_of_ble_eq_true rfl)) rfl rfl ?_
            refine pm_R_op pm_M187 (pc' := 206) (st' := [.int 9, .int 1, .ref 41]) (pm_q187_1 (Nat.le_of_ble_eq_true rfl)) rfl rfl ?_
            refine pm_R_lo pm_M187 (pc' := 207) (pm_q187_1 (Nat.le_of_ble_eq_true rfl)) rfl rfl ?_
            refine rf_R_get pm_M187 T4379 (pc' := 210) (v := .ref 52) (pm_q187_2 (Nat.le_of_ble_eq_true rfl)) rfl rfl rfl ?_
            refine pm_R_op pm_M187 (pc' := 211) (st' := [.int 0, .ref 52, .int 9, .int 1, .ref 41]) (pm_q187_2 (Nat.le_of_ble_eq_true rfl)) rfl rfl ?_
            have e4389 := (F4380.cell (by decide) (F4362.cell (by decide) (F4353.cell (by decide) e4342)))
            refine pm_R_iald pm_M187 (pc' := 212) (v := (m4312 14)) (pm_q187_2 (Nat.le_of_ble_eq_true rfl)) e4389 (Nat.lt_of_lt_of_le (by decide) T4379.1) rfl rfl rfl ?_
            refine pm_R_cv pm_M187 (pc' := 215) (a := 41) (ra := [.int (m4312 14), .int 9, .int 1]) (rest := []) (ls' := [.ref 41, .int 1, .int 9, .int (m4312 14)]) (pm_q187_2 (Nat.le_of_ble_eq_true rfl)) rfl (Or.inl rfl) pm_M183 T4379.2.1 rfl (by decide) (Nat.lt_of_lt_of_le (by decide) T4379.1) rfl rfl (Nat.le_of_ble_eq_true rfl) rfl rfl ?_
            refine pm_R_lo pm_M183 (pc' := 1) rfl rfl rfl ?_
            have B4392 : sf_B 0 4 (m4376 13) := T4379.2.2.1 13
            refine rf_R_get pm_M183 T4379 (pc' := 4) (v := .int (m4376 13)) rfl rfl rfl rfl ?_
            refine pm_R_op pm_M183 (pc' := 5) (st' := [.int 3, .int (m4376 13)]) rfl rfl rfl ?_
            refine pm_R_icmp pm_M183 (t := 13) (pc' := 8) rfl rfl rfl (fun c4393 => ?_) (fun c4393 => ?_)
            · have B4394 : sf_B 3 3 (m4376 13) := sf_eqL c4393 sf_k3
              refine pm_R_lo pm_M183 (pc' := 14) rfl rfl rfl ?_
              refine rf_R_get pm_M183 T4379 (pc' := 17) (v := .ref 52) rfl rfl rfl rfl ?_
              refine pm_R_lo pm_M183 (pc' := 18) rfl rfl rfl ?_
              refine pm_R_lo pm_M183 (pc' := 19) rfl rfl rfl ?_
              have B4395 : sf_B 0 99 (m4376 14) := T4379.2.2.1 14
              refine rf_R_get pm_M183 T4379 (pc' := 22) (v := .int (m4376 14)) rfl rfl rfl rfl ?_
              refine rf_R_ist pm_M183 T4379 (pc' := 23) rfl e4389 (by decide) (by decide) rfl ⟨_, rfl, sf_upd (sf_upd b4338 (sf_weak B4335 (by decide) (by decide)) _) (sf_weak B4395 (by decide) (by decide)) _⟩ rfl (fun h4396 T4397 F4398 e4399 => ?_)
              have F4400 := F4384.trans F4398 (by decide)
              refine pm_R_lo pm_M183 (pc' := 24) rfl rfl rfl ?_
              refine rf_R_get pm_M183 T4397 (pc' := 27) (v := .int (m4376 14)) rfl rfl rfl rfl ?_
              refine pm_R_lo pm_M183 (pc' := 28) rfl rfl rfl ?_
              refine pm_R_icmp pm_M183 (t := 39) (pc' := 31) rfl rfl rfl (fun c4401 => ?_) (fun c4401 => ?_)
              · have B4402 : sf_B 10 99 (m4376 14) := sf_ltR c4401 sf_k9 B4395
                refine pm_R_lo pm_M183 (pc' := 40) rfl rfl rfl ?_
                refine pm_R_op pm_M183 (pc' := 41) (st' := [.int 2, .ref 41]) rfl rfl rfl ?_
                refine pm_R_lo pm_M183 (pc' := 42) rfl rfl rfl ?_
                have B4403 : sf_B 0 600 (m4376 12) := T4397.2.2.1 12
                refine rf_R_get pm_M183 T4397 (pc' := 45) (v := .int (m4376 12)) rfl rfl rfl rfl ?_
                refine pm_R_cv pm_M183 (pc' := 48) (a := 41) (ra := [.int (m4376 12), .int 2]) (rest := []) (ls' := [.ref 41, .int 2, .int (m4376 12)]) rfl rfl (Or.inl rfl) pm_M182 T4397.2.1 rfl (by decide) (Nat.lt_of_lt_of_le (by decide) T4397.1) rfl rfl (Nat.le_of_ble_eq_true rfl) rfl rfl ?_
                refine rf_c182 (d := d + 1) T4397 (sf_weak sf_k2 (by decide) (by decide)) B4403 (fun m4406 w4407 h4408 T4409 F4410 W4411 B4412 => ?_)
                have F4413 := F4400.trans F4410 (by decide)
                have B4414 : sf_B 0 0 (m4406 22) := by rw [W4411 22 (by decide)]; exact B4387
                have B4415 : sf_B 3 3 (m4406 13) := by rw [W4411 13 (by decide)]; exact B4394
                have B4416 : sf_B 10 99 (m4406 14) := by rw [W4411 14 (by decide)]; exact B4402
                have W4417 : rf_W [10, 12, 13, 14, 16, 17, 18, 22] m m4406 := W4388.trans W4411 (by decide)
                show pm_R _ 183 48 [.ref 41, .int 1, .int 9, .int (m4312 14)] [] _ _
                refine pm_R_lo pm_M183 (pc' := 49) rfl rfl rfl ?_
                refine pm_R_op pm_M183 (pc' := 50) (st' := [.int 0, .ref 41]) rfl rfl rfl ?_
                refine rf_R_put pm_M183 T4409 (pc' := 53) rfl rfl rfl (by decide) rfl rfl (sf_weak sf_k0 (by decide) (by decide)) rfl rfl (fun h4418 m4421 em4422 T4419 F4420 => ?_)
                have F4423 := F4413.trans F4420 (by decide)
                have B4424 : sf_B 3 3 (m4421 13) := by rw [em4422]; exact B4415
                have B4425 : sf_B 10 99 (m4421 14) := by rw [em4422]; exact B4416
                have B4426 : sf_B 1 4 (m4421 17) := by rw [em4422]; exact B4412
                have ek4427 : (m4421 17).toInt = ((m4406 17)).toInt := by rw [em4422]; rfl
                have B4428 : sf_B 0 0 (m4421 22) := by rw [em4422]; exact sf_k0
                have W4430 : rf_W [10, 12, 13, 14, 16, 17, 18, 22] m m4421 := by rw [em4422]; exact W4417.put (by decide)
                refine pm_R_lo pm_M183 (pc' := 54) rfl rfl rfl ?_
                refine pm_R_cv pm_M183 (pc' := 57) (a := 41) (ra := []) (rest := []) (ls' := [.ref 41, pm_no, pm_no]) rfl rfl (Or.inl rfl) pm_M179 T4419.2.1 rfl (by decide) (Nat.lt_of_lt_of_le (by decide) T4419.1) rfl rfl (Nat.le_of_ble_eq_true rfl) rfl rfl ?_
                have B4431 : sf_B 0 600 (m4421 10) := T4419.2.2.1 10
                refine rf_c179 (d := d + 0) T4419  (fun m4434 w4435 h4436 T4437 F4438 W4439 X4440 X4441 => ?_)
                have F4442 := F4423.trans F4438 (by decide)
                have B4443 : sf_B 1 4 (m4434 17) := by rw [W4439 17 (by decide)]; exact B4426
                have ek4444 : (m4434 17).toInt = ((m4406 17)).toInt := by rw [W4439 17 (by decide)]; exact ek4427
                have B4445 : sf_B 0 0 (m4434 22) := by rw [W4439 22 (by decide)]; exact B4428
                have W4446 : rf_W [10, 12, 13, 14, 16, 17, 18, 22] m m4434 := W4430.trans W4439 (by decide)
                show pm_R _ 183 57 [.ref 41, .int 1, .int 9, .int (m4312 14)] [] _ _
                refine pm_R_op pm_M183 (pc' := 58) (st' := [.int 1]) rfl rfl rfl ?_
                refine pm_R_ret pm_M183 (r := some (.int 1)) rfl rfl ?_
                show pm_R _ 187 215 [.ref 41, .long a0, pm_no, .int a1] [.int 1] _ _
                refine pm_R_br pm_M187 (pc' := 220) (st' := []) (pm_q187_2 (Nat.le_of_ble_eq_true rfl)) rfl ?_
                refine pm_R_lo pm_M187 (pc' := 221) (pm_q187_2 (Nat.le_of_ble_eq_true rfl)) rfl rfl ?_
                refine rf_R_get pm_M187 T4437 (pc' := 224) (v := .int (m4434 22)) (pm_q187_2 (Nat.le_of_ble_eq_true rfl)) rfl rfl rfl ?_
                refine pm_R_ifc pm_M187 (t := 252) (pc' := 227) (pm_q187_2 (Nat.le_of_ble_eq_true rfl)) rfl rfl (fun c4447 => ?_) (fun c4447 => absurd (sf_pt2 B4445 sf_k0) c4447)
                refine pm_R_op pm_M187 (pc' := 253) (st' := [.int 1]) (pm_q187_2 (Nat.le_of_ble_eq_true rfl)) rfl rfl ?_
                have e4448 := (F4438.cell (by decide) (F4420.cell (by decide) (F4410.cell (by decide) (F4398.cell (by decide) (F4380.cell (by decide) (F4362.cell (by decide) (F4353.cell (by decide) (F4341.cell (by decide) (F4316.cell (by decide) e3)))))))))
                have B4449 : sf_B 0 600 (m4434 10) := T4437.2.2.1 10
                exact pm_R_ret pm_M187 (r := some (.int 1)) (pm_q187_2 (Nat.le_of_ble_eq_true rfl)) rfl (K1 m4434 w4435 h4436 T4437 F4442 W4446 (⟨f2, e4448, ct4, fun z => (sf_pos B4443 (by decide) z)⟩) (sf_aux108 _ _ _ _ _ _ X4318 X4382 X4440))
              · have B4450 : sf_B 0 9 (m4376 14) := sf_leL (Int32.not_lt.mp c4401) B4395 sf_k9
                refine pm_R_lo pm_M183 (pc' := 32) rfl rfl rfl ?_
                refine rf_R_get pm_M183 T4397 (pc' := 35) (v := .int (m4376 14)) rfl rfl rfl rfl ?_
                refine pm_R_lo pm_M183 (pc' := 36) rfl rfl rfl ?_
                refine pm_R_icmp pm_M183 (t := 53) (pc' := 39) rfl rfl rfl (fun c4451 => ?_) (fun c4451 => absurd (Classical.not_not.mp c4451) (sf_neq2 B4450 B4345 (by decide)))
                skip
                refine pm_R_lo pm_M183 (pc' := 54) rfl rfl rfl ?_
                refine pm_R_cv pm_M183 (pc' := 57) (a := 41) (ra := []) (rest := []) (ls' := [.ref 41, pm_no, pm_no]) rfl rfl (Or.inl rfl) pm_M179 T4397.2.1 rfl (by decide) (Nat.lt_of_lt_of_le (by decide) T4397.1) rfl rfl (Nat.le_of_ble_eq_true rfl) rfl rfl ?_
                have B4452 : sf_B 0 600 (m4376 10) := T4397.2.2.1 10
                refine rf_c179 (d := d + 0) T4397  (fun m4455 w4456 h4457 T4458 F4459 W4460 X4461 X4462 => ?_)
                have F4463 := F4400.trans F4459 (by decide)
                have B4464 : sf_B 1 4 (m4455 17) := by rw [W4460 17 (by decide)]; exact B4385
                have ek4465 : (m4455 17).toInt = ((m4349 17)).toInt := by rw [W4460 17 (by decide)]; exact ek4386
                have B4466 : sf_B 0 0 (m4455 22) := by rw [W4460 22 (by decide)]; exact B4387
                have W4467 : rf_W [10, 12, 13, 14, 16, 17, 18, 22] m m4455 := W4388.trans W4460 (by decide)
                show pm_R _ 183 57 [.ref 41, .int 1, .int 9, .int (m4312 14)] [] _ _
                refine pm_R_op pm_M183 (pc' := 58) (st' := [.int 1]) rfl rfl rfl ?_
                refine pm_R_ret pm_M183 (r := some (.int 1)) rfl rfl ?_
                show pm_R _ 187 215 [.ref 41, .long a0, pm_no, .int a1] [.int 1] _ _
                refine pm_R_br pm_M187 (pc' := 220) (st' := []) (pm_q187_2 (Nat.le_of_ble_eq_true rfl)) rfl ?_
                refine pm_R_lo pm_M187 (pc' := 221) (pm_q187_2 (Nat.le_of_ble_eq_true rfl)) rfl rfl ?_
                refine rf_R_get pm_M187 T4458 (pc' := 224) (v := .int (m4455 22)) (pm_q187_2 (Nat.le_of_ble_eq_true rfl)) rfl rfl rfl ?_
                refine pm_R_ifc pm_M187 (t := 252) (pc' := 227) (pm_q187_2 (Nat.le_of_ble_eq_true rfl)) rfl rfl (fun c4468 => ?_) (fun c4468 => absurd (sf_pt2 B4466 sf_k0) c4468)
                refine pm_R_op pm_M187 (pc' := 253) (st' := [.int 1]) (pm_q187_2 (Nat.le_of_ble_eq_true rfl)) rfl rfl ?_
                have e4469 := (F4459.cell (by decide) (F4398.cell (by decide) (F4380.cell (by decide) (F4362.cell (by decide) (F4353.cell (by decide) (F4341.cell (by decide) (F4316.cell (by decide) e3)))))))
                have B4470 : sf_B 0 600 (m4455 10) := T4458.2.2.1 10
                exact pm_R_ret pm_M187 (r := some (.int 1)) (pm_q187_2 (Nat.le_of_ble_eq_true rfl)) rfl (K1 m4455 w4456 h4457 T4458 F4463 W4467 (⟨f2, e4469, ct4, fun z => (sf_pos B4464 (by decide) z)⟩) (sf_aux109 _ _ _ _ _ X4318 X4382 X4461))
            · skip
              refine pm_R_lo pm_M183 (pc' := 9) rfl rfl rfl ?_
              refine pm_R_cv pm_M183 (pc' := 12) (a := 41) (ra := []) (rest := []) (ls' := [.ref 41]) rfl rfl (Or.inl rfl) pm_M184 T4379.2.1 rfl (by decide) (Nat.lt_of_lt_of_le (by decide) T4379.1) rfl rfl (Nat.le_of_ble_eq_true rfl) rfl rfl ?_
              refine pm_R_lo pm_M184 (pc' := 1) rfl rfl rfl ?_
              refine pm_R_lo pm_M184 (pc' := 2) rfl rfl rfl ?_
              have B4471 : sf_B 0 600 (m4376 12) := T4379.2.2.1 12
              refine rf_R_get pm_M184 T4379 (pc' := 5) (v := .int (m4376 12)) rfl rfl rfl rfl ?_
              refine rf_R_put pm_M184 T4379 (pc' := 8) rfl rfl rfl (by decide) rfl rfl B4471 rfl rfl (fun h4472 m4475 em4476 T4473 F4474 => ?_)
              have F4477 := F4384.trans F4474 (by decide)
              have B4478 : sf_B 1 4 (m4475 17) := by rw [em4476]; exact B4385
              have ek4479 : (m4475 17).toInt = ((m4349 17)).toInt := by rw [em4476]; exact ek4386
              have B4480 : sf_B 0 0 (m4475 22) := by rw [em4476]; exact B4387
              have B4481 : sf_B 0 600 (m4475 16) := by rw [em4476]; exact B4471
              have ek4482 : (m4475 16).toInt = ((m4376 12)).toInt := by rw [em4476]; rfl
              have W4483 : rf_W [10, 12, 13, 14, 16, 17, 18, 22] m m4475 := by rw [em4476]; exact W4388.put (by decide)
              refine pm_R_op pm_M184 (pc' := 9) (st' := [.int 0]) rfl rfl rfl ?_
              refine pm_R_ret pm_M184 (r := some (.int 0)) rfl rfl ?_
              show pm_R _ 183 12 [.ref 41, .int 1, .int 9, .int (m4312 14)] [.int 0] _ _
              refine pm_R_ret pm_M183 (r := some (.int 0)) rfl rfl ?_
              show pm_R _ 187 215 [.ref 41, .long a0, pm_no, .int a1] [.int 0] _ _
              refine pm_R_br pm_M187 (pc' := 218) (st' := []) (pm_q187_2 (Nat.le_of_ble_eq_true rfl)) rfl ?_
              refine pm_R_op pm_M187 (pc' := 219) (st' := [.int 0]) (pm_q187_2 (Nat.le_of_ble_eq_true rfl)) rfl rfl ?_
              have B4484 : sf_B 0 600 (m4475 10) := T4473.2.2.1 10
              exact pm_R_ret pm_M187 (r := some (.int 0)) (pm_q187_2 (Nat.le_of_ble_eq_true rfl)) rfl (K0 m4475 w4377 h4472 T4473 F4477 W4483 (sf_aux83 _ _ _ _ _ X4318 X4382))
          · have B4485 : sf_B 0 9 (m4312 14) := sf_leL (Int32.not_lt.mp c4344) B4335 sf_k9
            refine pm_R_lo pm_M183 (pc' := 32) rfl rfl rfl ?_
            refine rf_R_get pm_M183 T4340 (pc' := 35) (v := .int (m4312 14)) rfl rfl rfl rfl ?_
            refine pm_R_lo pm_M183 (pc' := 36) rfl rfl rfl ?_
            refine pm_R_icmp pm_M183 (t := 53) (pc' := 39) rfl rfl rfl (fun c4486 => ?_) (fun c4486 => absurd (Classical.not_not.mp c4486) (sf_neq1 B4485 sf_kn1 (by decide)))
            skip
            refine pm_R_lo pm_M183 (pc' := 54) rfl rfl rfl ?_
            refine pm_R_cv pm_M183 (pc' := 57) (a := 41) (ra := []) (rest := []) (ls' := [.ref 41, pm_no, pm_no]) rfl rfl (Or.inl rfl) pm_M179 T4340.2.1 rfl (by decide) (Nat.lt_of_lt_of_le (by decide) T4340.1) rfl rfl (Nat.le_of_ble_eq_true rfl) rfl rfl ?_
            have B4487 : sf_B 0 600 (m4312 10) := T4340.2.2.1 10
            refine rf_c179 (d := d + 0) T4340  (fun m4490 w4491 h4492 T4493 F4494 W4495 X4496 X4497 => ?_)
            have F4498 := F4343.trans F4494 (by decide)
            have B4499 : sf_B 0 4 (m4490 17) := by rw [W4495 17 (by decide)]; exact B4321
            have ek4500 : (m4490 17).toInt = ((m 17)).toInt := by rw [W4495 17 (by decide)]; exact ek4322
            have W4501 : rf_W [10, 12, 13, 14, 16, 17, 18, 22] m m4490 := W4323.trans W4495 (by decide)
            show pm_R _ 183 57 [.ref 41, .int 0, .int 9, .int (-1)] [] _ _
            refine pm_R_op pm_M183 (pc' := 58) (st' := [.int 1]) rfl rfl rfl ?_
            refine pm_R_ret pm_M183 (r := some (.int 1)) rfl rfl ?_
            show pm_R _ 187 199 [.ref 41, .long a0, pm_no, .int a1] [.int 1] _ _
            refine pm_R_br pm_M187 (pc' := 202) (st' := []) (pm_q187_1 (Nat.le_of_ble_eq_true rfl)) rfl ?_
            refine pm_R_lo pm_M187 (pc' := 203) (pm_q187_1 (Nat.le_of_ble_eq_true rfl)) rfl rfl ?_
            refine pm_R_op pm_M187 (pc' := 204) (st' := [.int 1, .ref 41]) (pm_q187_1 (Nat.le_of_ble_eq_true rfl)) rfl rfl ?_
            refine pm_R_op pm_M187 (pc' := 206) (st' := [.int 9, .int 1, .ref 41]) (pm_q187_1 (Nat.le_of_ble_eq_true rfl)) rfl rfl ?_
            refine pm_R_lo pm_M187 (pc' := 207) (pm_q187_1 (Nat.le_of_ble_eq_true rfl)) rfl rfl ?_
            refine rf_R_get pm_M187 T4493 (pc' := 210) (v := .ref 52) (pm_q187_2 (Nat.le_of_ble_eq_true rfl)) rfl rfl rfl ?_
            refine pm_R_op pm_M187 (pc' := 211) (st' := [.int 0, .ref 52, .int 9, .int 1, .ref 41]) (pm_q187_2 (Nat.le_of_ble_eq_true rfl)) rfl rfl ?_
            have e4502 := (F4494.cell (by decide) e4342)
            refine pm_R_iald pm_M187 (pc' := 212) (v := (m4312 14)) (pm_q187_2 (Nat.le_of_ble_eq_true rfl)) e4502 (Nat.lt_of_lt_of_le (by decide) T4493.1) rfl rfl rfl ?_
            refine pm_R_cv pm_M187 (pc' := 215) (a := 41) (ra := [.int (m4312 14), .int 9, .int 1]) (rest := []) (ls' := [.ref 41, .int 1, .int 9, .int (m4312 14)]) (pm_q187_2 (Nat.le_of_ble_eq_true rfl)) rfl (Or.inl rfl) pm_M183 T4493.2.1 rfl (by decide) (Nat.lt_of_lt_of_le (by decide) T4493.1) rfl rfl (Nat.le_of_ble_eq_true rfl) rfl rfl ?_
            refine pm_R_lo pm_M183 (pc' := 1) rfl rfl rfl ?_
            have B4505 : sf_B 0 4 (m4490 13) := T4493.2.2.1 13
            refine rf_R_get pm_M183 T4493 (pc' := 4) (v := .int (m4490 13)) rfl rfl rfl rfl ?_
            refine pm_R_op pm_M183 (pc' := 5) (st' := [.int 3, .int (m4490 13)]) rfl rfl rfl ?_
            refine pm_R_icmp pm_M183 (t := 13) (pc' := 8) rfl rfl rfl (fun c4506 => ?_) (fun c4506 => ?_)
            · have B4507 : sf_B 3 3 (m4490 13) := sf_eqL c4506 sf_k3
              refine pm_R_lo pm_M183 (pc' := 14) rfl rfl rfl ?_
              refine rf_R_get pm_M183 T4493 (pc' := 17) (v := .ref 52) rfl rfl rfl rfl ?_
              refine pm_R_lo pm_M183 (pc' := 18) rfl rfl rfl ?_
              refine pm_R_lo pm_M183 (pc' := 19) rfl rfl rfl ?_
              have B4508 : sf_B 0 99 (m4490 14) := T4493.2.2.1 14
              refine rf_R_get pm_M183 T4493 (pc' := 22) (v := .int (m4490 14)) rfl rfl rfl rfl ?_
              refine rf_R_ist pm_M183 T4493 (pc' := 23) rfl e4502 (by decide) (by decide) rfl ⟨_, rfl, sf_upd (sf_upd b4338 (sf_weak B4335 (by decide) (by decide)) _) (sf_weak B4508 (by decide) (by decide)) _⟩ rfl (fun h4509 T4510 F4511 e4512 => ?_)
              have F4513 := F4498.trans F4511 (by decide)
              refine pm_R_lo pm_M183 (pc' := 24) rfl rfl rfl ?_
              refine rf_R_get pm_M183 T4510 (pc' := 27) (v := .int (m4490 14)) rfl rfl rfl rfl ?_
              refine pm_R_lo pm_M183 (pc' := 28) rfl rfl rfl ?_
              refine pm_R_icmp pm_M183 (t := 39) (pc' := 31) rfl rfl rfl (fun c4514 => ?_) (fun c4514 => ?_)
              · have B4515 : sf_B 10 99 (m4490 14) := sf_ltR c4514 sf_k9 B4508
                refine pm_R_lo pm_M183 (pc' := 40) rfl rfl rfl ?_
                refine pm_R_op pm_M183 (pc' := 41) (st' := [.int 2, .ref 41]) rfl rfl rfl ?_
                refine pm_R_lo pm_M183 (pc' := 42) rfl rfl rfl ?_
                have B4516 : sf_B 0 600 (m4490 12) := T4510.2.2.1 12
                refine rf_R_get pm_M183 T4510 (pc' := 45) (v := .int (m4490 12)) rfl rfl rfl rfl ?_
                refine pm_R_cv pm_M183 (pc' := 48) (a := 41) (ra := [.int (m4490 12), .int 2]) (rest := []) (ls' := [.ref 41, .int 2, .int (m4490 12)]) rfl rfl (Or.inl rfl) pm_M182 T4510.2.1 rfl (by decide) (Nat.lt_of_lt_of_le (by decide) T4510.1) rfl rfl (Nat.le_of_ble_eq_true rfl) rfl rfl ?_
                refine rf_c182 (d := d + 1) T4510 (sf_weak sf_k2 (by decide) (by decide)) B4516 (fun m4519 w4520 h4521 T4522 F4523 W4524 B4525 => ?_)
                have F4526 := F4513.trans F4523 (by decide)
                have B4527 : sf_B 3 3 (m4519 13) := by rw [W4524 13 (by decide)]; exact B4507
                have B4528 : sf_B 10 99 (m4519 14) := by rw [W4524 14 (by decide)]; exact B4515
                have W4529 : rf_W [10, 12, 13, 14, 16, 17, 18, 22] m m4519 := W4501.trans W4524 (by decide)
                show pm_R _ 183 48 [.ref 41, .int 1, .int 9, .int (m4312 14)] [] _ _
                refine pm_R_lo pm_M183 (pc' := 49) rfl rfl rfl ?_
                refine pm_R_op pm_M183 (pc' := 50) (st' := [.int 0, .ref 41]) rfl rfl rfl ?_
                refine rf_R_put pm_M183 T4522 (pc' := 53) rfl rfl rfl (by decide) rfl rfl (sf_weak sf_k0 (by decide) (by decide)) rfl rfl (fun h4530 m4533 em4534 T4531 F4532 => ?_)
                have F4535 := F4526.trans F4532 (by decide)
                have B4536 : sf_B 3 3 (m4533 13) := by rw [em4534]; exact B4527
                have B4537 : sf_B 10 99 (m4533 14) := by rw [em4534]; exact B4528
                have B4538 : sf_B 1 4 (m4533 17) := by rw [em4534]; exact B4525
                have ek4539 : (m4533 17).toInt = ((m4519 17)).toInt := by rw [em4534]; rfl
                have B4540 : sf_B 0 0 (m4533 22) := by rw [em4534]; exact sf_k0
                have W4542 : rf_W [10, 12, 13, 14, 16, 17, 18, 22] m m4533 := by rw [em4534]; exact W4529.put (by decide)
                refine pm_R_lo pm_M183 (pc' := 54) rfl rfl rfl ?_
                refine pm_R_cv pm_M183 (pc' := 57) (a := 41) (ra := []) (rest := []) (ls' := [.ref 41, pm_no, pm_no]) rfl rfl (Or.inl rfl) pm_M179 T4531.2.1 rfl (by decide) (Nat.lt_of_lt_of_le (by decide) T4531.1) rfl rfl (Nat.le_of_ble_eq_true rfl) rfl rfl ?_
                have B4543 : sf_B 0 600 (m4533 10) := T4531.2.2.1 10
                refine rf_c179 (d := d + 0) T4531  (fun m4546 w4547 h4548 T4549 F4550 W4551 X4552 X4553 => ?_)
                have F4554 := F4535.trans F4550 (by decide)
                have B4555 : sf_B 1 4 (m4546 17) := by rw [W4551 17 (by decide)]; exact B4538
                have ek4556 : (m4546 17).toInt = ((m4519 17)).toInt := by rw [W4551 17 (by decide)]; exact ek4539
                have B4557 : sf_B 0 0 (m4546 22) := by rw [W4551 22 (by decide)]; exact B4540
                have W4558 : rf_W [10, 12, 13, 14, 16, 17, 18, 22] m m4546 := W4542.trans W4551 (by decide)
                show pm_R _ 183 57 [.ref 41, .int 1, .int 9, .int (m4312 14)] [] _ _
                refine pm_R_op pm_M183 (pc' := 58) (st' := [.int 1]) rfl rfl rfl ?_
                refine pm_R_ret pm_M183 (r := some (.int 1)) rfl rfl ?_
                show pm_R _ 187 215 [.ref 41, .long a0, pm_no, .int a1] [.int 1] _ _
                refine pm_R_br pm_M187 (pc' := 220) (st' := []) (pm_q187_2 (Nat.le_of_ble_eq_true rfl)) rfl ?_
                refine pm_R_lo pm_M187 (pc' := 221) (pm_q187_2 (Nat.le_of_ble_eq_true rfl)) rfl rfl ?_
                refine rf_R_get pm_M187 T4549 (pc' := 224) (v := .int (m4546 22)) (pm_q187_2 (Nat.le_of_ble_eq_true rfl)) rfl rfl rfl ?_
                refine pm_R_ifc pm_M187 (t := 252) (pc' := 227) (pm_q187_2 (Nat.le_of_ble_eq_true rfl)) rfl rfl (fun c4559 => ?_) (fun c4559 => absurd (sf_pt2 B4557 sf_k0) c4559)
                refine pm_R_op pm_M187 (pc' := 253) (st' := [.int 1]) (pm_q187_2 (Nat.le_of_ble_eq_true rfl)) rfl rfl ?_
                have e4560 := (F4550.cell (by decide) (F4532.cell (by decide) (F4523.cell (by decide) (F4511.cell (by decide) (F4494.cell (by decide) (F4341.cell (by decide) (F4316.cell (by decide) e3)))))))
                have B4561 : sf_B 0 600 (m4546 10) := T4549.2.2.1 10
                exact pm_R_ret pm_M187 (r := some (.int 1)) (pm_q187_2 (Nat.le_of_ble_eq_true rfl)) rfl (K1 m4546 w4547 h4548 T4549 F4554 W4558 (⟨f2, e4560, ct4, fun z => (sf_pos B4555 (by decide) z)⟩) (sf_aux110 _ _ _ _ _ X4318 X4496 X4552))
              · have B4562 : sf_B 0 9 (m4490 14) := sf_leL (Int32.not_lt.mp c4514) B4508 sf_k9
                refine pm_R_lo pm_M183 (pc' := 32) rfl rfl rfl ?_
                refine rf_R_get pm_M183 T4510 (pc' := 35) (v := .int (m4490 14)) rfl rfl rfl rfl ?_
                refine pm_R_lo pm_M183 (pc' := 36) rfl rfl rfl ?_
                refine pm_R_icmp pm_M183 (t := 53) (pc' := 39) rfl rfl rfl (fun c4563 => ?_) (fun c4563 => ?_)
                · skip
                  refine pm_R_lo pm_M183 (pc' := 54) rfl rfl rfl ?_
                  refine pm_R_cv pm_M183 (pc' := 57) (a := 41) (ra := []) (rest := []) (ls' := [.ref 41, pm_no, pm_no]) rfl rfl (Or.inl rfl) pm_M179 T4510.2.1 rfl (by decide) (Nat.lt_of_lt_of_le (by decide) T4510.1) rfl rfl (Nat.le_of_ble_eq_true rfl) rfl rfl ?_
                  have B4564 : sf_B 0 600 (m4490 10) := T4510.2.2.1 10
                  refine rf_c179 (d := d + 0) T4510  (fun m4567 w4568 h4569 T4570 F4571 W4572 X4573 X4574 => ?_)
                  have F4575 := F4513.trans F4571 (by decide)
                  have B4576 : sf_B 0 4 (m4567 17) := by rw [W4572 17 (by decide)]; exact B4499
                  have ek4577 : (m4567 17).toInt = ((m 17)).toInt := by rw [W4572 17 (by decide)]; exact ek4500
                  have W4578 : rf_W [10, 12, 13, 14, 16, 17, 18, 22] m m4567 := W4501.trans W4572 (by decide)
                  show pm_R _ 183 57 [.ref 41, .int 1, .int 9, .int (m4312 14)] [] _ _
                  refine pm_R_op pm_M183 (pc' := 58) (st' := [.int 1]) rfl rfl rfl ?_
                  refine pm_R_ret pm_M183 (r := some (.int 1)) rfl rfl ?_
                  show pm_R _ 187 215 [.ref 41, .long a0, pm_no, .int a1] [.int 1] _ _
                  refine pm_R_br pm_M187 (pc' := 220) (st' := []) (pm_q187_2 (Nat.le_of_ble_eq_true rfl)) rfl ?_
                  refine pm_R_lo pm_M187 (pc' := 221) (pm_q187_2 (Nat.le_of_ble_eq_true rfl)) rfl rfl ?_
                  have B4579 : sf_B 0 1 (m4567 22) := T4570.2.2.1 22
                  refine rf_R_get pm_M187 T4570 (pc' := 224) (v := .int (m4567 22)) (pm_q187_2 (Nat.le_of_ble_eq_true rfl)) rfl rfl rfl ?_
                  refine pm_R_ifc pm_M187 (t := 252) (pc' := 227) (pm_q187_2 (Nat.le_of_ble_eq_true rfl)) rfl rfl (fun c4580 => ?_) (fun c4580 => ?_)
                  · have B4581 : sf_B 0 0 (m4567 22) := sf_eqL c4580 sf_k0
                    refine pm_R_op pm_M187 (pc' := 253) (st' := [.int 1]) (pm_q187_2 (Nat.le_of_ble_eq_true rfl)) rfl rfl ?_
                    have e4582 := (F4571.cell (by decide) (F4511.cell (by decide) (F4494.cell (by decide) (F4341.cell (by decide) (F4316.cell (by decide) e3)))))
                    have B4583 : sf_B 0 600 (m4567 10) := T4570.2.2.1 10
                    exact pm_R_ret pm_M187 (r := some (.int 1)) (pm_q187_2 (Nat.le_of_ble_eq_true rfl)) rfl (K1 m4567 w4568 h4569 T4570 F4575 W4578 (⟨f2, e4582, ct4, fun z => (bd5 (sf_aux53 _ _ ek4577 z))⟩) (sf_aux111 _ _ _ _ X4318 X4496 X4573))
                  · have B4584 : sf_B 1 1 (m4567 22) := sf_neL0 c4580 sf_k0 B4579
                    refine pm_R_lo pm_M187 (pc' := 228) (pm_q187_2 (Nat.le_of_ble_eq_true rfl)) rfl rfl ?_
                    refine rf_R_get pm_M187 T4570 (pc' := 231) (v := .ref 51) (pm_q187_2 (Nat.le_of_ble_eq_true rfl)) rfl rfl rfl ?_
                    refine pm_R_op pm_M187 (pc' := 233) (st' := [.int 90, .ref 51]) (pm_q187_2 (Nat.le_of_ble_eq_true rfl)) rfl rfl ?_
                    refine pm_R_lo pm_M187 (pc' := 234) (pm_q187_2 (Nat.le_of_ble_eq_true rfl)) rfl rfl ?_
                    refine rf_R_get pm_M187 T4570 (pc' := 237) (v := .ref 52) (pm_q187_2 (Nat.le_of_ble_eq_true rfl)) rfl rfl rfl ?_
                    refine pm_R_op pm_M187 (pc' := 238) (st' := [.int 0, .ref 52, .int 90, .ref 51]) (pm_q187_2 (Nat.le_of_ble_eq_true rfl)) rfl rfl ?_
                    have e4585 := (F4571.cell (by decide) e4512)
                    refine pm_R_iald pm_M187 (pc' := 239) (v := (m4312 14)) (pm_q187_2 (Nat.le_of_ble_eq_true rfl)) e4585 (Nat.lt_of_lt_of_le (by decide) T4570.1) rfl (Eq.trans (show (upd (upd f4336 (Int32.toNatClampNeg 0) (m4312 14)) (Int32.toNatClampNeg 1) (m4490 14)) (Int32.toNatClampNeg 0) = (upd f4336 (Int32.toNatClampNeg 0) (m4312 14)) (Int32.toNatClampNeg 0) from rfl) rfl) rfl ?_
                    refine sf_R_iadd pm_M187 (pc' := 240) (pm_q187_2 (Nat.le_of_ble_eq_true rfl)) rfl sf_k90 B4485 (by decide) (by decide) (fun z4588 e4589 B4590 => ?_)
                    refine pm_R_op pm_M187 (pc' := 241) (st' := [.int z4588, .ref 51, .int z4588, .ref 51]) (pm_q187_2 (Nat.le_of_ble_eq_true rfl)) rfl rfl ?_
                    have e4591 := (F4571.cell (by decide) (F4511.cell (by decide) (F4494.cell (by decide) (F4341.cell (by decide) (F4316.cell (by decide) e3)))))
                    refine rf_R_ild pm_M187 T4570 (pc' := 242) (pm_q187_2 (Nat.le_of_ble_eq_true rfl)) e4591 (by decide) (sf_in B4590 (by decide) (by decide)) rfl (fun z4592 ez4593 => ?_)
                    refine pm_R_op pm_M187 (pc' := 243) (st' := [.int 1, .int z4592, .int z4588, .ref 51]) (pm_q187_2 (Nat.le_of_ble_eq_true rfl)) rfl rfl ?_
                    refine pm_R_lo pm_M187 (pc' := 244) (pm_q187_2 (Nat.le_of_ble_eq_true rfl)) rfl rfl ?_
                    refine rf_R_get pm_M187 T4570 (pc' := 247) (v := .ref 52) (pm_q187_2 (Nat.le_of_ble_eq_true rfl)) rfl rfl rfl ?_
                    refine pm_R_op pm_M187 (pc' := 248) (st' := [.int 1, .ref 52, .int 1, .int z4592, .int z4588, .ref 51]) (pm_q187_2 (Nat.le_of_ble_eq_true rfl)) rfl rfl ?_
                    refine pm_R_iald pm_M187 (pc' := 249) (v := (m4490 14)) (pm_q187_2 (Nat.le_of_ble_eq_true rfl)) e4585 (Nat.lt_of_lt_of_le (by decide) T4570.1) rfl rfl rfl ?_
                    refine sf_R_iany pm_M187 (pc' := 250) (st := [.int z4592, .int z4588, .ref 51]) (pm_q187_2 (Nat.le_of_ble_eq_true rfl)) rfl rfl (fun z4599 => ?_)
                    refine sf_R_iany pm_M187 (pc' := 251) (st := [.int z4588, .ref 51]) (pm_q187_2 (Nat.le_of_ble_eq_true rfl)) rfl rfl (fun z4603 => ?_)
                    refine rf_R_ist pm_M187 T4570 (pc' := 252) (pm_q187_2 (Nat.le_of_ble_eq_true rfl)) e4591 (by decide) (by decide) (sf_in B4590 (by decide) (by decide)) ⟨_, rfl⟩ rfl (fun h4604 T4605 F4606 e4607 => ?_)
                    have F4608 := F4575.trans F4606 (by decide)
                    have ct4609 : rf_ct 0 (upd f2 (Int32.toNatClampNeg z4588) z4603) := ⟨(sf_eqL (Eq.trans (sf_upd_ne (j := Int32.toNatClampNeg 0) B4590 (by decide) (by decide)) rfl) ct4.1), (sf_eqL (Eq.trans (sf_upd_ne (j := Int32.toNatClampNeg 1) B4590 (by decide) (by decide)) rfl) ct4.2)⟩
                    have bd4610 : (m4567 17).toInt = 0 → rf_bd 0 (upd f2 (Int32.toNatClampNeg z4588) z4603) := fun z => ((bd5 (sf_aux53 _ _ ek4577 z)).set (k := z4588) (sf_any _) (rf_w0n (sf_aux61 _ _ e4589) B4485).1 (rf_w0n (sf_aux61 _ _ e4589) B4485).2)
                    refine pm_R_op pm_M187 (pc' := 253) (st' := [.int 1]) (pm_q187_2 (Nat.le_of_ble_eq_true rfl)) rfl rfl ?_
                    have B4611 : sf_B 0 600 (m4567 10) := T4605.2.2.1 10
                    exact pm_R_ret pm_M187 (r := some (.int 1)) (pm_q187_2 (Nat.le_of_ble_eq_true rfl)) rfl (K1 m4567 w4568 h4604 T4605 F4608 W4578 (⟨(upd f2 (Int32.toNatClampNeg z4588) z4603), e4607, ct4609, fun z => (bd4610 z)⟩) (sf_aux111 _ _ _ _ X4318 X4496 X4573))
                · refine pm_R_lo pm_M183 (pc' := 40) rfl rfl rfl ?_
                  refine pm_R_op pm_M183 (pc' := 41) (st' := [.int 2, .ref 41]) rfl rfl rfl ?_
                  refine pm_R_lo pm_M183 (pc' := 42) rfl rfl rfl ?_
                  have B4612 : sf_B 0 600 (m4490 12) := T4510.2.2.1 12
                  refine rf_R_get pm_M183 T4510 (pc' := 45) (v := .int (m4490 12)) rfl rfl rfl rfl ?_
                  refine pm_R_cv pm_M183 (pc' := 48) (a := 41) (ra := [.int (m4490 12), .int 2]) (rest := []) (ls' := [.ref 41, .int 2, .int (m4490 12)]) rfl rfl (Or.inl rfl) pm_M182 T4510.2.1 rfl (by decide) (Nat.lt_of_lt_of_le (by decide) T4510.1) rfl rfl (Nat.le_of_ble_eq_true rfl) rfl rfl ?_
                  refine rf_c182 (d := d + 1) T4510 (sf_weak sf_k2 (by decide) (by decide)) B4612 (fun m4615 w4616 h4617 T4618 F4619 W4620 B4621 => ?_)
                  have F4622 := F4513.trans F4619 (by decide)
                  have B4623 : sf_B 3 3 (m4615 13) := by rw [W4620 13 (by decide)]; exact B4507
                  have B4624 : sf_B 0 9 (m4615 14) := by rw [W4620 14 (by decide)]; exact B4562
                  have W4625 : rf_W [10, 12, 13, 14, 16, 17, 18, 22] m m4615 := W4501.trans W4620 (by decide)
                  show pm_R _ 183 48 [.ref 41, .int 1, .int 9, .int (m4312 14)] [] _ _
                  refine pm_R_lo pm_M183 (pc' := 49) rfl rfl rfl ?_
                  refine pm_R_op pm_M183 (pc' := 50) (st' := [.int 0, .ref 41]) rfl rfl rfl ?_
                  refine rf_R_put pm_M183 T4618 (pc' := 53) rfl rfl rfl (by decide) rfl rfl (sf_weak sf_k0 (by decide) (by decide)) rfl rfl (fun h4626 m4629 em4630 T4627 F4628 => ?_)
                  have F4631 := F4622.trans F4628 (by decide)
                  have B4632 : sf_B 3 3 (m4629 13) := by rw [em4630]; exact B4623
                  have B4633 : sf_B 0 9 (m4629 14) := by rw [em4630]; exact B4624
                  have B4634 : sf_B 1 4 (m4629 17) := by rw [em4630]; exact B4621
                  have ek4635 : (m4629 17).toInt = ((m4615 17)).toInt := by rw [em4630]; rfl
                  have B4636 : sf_B 0 0 (m4629 22) := by rw [em4630]; exact sf_k0
                  have W4638 : rf_W [10, 12, 13, 14, 16, 17, 18, 22] m m4629 := by rw [em4630]; exact W4625.put (by decide)
                  refine pm_R_lo pm_M183 (pc' := 54) rfl rfl rfl ?_
                  refine pm_R_cv pm_M183 (pc' := 57) (a := 41) (ra := []) (rest := []) (ls' := [.ref 41, pm_no, pm_no]) rfl rfl (Or.inl rfl) pm_M179 T4627.2.1 rfl (by decide) (Nat.lt_of_lt_of_le (by decide) T4627.1) rfl rfl (Nat.le_of_ble_eq_true rfl) rfl rfl ?_
                  have B4639 : sf_B 0 600 (m4629 10) := T4627.2.2.1 10
                  refine rf_c179 (d := d + 0) T4627  (fun m4642 w4643 h4644 T4645 F4646 W4647 X4648 X4649 => ?_)
                  have F4650 := F4631.trans F4646 (by decide)
                  have B4651 : sf_B 1 4 (m4642 17) := by rw [W4647 17 (by decide)]; exact B4634
                  have ek4652 : (m4642 17).toInt = ((m4615 17)).toInt := by rw [W4647 17 (by decide)]; exact ek4635
                  have B4653 : sf_B 0 0 (m4642 22) := by rw [W4647 22 (by decide)]; exact B4636
                  have W4654 : rf_W [10, 12, 13, 14, 16, 17, 18, 22] m m4642 := W4638.trans W4647 (by decide)
                  show pm_R _ 183 57 [.ref 41, .int 1, .int 9, .int (m4312 14)] [] _ _
                  refine pm_R_op pm_M183 (pc' := 58) (st' := [.int 1]) rfl rfl rfl ?_
                  refine pm_R_ret pm_M183 (r := some (.int 1)) rfl rfl ?_
                  show pm_R _ 187 215 [.ref 41, .long a0, pm_no, .int a1] [.int 1] _ _
                  refine pm_R_br pm_M187 (pc' := 220) (st' := []) (pm_q187_2 (Nat.le_of_ble_eq_true rfl)) rfl ?_
                  refine pm_R_lo pm_M187 (pc' := 221) (pm_q187_2 (Nat.le_of_ble_eq_true rfl)) rfl rfl ?_
                  refine rf_R_get pm_M187 T4645 (pc' := 224) (v := .int (m4642 22)) (pm_q187_2 (Nat.le_of_ble_eq_true rfl)) rfl rfl rfl ?_
                  refine pm_R_ifc pm_M187 (t := 252) (pc' := 227) (pm_q187_2 (Nat.le_of_ble_eq_true rfl)) rfl rfl (fun c4655 => ?_) (fun c4655 => absurd (sf_pt2 B4653 sf_k0) c4655)
                  refine pm_R_op pm_M187 (pc' := 253) (st' := [.int 1]) (pm_q187_2 (Nat.le_of_ble_eq_true rfl)) rfl rfl ?_
                  have e4656 := (F4646.cell (by decide) (F4628.cell (by decide) (F4619.cell (by decide) (F4511.cell (by decide) (F4494.cell (by decide) (F4341.cell (by decide) (F4316.cell (by decide) e3)))))))
                  have B4657 : sf_B 0 600 (m4642 10) := T4645.2.2.1 10
                  exact pm_R_ret pm_M187 (r := some (.int 1)) (pm_q187_2 (Nat.le_of_ble_eq_true rfl)) rfl (K1 m4642 w4643 h4644 T4645 F4650 W4654 (⟨f2, e4656, ct4, fun z => (sf_pos B4651 (by decide) z)⟩) (sf_aux110 _ _ _ _ _ X4318 X4496 X4648))
            · skip
              refine pm_R_lo pm_M183 (pc' := 9) rfl rfl rfl ?_
              refine pm_R_cv pm_M183 (pc' := 12) (a := 41) (ra := []) (rest := []) (ls' := [.ref 41]) rfl rfl (Or.inl rfl) pm_M184 T4493.2.1 rfl (by decide) (Nat.lt_of_lt_of_le (by decide) T4493.1) rfl rfl (Nat.le_of_ble_eq_true rfl) rfl rfl ?_
              refine pm_R_lo pm_M184 (pc' := 1) rfl rfl rfl ?_
              refine pm_R_lo pm_M184 (pc' := 2) rfl rfl rfl ?_
              have B4658 : sf_B 0 600 (m4490 12) := T4493.2.2.1 12
              refine rf_R_get pm_M184 T4493 (pc' := 5) (v := .int (m4490 12)) rfl rfl rfl rfl ?_
              refine rf_R_put pm_M184 T4493 (pc' := 8) rfl rfl rfl (by decide) rfl rfl B4658 rfl rfl (fun h4659 m4662 em4663 T4660 F4661 => ?_)
              have F4664 := F4498.trans F4661 (by decide)
              have B4665 : sf_B 0 4 (m4662 17) := by rw [em4663]; exact B4499
              have ek4666 : (m4662 17).toInt = ((m 17)).toInt := by rw [em4663]; exact ek4500
              have B4667 : sf_B 0 600 (m4662 16) := by rw [em4663]; exact B4658
              have ek4668 : (m4662 16).toInt = ((m4490 12)).toInt := by rw [em4663]; rfl
              have W4669 : rf_W [10, 12, 13, 14, 16, 17, 18, 22] m m4662 := by rw [em4663]; exact W4501.put (by decide)
              refine pm_R_op pm_M184 (pc' := 9) (st' := [.int 0]) rfl rfl rfl ?_
              refine pm_R_ret pm_M184 (r := some (.int 0)) rfl rfl ?_
              show pm_R _ 183 12 [.ref 41, .int 1, .int 9, .int (m4312 14)] [.int 0] _ _
              refine pm_R_ret pm_M183 (r := some (.int 0)) rfl rfl ?_
              show pm_R _ 187 215 [.ref 41, .long a0, pm_no, .int a1] [.int 0] _ _
              refine pm_R_br pm_M187 (pc' := 218) (st' := []) (pm_q187_2 (Nat.le_of_ble_eq_true rfl)) rfl ?_
              refine pm_R_op pm_M187 (pc' := 219) (st' := [.int 0]) (pm_q187_2 (Nat.le_of_ble_eq_true rfl)) rfl rfl ?_
              have B4670 : sf_B 0 600 (m4662 10) := T4660.2.2.1 10
              exact pm_R_ret pm_M187 (r := some (.int 0)) (pm_q187_2 (Nat.le_of_ble_eq_true rfl)) rfl (K0 m4662 w4491 h4659 T4660 F4664 W4669 (sf_aux90 _ _ _ _ X4318 X4496))
        · skip
          refine pm_R_lo pm_M183 (pc' := 9) rfl rfl rfl ?_
          refine pm_R_cv pm_M183 (pc' := 12) (a := 41) (ra := []) (rest := []) (ls' := [.ref 41]) rfl rfl (Or.inl rfl) pm_M184 T4315.2.1 rfl (by decide) (Nat.lt_of_lt_of_le (by decide) T4315.1) rfl rfl (Nat.le_of_ble_eq_true rfl) rfl rfl ?_
          refine pm_R_lo pm_M184 (pc' := 1) rfl rfl rfl ?_
          refine pm_R_lo pm_M184 (pc' := 2) rfl rfl rfl ?_
          have B4671 : sf_B 0 600 (m4312 12) := T4315.2.2.1 12
          refine rf_R_get pm_M184 T4315 (pc' := 5) (v := .int (m4312 12)) rfl rfl rfl rfl ?_
          refine rf_R_put pm_M184 T4315 (pc' := 8) rfl rfl rfl (by decide) rfl rfl B4671 rfl rfl (fun h4672 m4675 em4676 T4673 F4674 => ?_)
          have F4677 := F4320.trans F4674 (by decide)
          have B4678 : sf_B 0 4 (m4675 17) := by rw [em4676]; exact B4321
          have ek4679 : (m4675 17).toInt = ((m 17)).toInt := by rw [em4676]; exact ek4322
          have B4680 : sf_B 0 600 (m4675 16) := by rw [em4676]; exact B4671
          have ek4681 : (m4675 16).toInt = ((m4312 12)).toInt := by rw [em4676]; rfl
          have W4682 : rf_W [10, 12, 13, 14, 16, 17, 18, 22] m m4675 := by rw [em4676]; exact W4323.put (by decide)
          refine pm_R_op pm_M184 (pc' := 9) (st' := [.int 0]) rfl rfl rfl ?_
          refine pm_R_ret pm_M184 (r := some (.int 0)) rfl rfl ?_
          show pm_R _ 183 12 [.ref 41, .int 0, .int 9, .int (-1)] [.int 0] _ _
          refine pm_R_ret pm_M183 (r := some (.int 0)) rfl rfl ?_
          show pm_R _ 187 199 [.ref 41, .long a0, pm_no, .int a1] [.int 0] _ _
          refine pm_R_br pm_M187 (pc' := 218) (st' := []) (pm_q187_1 (Nat.le_of_ble_eq_true rfl)) rfl ?_
          refine pm_R_op pm_M187 (pc' := 219) (st' := [.int 0]) (pm_q187_2 (Nat.le_of_ble_eq_true rfl)) rfl rfl ?_
          have B4683 : sf_B 0 600 (m4675 10) := T4673.2.2.1 10
          exact pm_R_ret pm_M187 (r := some (.int 0)) (pm_q187_2 (Nat.le_of_ble_eq_true rfl)) rfl (K0 m4675 w4313 h4672 T4673 F4677 W4682 (sf_aux91 _ _ _ X4318))
      · have k4684 := sf_lneC e4298 c4299
        refine pm_R_lo pm_M187 (pc' := 25) rfl rfl rfl ?_
        refine pm_R_cv pm_M187 (pc' := 28) (a := 41) (ra := []) (rest := []) (ls' := [.ref 41]) rfl rfl (Or.inl rfl) pm_M184 T.2.1 rfl (by decide) (Nat.lt_of_lt_of_le (by decide) T.1) rfl rfl (Nat.le_of_ble_eq_true rfl) rfl rfl ?_
        refine pm_R_lo pm_M184 (pc' := 1) rfl rfl rfl ?_
        refine pm_R_lo pm_M184 (pc' := 2) rfl rfl rfl ?_
        have B4685 : sf_B 0 600 (m 12) := T.2.2.1 12
        refine rf_R_get pm_M184 T (pc' := 5) (v := .int (m 12)) rfl rfl rfl rfl ?_
        refine rf_R_put pm_M184 T (pc' := 8) rfl rfl rfl (by decide) rfl rfl B4685 rfl rfl (fun h4686 m4689 em4690 T4687 F4688 => ?_)
        have F4691 := (rf_G.refl [41, 51, 52] h).trans F4688 (by decide)
        have B4692 : sf_B 0 600 (m4689 10) := by rw [em4690]; exact B1
        have ek4693 : (m4689 10).toInt = ((m 10)).toInt := by rw [em4690]; rfl
        have B4694 : sf_B 0 4 (m4689 17) := by rw [em4690]; exact B6
        have ek4695 : (m4689 17).toInt = ((m 17)).toInt := by rw [em4690]; rfl
        have B4696 : sf_B 0 600 (m4689 16) := by rw [em4690]; exact B4685
        have ek4697 : (m4689 16).toInt = ((m 12)).toInt := by rw [em4690]; rfl
        have W4698 : rf_W [10, 12, 13, 14, 16, 17, 18, 22] m m4689 := by rw [em4690]; exact (rf_W.refl [10, 12, 13, 14, 16, 17, 18, 22] m).put (by decide)
        refine pm_R_op pm_M184 (pc' := 9) (st' := [.int 0]) rfl rfl rfl ?_
        refine pm_R_ret pm_M184 (r := some (.int 0)) rfl rfl ?_
        show pm_R _ 187 28 [.ref 41, .long a0, pm_no, .int a1] [.int 0] _ _
        exact pm_R_ret pm_M187 (r := some (.int 0)) rfl rfl (K0 m4689 w h4686 T4687 F4691 W4698 (sf_aux51 _ _ ek4693))
