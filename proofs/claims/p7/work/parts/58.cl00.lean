theorem cl_aux87 (v0 v1 v2 : Int) (q0 : v0 = v1) (q1 : v2 = v1) (q2 : v1 = 0) : v1 = 0 := by omega
theorem cl_aux88 (v0 v1 : Int) (q0 : v0 = v1 + 1) : v0 = v1 + 1 := by omega
theorem cl_aux89 (v0 v1 : Int) (q0 : v0 = v1) (q1 : 1 ≤ v1) : 1 ≤ v0 := by omega
theorem cl_aux90 (v0 v1 v2 v3 : Int) (q0 : v0 = v1) (q1 : v2 = v3) (q2 : v1 < v3) : v0 < v2 := by omega
theorem cl_aux91 (v0 : Int) (q0 : v0 ≤ 0) (q1 : 0 ≤ v0) : v0 = 0 := by omega
set_option maxRecDepth 100000 in
set_option maxHeartbeats 4000000 in
/-- SilentTable.text -/
theorem cl_c10 {d : Nat} {ck : cl_K} {E : Nat → pm_E} {m : Nat → Int32} {o : Nat → Option Nat} {h : pm_H} {Q : Option Value → pm_H → Prop} {a0 : Int32} {a1 : Int32} (G : cl_G ck E) (T : cl_T ck E m o h) (Y : cl_Y h) (K : ∀ (r : Int32) (m_q : Nat → Int32) (h_q : pm_H), cl_T ck E m_q o h_q → cl_F ck [17, 19, 20, 21, 22, 23, 25, 26, 27, 28, 29, 30] 6 561 h h_q → rf_W [0, 1, 2, 3, 4, 5, 6, 7, 8, 9, 10, 11, 12, 13] m m_q → (m_q 0).toInt = 0 → cl_Y h_q → sf_B (-2) 2 r → Q (some (.int r)) h_q) (K2 : ∀ (r : Int32) (m_q : Nat → Int32) (o_q : Nat → Option Nat) (ck_q : cl_K) (E_q : Nat → pm_E) (h_q : pm_H), (∀ b, b < h.1 → ck_q b = ck b) → (∀ a, a < h.1 → E_q a = E a) → cl_G ck_q E_q → cl_T ck_q E_q m_q o_q h_q → cl_F ck [17, 19, 20, 21, 22, 23, 25, 26, 27, 28, 29, 30] 6 561 h h_q → rf_W [0, 1, 2, 3, 4, 5, 6, 7, 8, 9, 10, 11, 12, 13] m m_q → (m_q 0).toInt = 0 → cl_Y h_q → Q (some (.int r)) h_q) : pm_R (d + 10) 10 0 [.ref 16, .int a0, .int a1, pm_no, pm_no, pm_no, pm_no] [] h Q := by
  obtain ⟨f1, e2, b3⟩ := id Y
  refine pm_R_lo pm_M10 (pc_q := 1) rfl rfl rfl ?_
  refine pm_R_get pm_M10 (pc_q := 4) (v := .ref 17) rfl rfl T.e16 (by decide) (T.lt (by decide)) rfl rfl ?_
  have B4 : sf_B 0 600 (m 0) := T.B 0
  refine pm_R_get pm_M10 (pc_q := 7) (v := .int (m 0)) rfl rfl T.e17 (by decide) (T.lt (by decide)) rfl rfl ?_
  refine pm_R_lo pm_M10 (pc_q := 8) (ls_q := [.ref 16, .int a0, .int a1, .int (m 0), pm_no, pm_no, pm_no]) (st_q := []) rfl rfl rfl ?_
  refine pm_R_lo pm_M10 (pc_q := 9) rfl rfl rfl ?_
  refine pm_R_get pm_M10 (pc_q := 12) (v := .ref 17) rfl rfl T.e16 (by decide) (T.lt (by decide)) rfl rfl ?_
  refine pm_R_op pm_M10 (pc_q := 13) (st_q := [.int 0, .ref 17]) rfl rfl rfl ?_
  refine cl_R_put17 G pm_M10 T (k := 0) (pc_q := 16) rfl rfl rfl (by decide) rfl rfl (sf_weak sf_k0 (by decide) (by decide)) rfl rfl rfl rfl rfl (fun h5 m8 em9 T6 F7 => ?_)
  have F10 := F7.cl (ck := ck) T.1
  have F11 := (cl_F.refl (ck := ck) (A := [17, 19, 20, 21, 22, 23, 25, 26, 27, 28, 29, 30]) (n := 0) (s := 0) T.1).trans (N := 0) (S := 0) F10 (by decide) (by decide) (by decide)
  have B12 : sf_B 0 0 (m8 0) := by rw [em9]; exact sf_k0
  have W14 : rf_W [0, 1, 2, 3, 4, 5, 6, 7, 8, 9, 10, 11, 12, 13] m m8 := by rw [em9]; exact (rf_W.refl [0, 1, 2, 3, 4, 5, 6, 7, 8, 9, 10, 11, 12, 13] m).put (by decide)
  have B15 : sf_B 0 4 (m8 1) := T6.B 1
  have B16 : sf_B 0 4 (m8 3) := T6.B 3
  have B17 : sf_B 0 50 (m8 5) := T6.B 5
  have B18 : sf_B 0 16 (m8 6) := T6.B 6
  have B19 : sf_B 0 99 (m8 7) := T6.B 7
  have B20 : sf_B (-1) 99 (m8 8) := T6.B 8
  refine pm_R_lo pm_M10 (pc_q := 17) rfl rfl rfl ?_
  refine pm_R_get pm_M10 (pc_q := 20) (v := .ref 17) rfl rfl T6.e16 (by decide) (T6.lt (by decide)) rfl rfl ?_
  refine pm_R_op pm_M10 (pc_q := 21) (st_q := [.int 0, .ref 17]) rfl rfl rfl ?_
  refine cl_R_put17 G pm_M10 T6 (k := 1) (pc_q := 24) rfl rfl rfl (by decide) rfl rfl (sf_weak sf_k0 (by decide) (by decide)) rfl rfl rfl rfl rfl (fun h21 m24 em25 T22 F23 => ?_)
  have F26 := F23.cl (ck := ck) T6.1
  have F27 := F11.trans (N := 0) (S := 0) F26 (by decide) (by decide) (by decide)
  have B28 : sf_B 0 0 (m24 0) := by rw [em25]; exact B12
  have ek29 : (m24 0).toInt = ((m8 0)).toInt := by rw [em25]; rfl
  have B30 : sf_B 0 4 (m24 3) := by rw [em25]; exact B16
  have ek31 : (m24 3).toInt = ((m8 3)).toInt := by rw [em25]; rfl
  have B32 : sf_B 0 50 (m24 5) := by rw [em25]; exact B17
  have ek33 : (m24 5).toInt = ((m8 5)).toInt := by rw [em25]; rfl
  have B34 : sf_B 0 16 (m24 6) := by rw [em25]; exact B18
  have ek35 : (m24 6).toInt = ((m8 6)).toInt := by rw [em25]; rfl
  have B36 : sf_B 0 99 (m24 7) := by rw [em25]; exact B19
  have ek37 : (m24 7).toInt = ((m8 7)).toInt := by rw [em25]; rfl
  have B38 : sf_B (-1) 99 (m24 8) := by rw [em25]; exact B20
  have ek39 : (m24 8).toInt = ((m8 8)).toInt := by rw [em25]; rfl
  have B40 : sf_B 0 0 (m24 1) := by rw [em25]; exact sf_k0
  have W42 : rf_W [0, 1, 2, 3, 4, 5, 6, 7, 8, 9, 10, 11, 12, 13] m m24 := by rw [em25]; exact W14.put (by decide)
  refine pm_R_lo pm_M10 (pc_q := 25) rfl rfl rfl ?_
  refine pm_R_get pm_M10 (pc_q := 28) (v := .ref 17) rfl rfl T22.e16 (by decide) (T22.lt (by decide)) rfl rfl ?_
  refine pm_R_op pm_M10 (pc_q := 29) (st_q := [.int (-1), .ref 17]) rfl rfl rfl ?_
  refine cl_R_put17 G pm_M10 T22 (k := 2) (pc_q := 32) rfl rfl rfl (by decide) rfl rfl (sf_weak sf_kn1 (by decide) (by decide)) rfl rfl rfl rfl rfl (fun h43 m46 em47 T44 F45 => ?_)
  have F48 := F45.cl (ck := ck) T22.1
  have F49 := F27.trans (N := 0) (S := 0) F48 (by decide) (by decide) (by decide)
  have B50 : sf_B 0 0 (m46 0) := by rw [em47]; exact B28
  have ek51 : (m46 0).toInt = ((m8 0)).toInt := by rw [em47]; exact ek29
  have B52 : sf_B 0 4 (m46 3) := by rw [em47]; exact B30
  have ek53 : (m46 3).toInt = ((m8 3)).toInt := by rw [em47]; exact ek31
  have B54 : sf_B 0 50 (m46 5) := by rw [em47]; exact B32
  have ek55 : (m46 5).toInt = ((m8 5)).toInt := by rw [em47]; exact ek33
  have B56 : sf_B 0 16 (m46 6) := by rw [em47]; exact B34
  have ek57 : (m46 6).toInt = ((m8 6)).toInt := by rw [em47]; exact ek35
  have B58 : sf_B 0 99 (m46 7) := by rw [em47]; exact B36
  have ek59 : (m46 7).toInt = ((m8 7)).toInt := by rw [em47]; exact ek37
  have B60 : sf_B (-1) 99 (m46 8) := by rw [em47]; exact B38
  have ek61 : (m46 8).toInt = ((m8 8)).toInt := by rw [em47]; exact ek39
  have B62 : sf_B 0 0 (m46 1) := by rw [em47]; exact B40
  have ek63 : (m46 1).toInt = ((m24 1)).toInt := by rw [em47]; rfl
  have B64 : sf_B (-1) (-1) (m46 2) := by rw [em47]; exact sf_kn1
  have W66 : rf_W [0, 1, 2, 3, 4, 5, 6, 7, 8, 9, 10, 11, 12, 13] m m46 := by rw [em47]; exact W42.put (by decide)
  refine pm_R_lo pm_M10 (pc_q := 33) rfl rfl rfl ?_
  refine pm_R_ifc pm_M10 (t := 41) (pc_q := 36) rfl rfl rfl (fun c67 => ?_) (fun c67 => ?_)
  · have B68 : sf_B (-2147483648) (-1) a0 := sf_ltL c67 (sf_any a0) sf_k0
    refine pm_R_op pm_M10 (pc_q := 43) (st_q := [.int (-2)]) rfl rfl rfl ?_
    have e69 := (F48.cell G (by decide) (by decide) (F26.cell G (by decide) (by decide) (F10.cell G (by decide) (by decide) e2)))
    exact pm_R_ret pm_M10 (r := some (.int (-2))) rfl rfl (K (-2) m46 h43 T44 (F49.weak (by decide) (by decide)) W66 (cl_aux91 _ B50.2 B50.1) ⟨_, e69, b3⟩ (sf_weak sf_kn2 (by decide) (by decide)))
  · have B70 : sf_B 0 2147483647 a0 := sf_leR (Int32.not_lt.mp c67) sf_k0 (sf_any a0)
    refine pm_R_lo pm_M10 (pc_q := 37) rfl rfl rfl ?_
    refine pm_R_op pm_M10 (pc_q := 38) (st_q := [.int 4, .int a0]) rfl rfl rfl ?_
    refine pm_R_icmp pm_M10 (t := 44) (pc_q := 41) rfl rfl rfl (fun c71 => ?_) (fun c71 => ?_)
    · have B72 : sf_B 0 3 a0 := sf_ltL c71 B70 sf_k4
      by_cases c73 : a0 = 0
      · rw [c73]
        refine pm_R_lo pm_M10 (pc_q := 45) rfl rfl rfl ?_
        refine pm_R_get pm_M10 (pc_q := 48) (v := .ref 17) rfl rfl T44.e16 (by decide) (T44.lt (by decide)) rfl rfl ?_
        refine pm_R_get pm_M10 (pc_q := 51) (v := .ref 23) rfl rfl T44.e17 (by decide) (T44.lt (by decide)) rfl rfl ?_
        refine pm_R_lo pm_M10 (pc_q := 52) rfl rfl rfl ?_
        obtain ⟨f77, e78, b79⟩ := T44.C 23 (by decide) (by decide)
        obtain ⟨z74, ez75⟩ : ∃ y, f77 (Int32.toNatClampNeg 0) = y := ⟨_, rfl⟩
        have B76 : sf_B 0 2 z74 := ez75 ▸ (b79 0)
        refine pm_R_iald pm_M10 (pc_q := 53) (v := z74) rfl e78 (T44.lt (by decide)) rfl ez75 rfl ?_
        refine pm_R_lo pm_M10 (pc_q := 55) (ls_q := [.ref 16, .int 0, .int a1, .int (m 0), .int z74, pm_no, pm_no]) (st_q := []) rfl rfl rfl ?_
        refine pm_R_lo pm_M10 (pc_q := 56) rfl rfl rfl ?_
        refine pm_R_op pm_M10 (pc_q := 57) (st_q := [.int (-1), .int a1]) rfl rfl rfl ?_
        refine pm_R_icmp pm_M10 (t := 64) (pc_q := 60) rfl rfl rfl (fun c80 => ?_) (fun c80 => ?_)
        · skip
          refine pm_R_op pm_M10 (pc_q := 65) (st_q := [.int 0]) rfl rfl rfl ?_
          refine pm_R_lo pm_M10 (pc_q := 67) (ls_q := [.ref 16, .int 0, .int a1, .int (m 0), .int z74, .int 0, pm_no]) (st_q := []) rfl rfl rfl ?_
          refine pm_R_lo pm_M10 (pc_q := 69) rfl rfl rfl ?_
          refine pm_R_br pm_M10 (pc_q := 85) (st_q := []) rfl rfl ?_
          refine pm_R_lo pm_M10 (pc_q := 86) rfl rfl rfl ?_
          refine pm_R_ifc pm_M10 (t := 95) (pc_q := 89) rfl rfl rfl (fun c81 => ?_) (fun c81 => ?_)
          · have B82 : sf_B (-2147483648) (-1) a1 := sf_ltL c81 (sf_any a1) sf_k0
            refine pm_R_op pm_M10 (pc_q := 97) (st_q := [.int (-2)]) rfl rfl rfl ?_
            have e83 := (F48.cell G (by decide) (by decide) (F26.cell G (by decide) (by decide) (F10.cell G (by decide) (by decide) e2)))
            exact pm_R_ret pm_M10 (r := some (.int (-2))) rfl rfl (K (-2) m46 h43 T44 (F49.weak (by decide) (by decide)) W66 (cl_aux91 _ B50.2 B50.1) ⟨_, e83, b3⟩ (sf_weak sf_kn2 (by decide) (by decide)))
          · have B84 : sf_B 0 2147483647 a1 := sf_leR (Int32.not_lt.mp c81) sf_k0 (sf_any a1)
            refine pm_R_lo pm_M10 (pc_q := 90) rfl rfl rfl ?_
            refine pm_R_lo pm_M10 (pc_q := 92) rfl rfl rfl ?_
            refine pm_R_icmp pm_M10 (t := 98) (pc_q := 95) rfl rfl rfl (fun c85 => ?_) (fun c85 => ?_)
            · have B86 : sf_B 0 1 a1 := sf_ltL c85 B84 B76
              have B87 : sf_B 1 2 z74 := sf_ltR c85 B84 B76
              refine pm_R_lo pm_M10 (pc_q := 100) rfl rfl rfl ?_
              refine pm_R_br pm_M10 (pc_q := 108) (st_q := []) rfl rfl ?_
              refine pm_R_lo pm_M10 (pc_q := 109) rfl rfl rfl ?_
              refine pm_R_lo pm_M10 (pc_q := 111) (ls_q := [.ref 16, .int 0, .int a1, .int (m 0), .int z74, .int 0, .int a1]) (st_q := []) rfl rfl rfl ?_
              refine pm_R_lo pm_M10 (pc_q := 112) rfl rfl rfl ?_
              refine pm_R_get pm_M10 (pc_q := 115) (v := .ref 25) rfl rfl T44.e16 (by decide) (T44.lt (by decide)) rfl rfl ?_
              refine pm_R_lo pm_M10 (pc_q := 116) rfl rfl rfl ?_
              refine pm_R_lo pm_M10 (pc_q := 117) (pm_q10_1 (Nat.le_of_ble_eq_true rfl)) rfl rfl ?_
              refine pm_R_cv pm_M10 (pc_q := 120) (a := 25) (ra := [.int 0, .int (m 0)]) (rest := []) (ls_q := [.ref 25, .int (m 0), .int 0, pm_no]) (pm_q10_1 (Nat.le_of_ble_eq_true rfl)) rfl (Or.inl rfl) pm_M11 T44.e25 rfl (by decide) (T44.lt (by decide)) rfl rfl (Nat.le_of_ble_eq_true rfl) rfl rfl ?_
              have e88 := (F48.cell G (by decide) (by decide) (F26.cell G (by decide) (by decide) (F10.cell G (by decide) (by decide) e2)))
              refine cl_c11_0 (d := d + 0) G T44 B4 ⟨_, e88, b3⟩ (fun m91 h92 T93 F94 W95 X96 X97 => ?_)
              have F98 := F49.trans (N := 0) (S := 0) F94 (by decide) (by decide) (by decide)
              have B99 : sf_B 0 0 (m91 0) := by rw [W95 0 (by decide)]; exact B50
              have ek100 : (m91 0).toInt = ((m8 0)).toInt := by rw [W95 0 (by decide)]; exact ek51
              have B101 : sf_B 0 0 (m91 1) := by rw [W95 1 (by decide)]; exact B62
              have ek102 : (m91 1).toInt = ((m24 1)).toInt := by rw [W95 1 (by decide)]; exact ek63
              have B103 : sf_B (-1) (-1) (m91 2) := by rw [W95 2 (by decide)]; exact B64
              have W104 : rf_W [0, 1, 2, 3, 4, 5, 6, 7, 8, 9, 10, 11, 12, 13] m m91 := W66.trans W95 (by decide)
              have B105 : sf_B 0 4 (m91 3) := T93.B 3
              have B106 : sf_B 0 50 (m91 5) := T93.B 5
              have B107 : sf_B 0 16 (m91 6) := T93.B 6
              have B108 : sf_B 0 99 (m91 7) := T93.B 7
              have B109 : sf_B (-1) 99 (m91 8) := T93.B 8
              show pm_R _ 10 120 [.ref 16, .int 0, .int a1, .int (m 0), .int z74, .int 0, .int a1] [] _ _
              obtain ⟨f110, e111, b112⟩ := id X97
              obtain ⟨f113, e114⟩ := T93.C 26 (by decide) (by decide)
              obtain ⟨f116, e117⟩ := T93.C 27 (by decide) (by decide)
              refine pm_R_lo pm_M10 (pc_q := 121) (pm_q10_1 (Nat.le_of_ble_eq_true rfl)) rfl rfl ?_
              refine pm_R_get pm_M10 (pc_q := 124) (v := .ref 17) (pm_q10_1 (Nat.le_of_ble_eq_true rfl)) rfl T93.e16 (by decide) (T93.lt (by decide)) rfl rfl ?_
              refine pm_R_lo pm_M10 (pc_q := 125) (pm_q10_1 (Nat.le_of_ble_eq_true rfl)) rfl rfl ?_
              refine pm_R_get pm_M10 (pc_q := 128) (v := .ref 25) (pm_q10_1 (Nat.le_of_ble_eq_true rfl)) rfl T93.e16 (by decide) (T93.lt (by decide)) rfl rfl ?_
              refine pm_R_get pm_M10 (pc_q := 131) (v := .int (m91 3)) (pm_q10_1 (Nat.le_of_ble_eq_true rfl)) rfl T93.e25 (by decide) (T93.lt (by decide)) rfl rfl ?_
              refine cl_R_put17 G pm_M10 T93 (k := 1) (pc_q := 134) (pm_q10_1 (Nat.le_of_ble_eq_true rfl)) rfl rfl (by decide) rfl rfl B105 rfl rfl rfl rfl rfl (fun h119 m122 em123 T120 F121 => ?_)
              have F124 := F121.cl (ck := ck) T93.1
              have F125 := F98.trans (N := 0) (S := 0) F124 (by decide) (by decide) (by decide)
              have B126 : sf_B 0 0 (m122 0) := by rw [em123]; exact B99
              have ek127 : (m122 0).toInt = ((m8 0)).toInt := by rw [em123]; exact ek100
              have B128 : sf_B (-1) (-1) (m122 2) := by rw [em123]; exact B103
              have B129 : sf_B 0 4 (m122 3) := by rw [em123]; exact B105
              have ek130 : (m122 3).toInt = ((m91 3)).toInt := by rw [em123]; rfl
              have B131 : sf_B 0 50 (m122 5) := by rw [em123]; exact B106
              have ek132 : (m122 5).toInt = ((m91 5)).toInt := by rw [em123]; rfl
              have B133 : sf_B 0 16 (m122 6) := by rw [em123]; exact B107
              have ek134 : (m122 6).toInt = ((m91 6)).toInt := by rw [em123]; rfl
              have B135 : sf_B 0 99 (m122 7) := by rw [em123]; exact B108
              have ek136 : (m122 7).toInt = ((m91 7)).toInt := by rw [em123]; rfl
              have B137 : sf_B (-1) 99 (m122 8) := by rw [em123]; exact B109
              have ek138 : (m122 8).toInt = ((m91 8)).toInt := by rw [em123]; rfl
              have B139 : sf_B 0 4 (m122 1) := by rw [em123]; exact B105
              have ek140 : (m122 1).toInt = ((m91 3)).toInt := by rw [em123]; rfl
              have W141 : rf_W [0, 1, 2, 3, 4, 5, 6, 7, 8, 9, 10, 11, 12, 13] m m122 := by rw [em123]; exact W104.put (by decide)
              refine pm_R_lo pm_M10 (pc_q := 135) (pm_q10_1 (Nat.le_of_ble_eq_true rfl)) rfl rfl ?_
              refine pm_R_get pm_M10 (pc_q := 138) (v := .ref 17) (pm_q10_1 (Nat.le_of_ble_eq_true rfl)) rfl T120.e16 (by decide) (T120.lt (by decide)) rfl rfl ?_
              refine pm_R_lo pm_M10 (pc_q := 139) (pm_q10_1 (Nat.le_of_ble_eq_true rfl)) rfl rfl ?_
              refine pm_R_get pm_M10 (pc_q := 142) (v := .ref 25) (pm_q10_1 (Nat.le_of_ble_eq_true rfl)) rfl T120.e16 (by decide) (T120.lt (by decide)) rfl rfl ?_
              have B142 : sf_B (-1) 600 (m122 4) := T120.B 4
              refine pm_R_get pm_M10 (pc_q := 145) (v := .int (m122 4)) (pm_q10_1 (Nat.le_of_ble_eq_true rfl)) rfl T120.e25 (by decide) (T120.lt (by decide)) rfl rfl ?_
              refine cl_R_put17 G pm_M10 T120 (k := 2) (pc_q := 148) (pm_q10_1 (Nat.le_of_ble_eq_true rfl)) rfl rfl (by decide) rfl rfl B142 rfl rfl rfl rfl rfl (fun h143 m146 em147 T144 F145 => ?_)
              have F148 := F145.cl (ck := ck) T120.1
              have F149 := F125.trans (N := 0) (S := 0) F148 (by decide) (by decide) (by decide)
              have B150 : sf_B 0 0 (m146 0) := by rw [em147]; exact B126
              have ek151 : (m146 0).toInt = ((m8 0)).toInt := by rw [em147]; exact ek127
              have B152 : sf_B 0 4 (m146 3) := by rw [em147]; exact B129
              have ek153 : (m146 3).toInt = ((m91 3)).toInt := by rw [em147]; exact ek130
              have B154 : sf_B 0 50 (m146 5) := by rw [em147]; exact B131
              have ek155 : (m146 5).toInt = ((m91 5)).toInt := by rw [em147]; exact ek132
              have B156 : sf_B 0 16 (m146 6) := by rw [em147]; exact B133
              have ek157 : (m146 6).toInt = ((m91 6)).toInt := by rw [em147]; exact ek134
              have B158 : sf_B 0 99 (m146 7) := by rw [em147]; exact B135
              have ek159 : (m146 7).toInt = ((m91 7)).toInt := by rw [em147]; exact ek136
              have B160 : sf_B (-1) 99 (m146 8) := by rw [em147]; exact B137
              have ek161 : (m146 8).toInt = ((m91 8)).toInt := by rw [em147]; exact ek138
              have B162 : sf_B 0 4 (m146 1) := by rw [em147]; exact B139
              have ek163 : (m146 1).toInt = ((m91 3)).toInt := by rw [em147]; exact ek140
              have B164 : sf_B (-1) 600 (m146 2) := by rw [em147]; exact B142
              have ek165 : (m146 2).toInt = ((m122 4)).toInt := by rw [em147]; rfl
              have W166 : rf_W [0, 1, 2, 3, 4, 5, 6, 7, 8, 9, 10, 11, 12, 13] m m146 := by rw [em147]; exact W141.put (by decide)
              refine pm_R_lo pm_M10 (pc_q := 149) (pm_q10_1 (Nat.le_of_ble_eq_true rfl)) rfl rfl ?_
              refine pm_R_get pm_M10 (pc_q := 152) (v := .ref 17) (pm_q10_1 (Nat.le_of_ble_eq_true rfl)) rfl T144.e16 (by decide) (T144.lt (by decide)) rfl rfl ?_
              refine pm_R_get pm_M10 (pc_q := 155) (v := .int (m91 3)) (pm_q10_1 (Nat.le_of_ble_eq_true rfl)) rfl T144.e17 (by decide) (T144.lt (by decide)) (congrArg (fun z => some (Value.int z)) (Int32.toInt_inj.mp (cl_aux3 _ _ ek163))) rfl ?_
              refine pm_R_ifc pm_M10 (t := 160) (pc_q := 158) (pm_q10_1 (Nat.le_of_ble_eq_true rfl)) rfl rfl (fun c167 => ?_) (fun c167 => ?_)
              · have B168 : sf_B 0 0 (m91 3) := sf_eqL c167 sf_k0
                refine pm_R_lo pm_M10 (pc_q := 161) (pm_q10_1 (Nat.le_of_ble_eq_true rfl)) rfl rfl ?_
                refine pm_R_lo pm_M10 (pc_q := 162) (pm_q10_1 (Nat.le_of_ble_eq_true rfl)) rfl rfl ?_
                refine pm_R_lo pm_M10 (pc_q := 164) (pm_q10_1 (Nat.le_of_ble_eq_true rfl)) rfl rfl ?_
                refine pm_R_cv pm_M10 (pc_q := 167) (a := 16) (ra := [.int a1, .int 0]) (rest := []) (ls_q := [.ref 16, .int 0, .int a1]) (pm_q10_1 (Nat.le_of_ble_eq_true rfl)) rfl (Or.inl rfl) pm_M43 T144.e16 rfl (by decide) (T144.lt (by decide)) rfl rfl (Nat.le_of_ble_eq_true rfl) rfl rfl ?_
                have z169 : (m91 3).toInt = 0 := (cl_aux87 _ _ _ ek163 ek153 (congrArg Int32.toInt c167))
                have e170 := (F148.cell G (by decide) (by decide) (F124.cell G (by decide) (by decide) e114))
                have e171 := (F148.cell G (by decide) (by decide) (F124.cell G (by decide) (by decide) e117))
                obtain ⟨f172, e173, b174⟩ := T144.C 19 (by decide) (by decide)
                have e175 := (F148.cell G (by decide) (by decide) (F124.cell G (by decide) (by decide) (F94.cell G (by decide) (by decide) e78)))
                have e176 := (F148.cell G (by decide) (by decide) (F124.cell G (by decide) (by decide) e111))
                have F177 := F149
                refine cl_c43_0 (d := d + 6) G T144 ⟨_, e176, b112⟩ e170 e171 ((X96.at z169 e114 e117).keep (cl_aux3 _ _ ek155) (cl_aux3 _ _ ek157) (cl_aux3 _ _ ek159) (cl_aux3 _ _ ek161)) e173 (sf_in B86 (by decide) (by decide)) (fun t178 ck E h179 lt180 lE181 G T182 F183 e184 low185 => ?_)
                have F186 := F177.ck (fun b hb => (lt180 b hb).symm) F177.2.1
                have F187 := F183.ck (fun b hb => (lt180 b hb).symm) (Nat.le_refl _)
                have gr188 := fun (b : Nat) (hb : b < h.1) => lt180 b (Nat.lt_of_lt_of_le hb F177.2.1)
                have gE189 := fun (b : Nat) (hb : b < h.1) => lE181 b (Nat.lt_of_lt_of_le hb F177.2.1)
                have F190 := F186.trans (N := 6) (S := 282) F187 (by decide) (by decide) (by decide)
                have e191 := (low185 23 (by decide) (by decide)).trans e175
                have e192 := (low185 28 (by decide) (by decide)).trans e176
                show pm_R _ 10 167 [.ref 16, .int 0, .int a1, .int (m 0), .int z74, .int 0, .int a1] [] _ _
                refine pm_R_lo pm_M10 (pc_q := 169) (pm_q10_1 (Nat.le_of_ble_eq_true rfl)) rfl rfl ?_
                refine pm_R_br pm_M10 (pc_q := 185) (st_q := []) (pm_q10_1 (Nat.le_of_ble_eq_true rfl)) rfl ?_
                refine pm_R_lo pm_M10 (pc_q := 187) (pm_q10_1 (Nat.le_of_ble_eq_true rfl)) rfl rfl ?_
                exact pm_R_ret pm_M10 (r := some (.int a1)) (pm_q10_1 (Nat.le_of_ble_eq_true rfl)) (pm_ret_i _) (K2 a1 m146 o ck E h179 gr188 gE189 G T182 ((F190.weak (by decide) (by decide)).ck gr188 (Nat.le_refl _)) W166 (cl_aux91 _ B150.2 B150.1) ⟨_, e192, b112⟩)
              · have B193 : sf_B 1 4 (m91 3) := sf_neL0 c167 sf_k0 B105
                refine pm_R_op pm_M10 (pc_q := 159) (st_q := [.int (-1)]) (pm_q10_1 (Nat.le_of_ble_eq_true rfl)) rfl rfl ?_
                have e194 := (F148.cell G (by decide) (by decide) (F124.cell G (by decide) (by decide) e111))
                exact pm_R_ret pm_M10 (r := some (.int (-1))) (pm_q10_1 (Nat.le_of_ble_eq_true rfl)) rfl (K (-1) m146 h143 T144 (F149.weak (by decide) (by decide)) W166 (cl_aux91 _ B150.2 B150.1) ⟨_, e194, b112⟩ (sf_weak sf_kn1 (by decide) (by decide)))
            · skip
              refine pm_R_op pm_M10 (pc_q := 97) (st_q := [.int (-2)]) rfl rfl rfl ?_
              have e195 := (F48.cell G (by decide) (by decide) (F26.cell G (by decide) (by decide) (F10.cell G (by decide) (by decide) e2)))
              exact pm_R_ret pm_M10 (r := some (.int (-2))) rfl rfl (K (-2) m46 h43 T44 (F49.weak (by decide) (by decide)) W66 (cl_aux91 _ B50.2 B50.1) ⟨_, e195, b3⟩ (sf_weak sf_kn2 (by decide) (by decide)))
        · have B196 : sf_B (-1) (-1) a1 := sf_eqL (Classical.not_not.mp c80) sf_kn1
          refine pm_R_op pm_M10 (pc_q := 61) (st_q := [.int 1]) rfl rfl rfl ?_
          refine pm_R_br pm_M10 (pc_q := 65) rfl rfl ?_
          refine pm_R_lo pm_M10 (pc_q := 67) (ls_q := [.ref 16, .int 0, .int a1, .int (m 0), .int z74, .int 1, pm_no]) (st_q := []) rfl rfl rfl ?_
          refine pm_R_lo pm_M10 (pc_q := 69) rfl rfl rfl ?_
          refine pm_R_br pm_M10 (pc_q := 72) (st_q := []) rfl rfl ?_
          refine pm_R_lo pm_M10 (pc_q := 74) rfl rfl rfl ?_
          refine pm_R_stat pm_M10 (pc_q := 77) rfl rfl rfl ?_
          refine pm_R_lo pm_M10 (pc_q := 78) rfl rfl rfl ?_
          refine pm_R_iald pm_M10 (pc_q := 79) (v := 2) rfl ((T44.old (by decide)).trans G.tb1) (T44.lt (by decide)) rfl rfl rfl ?_
          refine pm_R_icmp pm_M10 (t := 98) (pc_q := 82) rfl rfl rfl (fun c200 => ?_) (fun c200 => ?_)
          · have B201 : sf_B 0 1 z74 := sf_ltL c200 B76 sf_k2
            refine pm_R_lo pm_M10 (pc_q := 100) rfl rfl rfl ?_
            refine pm_R_br pm_M10 (pc_q := 103) (st_q := []) rfl rfl ?_
            refine pm_R_lo pm_M10 (pc_q := 105) rfl rfl rfl ?_
            refine pm_R_br pm_M10 (pc_q := 109) rfl rfl ?_
            refine pm_R_lo pm_M10 (pc_q := 111) (ls_q := [.ref 16, .int 0, .int a1, .int (m 0), .int z74, .int 1, .int z74]) (st_q := []) rfl rfl rfl ?_
            refine pm_R_lo pm_M10 (pc_q := 112) rfl rfl rfl ?_
            refine pm_R_get pm_M10 (pc_q := 115) (v := .ref 25) rfl rfl T44.e16 (by decide) (T44.lt (by decide)) rfl rfl ?_
            refine pm_R_lo pm_M10 (pc_q := 116) rfl rfl rfl ?_
            refine pm_R_lo pm_M10 (pc_q := 117) (pm_q10_1 (Nat.le_of_ble_eq_true rfl)) rfl rfl ?_
            refine pm_R_cv pm_M10 (pc_q := 120) (a := 25) (ra := [.int 0, .int (m 0)]) (rest := []) (ls_q := [.ref 25, .int (m 0), .int 0, pm_no]) (pm_q10_1 (Nat.le_of_ble_eq_true rfl)) rfl (Or.inl rfl) pm_M11 T44.e25 rfl (by decide) (T44.lt (by decide)) rfl rfl (Nat.le_of_ble_eq_true rfl) rfl rfl ?_
            have e202 := (F48.cell G (by decide) (by decide) (F26.cell G (by decide) (by decide) (F10.cell G (by decide) (by decide) e2)))
            refine cl_c11_0 (d := d + 0) G T44 B4 ⟨_, e202, b3⟩ (fun m205 h206 T207 F208 W209 X210 X211 => ?_)
            have F212 := F49.trans (N := 0) (S := 0) F208 (by decide) (by decide) (by decide)
            have B213 : sf_B 0 0 (m205 0) := by rw [W209 0 (by decide)]; exact B50
            have ek214 : (m205 0).toInt = ((m8 0)).toInt := by rw [W209 0 (by decide)]; exact ek51
            have B215 : sf_B 0 0 (m205 1) := by rw [W209 1 (by decide)]; exact B62
            have ek216 : (m205 1).toInt = ((m24 1)).toInt := by rw [W209 1 (by decide)]; exact ek63
            have B217 : sf_B (-1) (-1) (m205 2) := by rw [W209 2 (by decide)]; exact B64
            have W218 : rf_W [0, 1, 2, 3, 4, 5, 6, 7, 8, 9, 10, 11, 12, 13] m m205 := W66.trans W209 (by decide)
            have B219 : sf_B 0 4 (m205 3) := T207.B 3
            have B220 : sf_B 0 50 (m205 5) := T207.B 5
            have B221 : sf_B 0 16 (m205 6) := T207.B 6
            have B222 : sf_B 0 99 (m205 7) := T207.B 7
            have B223 : sf_B (-1) 99 (m205 8) := T207.B 8
            show pm_R _ 10 120 [.ref 16, .int 0, .int a1, .int (m 0), .int z74, .int 1, .int z74] [] _ _
            obtain ⟨f224, e225, b226⟩ := id X211
            obtain ⟨f227, e228⟩ := T207.C 26 (by decide) (by decide)
            obtain ⟨f230, e231⟩ := T207.C 27 (by decide) (by decide)
            refine pm_R_lo pm_M10 (pc_q := 121) (pm_q10_1 (Nat.le_of_ble_eq_true rfl)) rfl rfl ?_
            refine pm_R_get pm_M10 (pc_q := 124) (v := .ref 17) (pm_q10_1 (Nat.le_of_ble_eq_true rfl)) rfl T207.e16 (by decide) (T207.lt (by decide)) rfl rfl ?_
            refine pm_R_lo pm_M10 (pc_q := 125) (pm_q10_1 (Nat.le_of_ble_eq_true rfl)) rfl rfl ?_
            refine pm_R_get pm_M10 (pc_q := 128) (v := .ref 25) (pm_q10_1 (Nat.le_of_ble_eq_true rfl)) rfl T207.e16 (by decide) (T207.lt (by decide)) rfl rfl ?_
            refine pm_R_get pm_M10 (pc_q := 131) (v := .int (m205 3)) (pm_q10_1 (Nat.le_of_ble_eq_true rfl)) rfl T207.e25 (by decide) (T207.lt (by decide)) rfl rfl ?_
            refine cl_R_put17 G pm_M10 T207 (k := 1) (pc_q := 134) (pm_q10_1 (Nat.le_of_ble_eq_true rfl)) rfl rfl (by decide) rfl rfl B219 rfl rfl rfl rfl rfl (fun h233 m236 em237 T234 F235 => ?_)
            have F238 := F235.cl (ck := ck) T207.1
            have F239 := F212.trans (N := 0) (S := 0) F238 (by decide) (by decide) (by decide)
            have B240 : sf_B 0 0 (m236 0) := by rw [em237]; exact B213
            have ek241 : (m236 0).toInt = ((m8 0)).toInt := by rw [em237]; exact ek214
            have B242 : sf_B (-1) (-1) (m236 2) := by rw [em237]; exact B217
            have B243 : sf_B 0 4 (m236 3) := by rw [em237]; exact B219
            have ek244 : (m236 3).toInt = ((m205 3)).toInt := by rw [em237]; rfl
            have B245 : sf_B 0 50 (m236 5) := by rw [em237]; exact B220
            have ek246 : (m236 5).toInt = ((m205 5)).toInt := by rw [em237]; rfl
            have B247 : sf_B 0 16 (m236 6) := by rw [em237]; exact B221
            have ek248 : (m236 6).toInt = ((m205 6)).toInt := by rw [em237]; rfl
            have B249 : sf_B 0 99 (m236 7) := by rw [em237]; exact B222
            have ek250 : (m236 7).toInt = ((m205 7)).toInt := by rw [em237]; rfl
            have B251 : sf_B (-1) 99 (m236 8) := by rw [em237]; exact B223
            have ek252 : (m236 8).toInt = ((m205 8)).toInt := by rw [em237]; rfl
            have B253 : sf_B 0 4 (m236 1) := by rw [em237]; exact B219
            have ek254 : (m236 1).toInt = ((m205 3)).toInt := by rw [em237]; rfl
            have W255 : rf_W [0, 1, 2, 3, 4, 5, 6, 7, 8, 9, 10, 11, 12, 13] m m236 := by rw [em237]; exact W218.put (by decide)
            refine pm_R_lo pm_M10 (pc_q := 135) (pm_q10_1 (Nat.le_of_ble_eq_true rfl)) rfl rfl ?_
            refine pm_R_get pm_M10 (pc_q := 138) (v := .ref 17) (pm_q10_1 (Nat.le_of_ble_eq_true rfl)) rfl T234.e16 (by decide) (T234.lt (by decide)) rfl rfl ?_
            refine pm_R_lo pm_M10 (pc_q := 139) (pm_q10_1 (Nat.le_of_ble_eq_true rfl)) rfl rfl ?_
            refine pm_R_get pm_M10 (pc_q := 142) (v := .ref 25) (pm_q10_1 (Nat.le_of_ble_eq_true rfl)) rfl T234.e16 (by decide) (T234.lt (by decide)) rfl rfl ?_
            have B256 : sf_B (-1) 600 (m236 4) := T234.B 4
            refine pm_R_get pm_M10 (pc_q := 145) (v := .int (m236 4)) (pm_q10_1 (Nat.le_of_ble_eq_true rfl)) rfl T234.e25 (by decide) (T234.lt (by decide)) rfl rfl ?_
            refine cl_R_put17 G pm_M10 T234 (k := 2) (pc_q := 148) (pm_q10_1 (Nat.le_of_ble_eq_true rfl)) rfl rfl (by decide) rfl rfl B256 rfl rfl rfl rfl rfl (fun h257 m260 em261 T258 F259 => ?_)
            have F262 := F259.cl (ck := ck) T234.1
            have F263 := F239.trans (N := 0) (S := 0) F262 (by decide) (by decide) (by decide)
            have B264 : sf_B 0 0 (m260 0) := by rw [em261]; exact B240
            have ek265 : (m260 0).toInt = ((m8 0)).toInt := by rw [em261]; exact ek241
            have B266 : sf_B 0 4 (m260 3) := by rw [em261]; exact B243
            have ek267 : (m260 3).toInt = ((m205 3)).toInt := by rw [em261]; exact ek244
            have B268 : sf_B 0 50 (m260 5) := by rw [em261]; exact B245
            have ek269 : (m260 5).toInt = ((m205 5)).toInt := by rw [em261]; exact ek246
            have B270 : sf_B 0 16 (m260 6) := by rw [em261]; exact B247
            have ek271 : (m260 6).toInt = ((m205 6)).toInt := by rw [em261]; exact ek248
            have B272 : sf_B 0 99 (m260 7) := by rw [em261]; exact B249
            have ek273 : (m260 7).toInt = ((m205 7)).toInt := by rw [em261]; exact ek250
            have B274 : sf_B (-1) 99 (m260 8) := by rw [em261]; exact B251
            have ek275 : (m260 8).toInt = ((m205 8)).toInt := by rw [em261]; exact ek252
            have B276 : sf_B 0 4 (m260 1) := by rw [em261]; exact B253
            have ek277 : (m260 1).toInt = ((m205 3)).toInt := by rw [em261]; exact ek254
            have B278 : sf_B (-1) 600 (m260 2) := by rw [em261]; exact B256
            have ek279 : (m260 2).toInt = ((m236 4)).toInt := by rw [em261]; rfl
            have W280 : rf_W [0, 1, 2, 3, 4, 5, 6, 7, 8, 9, 10, 11, 12, 13] m m260 := by rw [em261]; exact W255.put (by decide)
            refine pm_R_lo pm_M10 (pc_q := 149) (pm_q10_1 (Nat.le_of_ble_eq_true rfl)) rfl rfl ?_
            refine pm_R_get pm_M10 (pc_q := 152) (v := .ref 17) (pm_q10_1 (Nat.le_of_ble_eq_true rfl)) rfl T258.e16 (by decide) (T258.lt (by decide)) rfl rfl ?_
            refine pm_R_get pm_M10 (pc_q := 155) (v := .int (m205 3)) (pm_q10_1 (Nat.le_of_ble_eq_true rfl)) rfl T258.e17 (by decide) (T258.lt (by decide)) (congrArg (fun z => some (Value.int z)) (Int32.toInt_inj.mp (cl_aux3 _ _ ek277))) rfl ?_
            refine pm_R_ifc pm_M10 (t := 160) (pc_q := 158) (pm_q10_1 (Nat.le_of_ble_eq_true rfl)) rfl rfl (fun c281 => ?_) (fun c281 => ?_)
            · have B282 : sf_B 0 0 (m205 3) := sf_eqL c281 sf_k0
              refine pm_R_lo pm_M10 (pc_q := 161) (pm_q10_1 (Nat.le_of_ble_eq_true rfl)) rfl rfl ?_
              refine pm_R_lo pm_M10 (pc_q := 162) (pm_q10_1 (Nat.le_of_ble_eq_true rfl)) rfl rfl ?_
              refine pm_R_lo pm_M10 (pc_q := 164) (pm_q10_1 (Nat.le_of_ble_eq_true rfl)) rfl rfl ?_
              refine pm_R_cv pm_M10 (pc_q := 167) (a := 16) (ra := [.int z74, .int 0]) (rest := []) (ls_q := [.ref 16, .int 0, .int z74]) (pm_q10_1 (Nat.le_of_ble_eq_true rfl)) rfl (Or.inl rfl) pm_M43 T258.e16 rfl (by decide) (T258.lt (by decide)) rfl rfl (Nat.le_of_ble_eq_true rfl) rfl rfl ?_
              have z283 : (m205 3).toInt = 0 := (cl_aux87 _ _ _ ek277 ek267 (congrArg Int32.toInt c281))
              have e284 := (F262.cell G (by decide) (by decide) (F238.cell G (by decide) (by decide) e228))
              have e285 := (F262.cell G (by decide) (by decide) (F238.cell G (by decide) (by decide) e231))
              obtain ⟨f286, e287, b288⟩ := T258.C 19 (by decide) (by decide)
              have e289 := (F262.cell G (by decide) (by decide) (F238.cell G (by decide) (by decide) (F208.cell G (by decide) (by decide) e78)))
              have e290 := (F262.cell G (by decide) (by decide) (F238.cell G (by decide) (by decide) e225))
              have F291 := F263
              refine cl_c43_0 (d := d + 6) G T258 ⟨_, e290, b226⟩ e284 e285 ((X210.at z283 e228 e231).keep (cl_aux3 _ _ ek269) (cl_aux3 _ _ ek271) (cl_aux3 _ _ ek273) (cl_aux3 _ _ ek275)) e287 (sf_in B201 (by decide) (by decide)) (fun t292 ck E h293 lt294 lE295 G T296 F297 e298 low299 => ?_)
              have F300 := F291.ck (fun b hb => (lt294 b hb).symm) F291.2.1
              have F301 := F297.ck (fun b hb => (lt294 b hb).symm) (Nat.le_refl _)
              have gr302 := fun (b : Nat) (hb : b < h.1) => lt294 b (Nat.lt_of_lt_of_le hb F291.2.1)
              have gE303 := fun (b : Nat) (hb : b < h.1) => lE295 b (Nat.lt_of_lt_of_le hb F291.2.1)
              have F304 := F300.trans (N := 6) (S := 282) F301 (by decide) (by decide) (by decide)
              have e305 := (low299 23 (by decide) (by decide)).trans e289
              have e306 := (low299 28 (by decide) (by decide)).trans e290
              show pm_R _ 10 167 [.ref 16, .int 0, .int a1, .int (m 0), .int z74, .int 1, .int z74] [] _ _
              refine pm_R_lo pm_M10 (pc_q := 169) (pm_q10_1 (Nat.le_of_ble_eq_true rfl)) rfl rfl ?_
              refine pm_R_br pm_M10 (pc_q := 172) (st_q := []) (pm_q10_1 (Nat.le_of_ble_eq_true rfl)) rfl ?_
              refine pm_R_lo pm_M10 (pc_q := 173) (pm_q10_1 (Nat.le_of_ble_eq_true rfl)) rfl rfl ?_
              refine pm_R_get pm_M10 (pc_q := 176) (v := .ref 17) (pm_q10_1 (Nat.le_of_ble_eq_true rfl)) rfl T296.e16 (by decide) (T296.lt (by decide)) rfl rfl ?_
              refine pm_R_get pm_M10 (pc_q := 179) (v := .ref 23) (pm_q10_1 (Nat.le_of_ble_eq_true rfl)) rfl T296.e17 (by decide) (T296.lt (by decide)) rfl rfl ?_
              refine pm_R_lo pm_M10 (pc_q := 180) (pm_q10_1 (Nat.le_of_ble_eq_true rfl)) rfl rfl ?_
              refine pm_R_op pm_M10 (pc_q := 181) (st_q := [.int 0, .ref 23, .int 0, .ref 23]) (pm_q10_1 (Nat.le_of_ble_eq_true rfl)) rfl rfl ?_
              refine pm_R_iald pm_M10 (pc_q := 182) (v := z74) (pm_q10_1 (Nat.le_of_ble_eq_true rfl)) e305 (T296.lt (by decide)) rfl ez75 rfl ?_
              refine pm_R_op pm_M10 (pc_q := 183) (st_q := [.int 1, .int z74, .int 0, .ref 23]) (pm_q10_1 (Nat.le_of_ble_eq_true rfl)) rfl rfl ?_
              refine sf_R_iadd pm_M10 (pc_q := 184) (pm_q10_1 (Nat.le_of_ble_eq_true rfl)) rfl B201 sf_k1 (by decide) (by decide) (fun z310 e311 B312 => ?_)
              refine cl_R_cnt19 G pm_M10 T296 (pc_q := 185) (pm_q10_1 (Nat.le_of_ble_eq_true rfl)) e305 e298 ⟨_, by rw [show f77 0 = z74 from ez75]; exact cl_upS⟩ (by rw [show f77 0 = z74 from ez75]; exact (cl_aux88 _ _ e311)) (Int.le_trans B312.2 (by decide)) rfl (fun h313 T314 F315 => ?_)
              have F316 := F315.cl (ck := ck) T296.1
              have F317 := F304.trans (N := 6) (S := 282) F316 (by decide) (by decide) (by decide)
              refine pm_R_lo pm_M10 (pc_q := 187) (pm_q10_1 (Nat.le_of_ble_eq_true rfl)) rfl rfl ?_
              have e318 := (F316.cell G (by decide) (by decide) e306)
              exact pm_R_ret pm_M10 (r := some (.int z74)) (pm_q10_1 (Nat.le_of_ble_eq_true rfl)) (pm_ret_i _) (K2 z74 m260 o ck E h313 gr302 gE303 G T314 ((F317.weak (by decide) (by decide)).ck gr302 (Nat.le_refl _)) W280 (cl_aux91 _ B264.2 B264.1) ⟨_, e318, b226⟩)
            · have B319 : sf_B 1 4 (m205 3) := sf_neL0 c281 sf_k0 B219
              refine pm_R_op pm_M10 (pc_q := 159) (st_q := [.int (-1)]) (pm_q10_1 (Nat.le_of_ble_eq_true rfl)) rfl rfl ?_
              have e320 := (F262.cell G (by decide) (by decide) (F238.cell G (by decide) (by decide) e225))
              exact pm_R_ret pm_M10 (r := some (.int (-1))) (pm_q10_1 (Nat.le_of_ble_eq_true rfl)) rfl (K (-1) m260 h257 T258 (F263.weak (by decide) (by decide)) W280 (cl_aux91 _ B264.2 B264.1) ⟨_, e320, b226⟩ (sf_weak sf_kn1 (by decide) (by decide)))
          · have B321 : sf_B 2 2 z74 := sf_leR (Int32.not_lt.mp c200) sf_k2 B76
            refine pm_R_br pm_M10 (pc_q := 95) rfl rfl ?_
            refine pm_R_op pm_M10 (pc_q := 97) (st_q := [.int (-2)]) rfl rfl rfl ?_
            have e322 := (F48.cell G (by decide) (by decide) (F26.cell G (by decide) (by decide) (F10.cell G (by decide) (by decide) e2)))
            exact pm_R_ret pm_M10 (r := some (.int (-2))) rfl rfl (K (-2) m46 h43 T44 (F49.weak (by decide) (by decide)) W66 (cl_aux91 _ B50.2 B50.1) ⟨_, e322, b3⟩ (sf_weak sf_kn2 (by decide) (by decide)))
      have B323 : sf_B 1 3 a0 := sf_neL0 c73 sf_k0 B72
      by_cases c324 : a0 = 1
      · rw [c324]
        refine pm_R_lo pm_M10 (pc_q := 45) rfl rfl rfl ?_
        refine pm_R_get pm_M10 (pc_q := 48) (v := .ref 17) rfl rfl T44.e16 (by decide) (T44.lt (by decide)) rfl rfl ?_
        refine pm_R_get pm_M10 (pc_q := 51) (v := .ref 23) rfl rfl T44.e17 (by decide) (T44.lt (by decide)) rfl rfl ?_
        refine pm_R_lo pm_M10 (pc_q := 52) rfl rfl rfl ?_
        obtain ⟨f328, e329, b330⟩ := T44.C 23 (by decide) (by decide)
        obtain ⟨z325, ez326⟩ : ∃ y, f328 (Int32.toNatClampNeg 1) = y := ⟨_, rfl⟩
        have B327 : sf_B 0 3 z325 := ez326 ▸ (b330 1)
        refine pm_R_iald pm_M10 (pc_q := 53) (v := z325) rfl e329 (T44.lt (by decide)) rfl ez326 rfl ?_
        refine pm_R_lo pm_M10 (pc_q := 55) (ls_q := [.ref 16, .int 1, .int a1, .int (m 0), .int z325, pm_no, pm_no]) (st_q := []) rfl rfl rfl ?_
        refine pm_R_lo pm_M10 (pc_q := 56) rfl rfl rfl ?_
        refine pm_R_op pm_M10 (pc_q := 57) (st_q := [.int (-1), .int a1]) rfl rfl rfl ?_
        refine pm_R_icmp pm_M10 (t := 64) (pc_q := 60) rfl rfl rfl (fun c331 => ?_) (fun c331 => ?_)
        · skip
          refine pm_R_op pm_M10 (pc_q := 65) (st_q := [.int 0]) rfl rfl rfl ?_
          refine pm_R_lo pm_M10 (pc_q := 67) (ls_q := [.ref 16, .int 1, .int a1, .int (m 0), .int z325, .int 0, pm_no]) (st_q := []) rfl rfl rfl ?_
          refine pm_R_lo pm_M10 (pc_q := 69) rfl rfl rfl ?_
          refine pm_R_br pm_M10 (pc_q := 85) (st_q := []) rfl rfl ?_
          refine pm_R_lo pm_M10 (pc_q := 86) rfl rfl rfl ?_
          refine pm_R_ifc pm_M10 (t := 95) (pc_q := 89) rfl rfl rfl (fun c332 => ?_) (fun c332 => ?_)
          · have B333 : sf_B (-2147483648) (-1) a1 := sf_ltL c332 (sf_any a1) sf_k0
            refine pm_R_op pm_M10 (pc_q := 97) (st_q := [.int (-2)]) rfl rfl rfl ?_
            have e334 := (F48.cell G (by decide) (by decide) (F26.cell G (by decide) (by decide) (F10.cell G (by decide) (by decide) e2)))
            exact pm_R_ret pm_M10 (r := some (.int (-2))) rfl rfl (K (-2) m46 h43 T44 (F49.weak (by decide) (by decide)) W66 (cl_aux91 _ B50.2 B50.1) ⟨_, e334, b3⟩ (sf_weak sf_kn2 (by decide) (by decide)))
          · have B335 : sf_B 0 2147483647 a1 := sf_leR (Int32.not_lt.mp c332) sf_k0 (sf_any a1)
            refine pm_R_lo pm_M10 (pc_q := 90) rfl rfl rfl ?_
            refine pm_R_lo pm_M10 (pc_q := 92) rfl rfl rfl ?_
            refine pm_R_icmp pm_M10 (t := 98) (pc_q := 95) rfl rfl rfl (fun c336 => ?_) (fun c336 => ?_)
            · have B337 : sf_B 0 2 a1 := sf_ltL c336 B335 B327
              have B338 : sf_B 1 3 z325 := sf_ltR c336 B335 B327
              refine pm_R_lo pm_M10 (pc_q := 100) rfl rfl rfl ?_
              refine pm_R_br pm_M10 (pc_q := 108) (st_q := []) rfl rfl ?_
              refine pm_R_lo pm_M10 (pc_q := 109) rfl rfl rfl ?_
              refine pm_R_lo pm_M10 (pc_q := 111) (ls_q := [.ref 16, .int 1, .int a1, .int (m 0), .int z325, .int 0, .int a1]) (st_q := []) rfl rfl rfl ?_
              refine pm_R_lo pm_M10 (pc_q := 112) rfl rfl rfl ?_
              refine pm_R_get pm_M10 (pc_q := 115) (v := .ref 25) rfl rfl T44.e16 (by decide) (T44.lt (by decide)) rfl rfl ?_
              refine pm_R_lo pm_M10 (pc_q := 116) rfl rfl rfl ?_
              refine pm_R_lo pm_M10 (pc_q := 117) (pm_q10_1 (Nat.le_of_ble_eq_true rfl)) rfl rfl ?_
              refine pm_R_cv pm_M10 (pc_q := 120) (a := 25) (ra := [.int 1, .int (m 0)]) (rest := []) (ls_q := [.ref 25, .int (m 0), .int 1, pm_no]) (pm_q10_1 (Nat.le_of_ble_eq_true rfl)) rfl (Or.inl rfl) pm_M11 T44.e25 rfl (by decide) (T44.lt (by decide)) rfl rfl (Nat.le_of_ble_eq_true rfl) rfl rfl ?_
              have e339 := (F48.cell G (by decide) (by decide) (F26.cell G (by decide) (by decide) (F10.cell G (by decide) (by decide) e2)))
              refine cl_c11_1 (d := d + 0) G T44 B4 ⟨_, e339, b3⟩ (fun m342 h343 T344 F345 W346 X347 X348 X349 => ?_)
              have F350 := F49.trans (N := 0) (S := 0) F345 (by decide) (by decide) (by decide)
              have B351 : sf_B 0 0 (m342 0) := by rw [W346 0 (by decide)]; exact B50
              have ek352 : (m342 0).toInt = ((m8 0)).toInt := by rw [W346 0 (by decide)]; exact ek51
              have B353 : sf_B 0 0 (m342 1) := by rw [W346 1 (by decide)]; exact B62
              have ek354 : (m342 1).toInt = ((m24 1)).toInt := by rw [W346 1 (by decide)]; exact ek63
              have B355 : sf_B (-1) (-1) (m342 2) := by rw [W346 2 (by decide)]; exact B64
              have W356 : rf_W [0, 1, 2, 3, 4, 5, 6, 7, 8, 9, 10, 11, 12, 13] m m342 := W66.trans W346 (by decide)
              have B357 : sf_B 0 4 (m342 3) := T344.B 3
              have B358 : sf_B 0 50 (m342 5) := T344.B 5
              have B359 : sf_B 0 16 (m342 6) := T344.B 6
              have B360 : sf_B 0 99 (m342 7) := T344.B 7
              have B361 : sf_B (-1) 99 (m342 8) := T344.B 8
              show pm_R _ 10 120 [.ref 16, .int 1, .int a1, .int (m 0), .int z325, .int 0, .int a1] [] _ _
              obtain ⟨f362, e363, b364⟩ := id X348
              obtain ⟨f365, e366⟩ := T344.C 26 (by decide) (by decide)
              obtain ⟨f368, e369⟩ := T344.C 27 (by decide) (by decide)
              refine pm_R_lo pm_M10 (pc_q := 121) (pm_q10_1 (Nat.le_of_ble_eq_true rfl)) rfl rfl ?_
              refine pm_R_get pm_M10 (pc_q := 124) (v := .ref 17) (pm_q10_1 (Nat.le_of_ble_eq_true rfl)) rfl T344.e16 (by decide) (T344.lt (by decide)) rfl rfl ?_
              refine pm_R_lo pm_M10 (pc_q := 125) (pm_q10_1 (Nat.le_of_ble_eq_true rfl)) rfl rfl ?_
              refine pm_R_get pm_M10 (pc_q := 128) (v := .ref 25) (pm_q10_1 (Nat.le_of_ble_eq_true rfl)) rfl T344.e16 (by decide) (T344.lt (by decide)) rfl rfl ?_
              refine pm_R_get pm_M10 (pc_q := 131) (v := .int (m342 3)) (pm_q10_1 (Nat.le_of_ble_eq_true rfl)) rfl T344.e25 (by decide) (T344.lt (by decide)) rfl rfl ?_
              refine cl_R_put17 G pm_M10 T344 (k := 1) (pc_q := 134) (pm_q10_1 (Nat.le_of_ble_eq_true rfl)) rfl rfl (by decide) rfl rfl B357 rfl rfl rfl rfl rfl (fun h371 m374 em375 T372 F373 => ?_)
              have F376 := F373.cl (ck := ck) T344.1
              have F377 := F350.trans (N := 0) (S := 0) F376 (by decide) (by decide) (by decide)
              have B378 : sf_B 0 0 (m374 0) := by rw [em375]; exact B351
              have ek379 : (m374 0).toInt = ((m8 0)).toInt := by rw [em375]; exact ek352
              have B380 : sf_B (-1) (-1) (m374 2) := by rw [em375]; exact B355
              have B381 : sf_B 0 4 (m374 3) := by rw [em375]; exact B357
              have ek382 : (m374 3).toInt = ((m342 3)).toInt := by rw [em375]; rfl
              have B383 : sf_B 0 50 (m374 5) := by rw [em375]; exact B358
              have ek384 : (m374 5).toInt = ((m342 5)).toInt := by rw [em375]; rfl
              have B385 : sf_B 0 16 (m374 6) := by rw [em375]; exact B359
              have ek386 : (m374 6).toInt = ((m342 6)).toInt := by rw [em375]; rfl
              have B387 : sf_B 0 99 (m374 7) := by rw [em375]; exact B360
              have ek388 : (m374 7).toInt = ((m342 7)).toInt := by rw [em375]; rfl
              have B389 : sf_B (-1) 99 (m374 8) := by rw [em375]; exact B361
              have ek390 : (m374 8).toInt = ((m342 8)).toInt := by rw [em375]; rfl
              have B391 : sf_B 0 4 (m374 1) := by rw [em375]; exact B357
              have ek392 : (m374 1).toInt = ((m342 3)).toInt := by rw [em375]; rfl
              have W393 : rf_W [0, 1, 2, 3, 4, 5, 6, 7, 8, 9, 10, 11, 12, 13] m m374 := by rw [em375]; exact W356.put (by decide)
              refine pm_R_lo pm_M10 (pc_q := 135) (pm_q10_1 (Nat.le_of_ble_eq_true rfl)) rfl rfl ?_
              refine pm_R_get pm_M10 (pc_q := 138) (v := .ref 17) (pm_q10_1 (Nat.le_of_ble_eq_true rfl)) rfl T372.e16 (by decide) (T372.lt (by decide)) rfl rfl ?_
              refine pm_R_lo pm_M10 (pc_q := 139) (pm_q10_1 (Nat.le_of_ble_eq_true rfl)) rfl rfl ?_
              refine pm_R_get pm_M10 (pc_q := 142) (v := .ref 25) (pm_q10_1 (Nat.le_of_ble_eq_true rfl)) rfl T372.e16 (by decide) (T372.lt (by decide)) rfl rfl ?_
              have B394 : sf_B (-1) 600 (m374 4) := T372.B 4
              refine pm_R_get pm_M10 (pc_q := 145) (v := .int (m374 4)) (pm_q10_1 (Nat.le_of_ble_eq_true rfl)) rfl T372.e25 (by decide) (T372.lt (by decide)) rfl rfl ?_
              refine cl_R_put17 G pm_M10 T372 (k := 2) (pc_q := 148) (pm_q10_1 (Nat.le_of_ble_eq_true rfl)) rfl rfl (by decide) rfl rfl B394 rfl rfl rfl rfl rfl (fun h395 m398 em399 T396 F397 => ?_)
              have F400 := F397.cl (ck := ck) T372.1
              have F401 := F377.trans (N := 0) (S := 0) F400 (by decide) (by decide) (by decide)
              have B402 : sf_B 0 0 (m398 0) := by rw [em399]; exact B378
              have ek403 : (m398 0).toInt = ((m8 0)).toInt := by rw [em399]; exact ek379
              have B404 : sf_B 0 4 (m398 3) := by rw [em399]; exact B381
              have ek405 : (m398 3).toInt = ((m342 3)).toInt := by rw [em399]; exact ek382
              have B406 : sf_B 0 50 (m398 5) := by rw [em399]; exact B383
              have ek407 : (m398 5).toInt = ((m342 5)).toInt := by rw [em399]; exact ek384
              have B408 : sf_B 0 16 (m398 6) := by rw [em399]; exact B385
              have ek409 : (m398 6).toInt = ((m342 6)).toInt := by rw [em399]; exact ek386
              have B410 : sf_B 0 99 (m398 7) := by rw [em399]; exact B387
              have ek411 : (m398 7).toInt = ((m342 7)).toInt := by rw [em399]; exact ek388
              have B412 : sf_B (-1) 99 (m398 8) := by rw [em399]; exact B389
              have ek413 : (m398 8).toInt = ((m342 8)).toInt := by rw [em399]; exact ek390
              have B414 : sf_B 0 4 (m398 1) := by rw [em399]; exact B391
              have ek415 : (m398 1).toInt = ((m342 3)).toInt := by rw [em399]; exact ek392
              have B416 : sf_B (-1) 600 (m398 2) := by rw [em399]; exact B394
              have ek417 : (m398 2).toInt = ((m374 4)).toInt := by rw [em399]; rfl
              have W418 : rf_W [0, 1, 2, 3, 4, 5, 6, 7, 8, 9, 10, 11, 12, 13] m m398 := by rw [em399]; exact W393.put (by decide)
              refine pm_R_lo pm_M10 (pc_q := 149) (pm_q10_1 (Nat.le_of_ble_eq_true rfl)) rfl rfl ?_
              refine pm_R_get pm_M10 (pc_q := 152) (v := .ref 17) (pm_q10_1 (Nat.le_of_ble_eq_true rfl)) rfl T396.e16 (by decide) (T396.lt (by decide)) rfl rfl ?_
              refine pm_R_get pm_M10 (pc_q := 155) (v := .int (m342 3)) (pm_q10_1 (Nat.le_of_ble_eq_true rfl)) rfl T396.e17 (by decide) (T396.lt (by decide)) (congrArg (fun z => some (Value.int z)) (Int32.toInt_inj.mp (cl_aux3 _ _ ek415))) rfl ?_
              refine pm_R_ifc pm_M10 (t := 160) (pc_q := 158) (pm_q10_1 (Nat.le_of_ble_eq_true rfl)) rfl rfl (fun c419 => ?_) (fun c419 => ?_)
              · have B420 : sf_B 0 0 (m342 3) := sf_eqL c419 sf_k0
                refine pm_R_lo pm_M10 (pc_q := 161) (pm_q10_1 (Nat.le_of_ble_eq_true rfl)) rfl rfl ?_
                refine pm_R_lo pm_M10 (pc_q := 162) (pm_q10_1 (Nat.le_of_ble_eq_true rfl)) rfl rfl ?_
                refine pm_R_lo pm_M10 (pc_q := 164) (pm_q10_1 (Nat.le_of_ble_eq_true rfl)) rfl rfl ?_
                refine pm_R_cv pm_M10 (pc_q := 167) (a := 16) (ra := [.int a1, .int 1]) (rest := []) (ls_q := [.ref 16, .int 1, .int a1]) (pm_q10_1 (Nat.le_of_ble_eq_true rfl)) rfl (Or.inl rfl) pm_M43 T396.e16 rfl (by decide) (T396.lt (by decide)) rfl rfl (Nat.le_of_ble_eq_true rfl) rfl rfl ?_
                have z421 : (m342 3).toInt = 0 := (cl_aux87 _ _ _ ek415 ek405 (congrArg Int32.toInt c419))
                have e422 := (F400.cell G (by decide) (by decide) (F376.cell G (by decide) (by decide) e366))
                have e423 := (F400.cell G (by decide) (by decide) (F376.cell G (by decide) (by decide) e369))
                obtain ⟨f424, e425, b426⟩ := T396.C 20 (by decide) (by decide)
                have e427 := (F400.cell G (by decide) (by decide) (F376.cell G (by decide) (by decide) (F345.cell G (by decide) (by decide) e329)))
                have e428 := (F400.cell G (by decide) (by decide) (F376.cell G (by decide) (by decide) e363))
                have F429 := F401
                refine cl_c43_1 (d := d + 6) G T396 ⟨_, e428, b364⟩ e422 (cl_aux89 _ _ ek407 (X349 z421)) ((X347.at z421 e366 e369).keep (cl_aux3 _ _ ek407) (cl_aux3 _ _ ek409) (cl_aux3 _ _ ek411) (cl_aux3 _ _ ek413)) e425 (sf_in B337 (by decide) (by decide)) (fun t430 ck E h431 lt432 lE433 G T434 F435 e436 low437 => ?_)
                have F438 := F429.ck (fun b hb => (lt432 b hb).symm) F429.2.1
                have F439 := F435.ck (fun b hb => (lt432 b hb).symm) (Nat.le_refl _)
                have gr440 := fun (b : Nat) (hb : b < h.1) => lt432 b (Nat.lt_of_lt_of_le hb F429.2.1)
                have gE441 := fun (b : Nat) (hb : b < h.1) => lE433 b (Nat.lt_of_lt_of_le hb F429.2.1)
                have F442 := F438.trans (N := 2) (S := 14) F439 (by decide) (by decide) (by decide)
                have e443 := (low437 23 (by decide) (by decide)).trans e427
                have e444 := (low437 28 (by decide) (by decide)).trans e428
                show pm_R _ 10 167 [.ref 16, .int 1, .int a1, .int (m 0), .int z325, .int 0, .int a1] [] _ _
                refine pm_R_lo pm_M10 (pc_q := 169) (pm_q10_1 (Nat.le_of_ble_eq_true rfl)) rfl rfl ?_
                refine pm_R_br pm_M10 (pc_q := 185) (st_q := []) (pm_q10_1 (Nat.le_of_ble_eq_true rfl)) rfl ?_
                refine pm_R_lo pm_M10 (pc_q := 187) (pm_q10_1 (Nat.le_of_ble_eq_true rfl)) rfl rfl ?_
                exact pm_R_ret pm_M10 (r := some (.int a1)) (pm_q10_1 (Nat.le_of_ble_eq_true rfl)) (pm_ret_i _) (K2 a1 m398 o ck E h431 gr440 gE441 G T434 ((F442.weak (by decide) (by decide)).ck gr440 (Nat.le_refl _)) W418 (cl_aux91 _ B402.2 B402.1) ⟨_, e444, b364⟩)
              · have B445 : sf_B 1 4 (m342 3) := sf_neL0 c419 sf_k0 B357
                refine pm_R_op pm_M10 (pc_q := 159) (st_q := [.int (-1)]) (pm_q10_1 (Nat.le_of_ble_eq_true rfl)) rfl rfl ?_
                have e446 := (F400.cell G (by decide) (by decide) (F376.cell G (by decide) (by decide) e363))
                exact pm_R_ret pm_M10 (r := some (.int (-1))) (pm_q10_1 (Nat.le_of_ble_eq_true rfl)) rfl (K (-1) m398 h395 T396 (F401.weak (by decide) (by decide)) W418 (cl_aux91 _ B402.2 B402.1) ⟨_, e446, b364⟩ (sf_weak sf_kn1 (by decide) (by decide)))
            · skip
              refine pm_R_op pm_M10 (pc_q := 97) (st_q := [.int (-2)]) rfl rfl rfl ?_
              have e447 := (F48.cell G (by decide) (by decide) (F26.cell G (by decide) (by decide) (F10.cell G (by decide) (by decide) e2)))
              exact pm_R_ret pm_M10 (r := some (.int (-2))) rfl rfl (K (-2) m46 h43 T44 (F49.weak (by decide) (by decide)) W66 (cl_aux91 _ B50.2 B50.1) ⟨_, e447, b3⟩ (sf_weak sf_kn2 (by decide) (by decide)))
        · have B448 : sf_B (-1) (-1) a1 := sf_eqL (Classical.not_not.mp c331) sf_kn1
          refine pm_R_op pm_M10 (pc_q := 61) (st_q := [.int 1]) rfl rfl rfl ?_
          refine pm_R_br pm_M10 (pc_q := 65) rfl rfl ?_
          refine pm_R_lo pm_M10 (pc_q := 67) (ls_q := [.ref 16, .int 1, .int a1, .int (m 0), .int z325, .int 1, pm_no]) (st_q := []) rfl rfl rfl ?_
          refine pm_R_lo pm_M10 (pc_q := 69) rfl rfl rfl ?_
          refine pm_R_br pm_M10 (pc_q := 72) (st_q := []) rfl rfl ?_
          refine pm_R_lo pm_M10 (pc_q := 74) rfl rfl rfl ?_
          refine pm_R_stat pm_M10 (pc_q := 77) rfl rfl rfl ?_
          refine pm_R_lo pm_M10 (pc_q := 78) rfl rfl rfl ?_
          refine pm_R_iald pm_M10 (pc_q := 79) (v := 3) rfl ((T44.old (by decide)).trans G.tb1) (T44.lt (by decide)) rfl rfl rfl ?_
          refine pm_R_icmp pm_M10 (t := 98) (pc_q := 82) rfl rfl rfl (fun c452 => ?_) (fun c452 => ?_)
          · have B453 : sf_B 0 2 z325 := sf_ltL c452 B327 sf_k3
            refine pm_R_lo pm_M10 (pc_q := 100) rfl rfl rfl ?_
            refine pm_R_br pm_M10 (pc_q := 103) (st_q := []) rfl rfl ?_
            refine pm_R_lo pm_M10 (pc_q := 105) rfl rfl rfl ?_
            refine pm_R_br pm_M10 (pc_q := 109) rfl rfl ?_
            refine pm_R_lo pm_M10 (pc_q := 111) (ls_q := [.ref 16, .int 1, .int a1, .int (m 0), .int z325, .int 1, .int z325]) (st_q := []) rfl rfl rfl ?_
            refine pm_R_lo pm_M10 (pc_q := 112) rfl rfl rfl ?_
            refine pm_R_get pm_M10 (pc_q := 115) (v := .ref 25) rfl rfl T44.e16 (by decide) (T44.lt (by decide)) rfl rfl ?_
            refine pm_R_lo pm_M10 (pc_q := 116) rfl rfl rfl ?_
            refine pm_R_lo pm_M10 (pc_q := 117) (pm_q10_1 (Nat.le_of_ble_eq_true rfl)) rfl rfl ?_
            refine pm_R_cv pm_M10 (pc_q := 120) (a := 25) (ra := [.int 1, .int (m 0)]) (rest := []) (ls_q := [.ref 25, .int (m 0), .int 1, pm_no]) (pm_q10_1 (Nat.le_of_ble_eq_true rfl)) rfl (Or.inl rfl) pm_M11 T44.e25 rfl (by decide) (T44.lt (by decide)) rfl rfl (Nat.le_of_ble_eq_true rfl) rfl rfl ?_
            have e454 := (F48.cell G (by decide) (by decide) (F26.cell G (by decide) (by decide) (F10.cell G (by decide) (by decide) e2)))
            refine cl_c11_1 (d := d + 0) G T44 B4 ⟨_, e454, b3⟩ (fun m457 h458 T459 F460 W461 X462 X463 X464 => ?_)
            have F465 := F49.trans (N := 0) (S := 0) F460 (by decide) (by decide) (by decide)
            have B466 : sf_B 0 0 (m457 0) := by rw [W461 0 (by decide)]; exact B50
            have ek467 : (m457 0).toInt = ((m8 0)).toInt := by rw [W461 0 (by decide)]; exact ek51
            have B468 : sf_B 0 0 (m457 1) := by rw [W461 1 (by decide)]; exact B62
            have ek469 : (m457 1).toInt = ((m24 1)).toInt := by rw [W461 1 (by decide)]; exact ek63
            have B470 : sf_B (-1) (-1) (m457 2) := by rw [W461 2 (by decide)]; exact B64
            have W471 : rf_W [0, 1, 2, 3, 4, 5, 6, 7, 8, 9, 10, 11, 12, 13] m m457 := W66.trans W461 (by decide)
            have B472 : sf_B 0 4 (m457 3) := T459.B 3
            have B473 : sf_B 0 50 (m457 5) := T459.B 5
            have B474 : sf_B 0 16 (m457 6) := T459.B 6
            have B475 : sf_B 0 99 (m457 7) := T459.B 7
            have B476 : sf_B (-1) 99 (m457 8) := T459.B 8
            show pm_R _ 10 120 [.ref 16, .int 1, .int a1, .int (m 0), .int z325, .int 1, .int z325] [] _ _
            obtain ⟨f477, e478, b479⟩ := id X463
            obtain ⟨f480, e481⟩ := T459.C 26 (by decide) (by decide)
            obtain ⟨f483, e484⟩ := T459.C 27 (by decide) (by decide)
            refine pm_R_lo pm_M10 (pc_q := 121) (pm_q10_1 (Nat.le_of_ble_eq_true rfl)) rfl rfl ?_
            refine pm_R_get pm_M10 (pc_q := 124) (v := .ref 17) (pm_q10_1 (Nat.le_of_ble_eq_true rfl)) rfl T459.e16 (by decide) (T459.lt (by decide)) rfl rfl ?_
            refine pm_R_lo pm_M10 (pc_q := 125) (pm_q10_1 (Nat.le_of_ble_eq_true rfl)) rfl rfl ?_
            refine pm_R_get pm_M10 (pc_q := 128) (v := .ref 25) (pm_q10_1 (Nat.le_of_ble_eq_true rfl)) rfl T459.e16 (by decide) (T459.lt (by decide)) rfl rfl ?_
            refine pm_R_get pm_M10 (pc_q := 131) (v := .int (m457 3)) (pm_q10_1 (Nat.le_of_ble_eq_true rfl)) rfl T459.e25 (by decide) (T459.lt (by decide)) rfl rfl ?_
            refine cl_R_put17 G pm_M10 T459 (k := 1) (pc_q := 134) (pm_q10_1 (Nat.le_of_ble_eq_true rfl)) rfl rfl (by decide) rfl rfl B472 rfl rfl rfl rfl rfl (fun h486 m489 em490 T487 F488 => ?_)
            have F491 := F488.cl (ck := ck) T459.1
            have F492 := F465.trans (N := 0) (S := 0) F491 (by decide) (by decide) (by decide)
            have B493 : sf_B 0 0 (m489 0) := by rw [em490]; exact B466
            have ek494 : (m489 0).toInt = ((m8 0)).toInt := by rw [em490]; exact ek467
            have B495 : sf_B (-1) (-1) (m489 2) := by rw [em490]; exact B470
            have B496 : sf_B 0 4 (m489 3) := by rw [em490]; exact B472
            have ek497 : (m489 3).toInt = ((m457 3)).toInt := by rw [em490]; rfl
            have B498 : sf_B 0 50 (m489 5) := by rw [em490]; exact B473
            have ek499 : (m489 5).toInt = ((m457 5)).toInt := by rw [em490]; rfl
            have B500 : sf_B 0 16 (m489 6) := by rw [em490]; exact B474
            have ek501 : (m489 6).toInt = ((m457 6)).toInt := by rw [em490]; rfl
            have B502 : sf_B 0 99 (m489 7) := by rw [em490]; exact B475
            have ek503 : (m489 7).toInt = ((m457 7)).toInt := by rw [em490]; rfl
            have B504 : sf_B (-1) 99 (m489 8) := by rw [em490]; exact B476
            have ek505 : (m489 8).toInt = ((m457 8)).toInt := by rw [em490]; rfl
            have B506 : sf_B 0 4 (m489 1) := by rw [em490]; exact B472
            have ek507 : (m489 1).toInt = ((m457 3)).toInt := by rw [em490]; rfl
            have W508 : rf_W [0, 1, 2, 3, 4, 5, 6, 7, 8, 9, 10, 11, 12, 13] m m489 := by rw [em490]; exact W471.put (by decide)
            refine pm_R_lo pm_M10 (pc_q := 135) (pm_q10_1 (Nat.le_of_ble_eq_true rfl)) rfl rfl ?_
            refine pm_R_get pm_M10 (pc_q := 138) (v := .ref 17) (pm_q10_1 (Nat.le_of_ble_eq_true rfl)) rfl T487.e16 (by decide) (T487.lt (by decide)) rfl rfl ?_
            refine pm_R_lo pm_M10 (pc_q := 139) (pm_q10_1 (Nat.le_of_ble_eq_true rfl)) rfl rfl ?_
            refine pm_R_get pm_M10 (pc_q := 142) (v := .ref 25) (pm_q10_1 (Nat.le_of_ble_eq_true rfl)) rfl T487.e16 (by decide) (T487.lt (by decide)) rfl rfl ?_
            have B509 : sf_B (-1) 600 (m489 4) := T487.B 4
            refine pm_R_get pm_M10 (pc_q := 145) (v := .int (m489 4)) (pm_q10_1 (Nat.le_of_ble_eq_true rfl)) rfl T487.e25 (by decide) (T487.lt (by decide)) rfl rfl ?_
            refine cl_R_put17 G pm_M10 T487 (k := 2) (pc_q := 148) (pm_q10_1 (Nat.le_of_ble_eq_true rfl)) rfl rfl (by decide) rfl rfl B509 rfl rfl rfl rfl rfl (fun h510 m513 em514 T511 F512 => ?_)
            have F515 := F512.cl (ck := ck) T487.1
            have F516 := F492.trans (N := 0) (S := 0) F515 (by decide) (by decide) (by decide)
            have B517 : sf_B 0 0 (m513 0) := by rw [em514]; exact B493
            have ek518 : (m513 0).toInt = ((m8 0)).toInt := by rw [em514]; exact ek494
            have B519 : sf_B 0 4 (m513 3) := by rw [em514]; exact B496
            have ek520 : (m513 3).toInt = ((m457 3)).toInt := by rw [em514]; exact ek497
            have B521 : sf_B 0 50 (m513 5) := by rw [em514]; exact B498
            have ek522 : (m513 5).toInt = ((m457 5)).toInt := by rw [em514]; exact ek499
            have B523 : sf_B 0 16 (m513 6) := by rw [em514]; exact B500
            have ek524 : (m513 6).toInt = ((m457 6)).toInt := by rw [em514]; exact ek501
            have B525 : sf_B 0 99 (m513 7) := by rw [em514]; exact B502
            have ek526 : (m513 7).toInt = ((m457 7)).toInt := by rw [em514]; exact ek503
            have B527 : sf_B (-1) 99 (m513 8) := by rw [em514]; exact B504
            have ek528 : (m513 8).toInt = ((m457 8)).toInt := by rw [em514]; exact ek505
            have B529 : sf_B 0 4 (m513 1) := by rw [em514]; exact B506
            have ek530 : (m513 1).toInt = ((m457 3)).toInt := by rw [em514]; exact ek507
            have B531 : sf_B (-1) 600 (m513 2) := by rw [em514]; exact B509
            have ek532 : (m513 2).toInt = ((m489 4)).toInt := by rw [em514]; rfl
            have W533 : rf_W [0, 1, 2, 3, 4, 5, 6, 7, 8, 9, 10, 11, 12, 13] m m513 := by rw [em514]; exact W508.put (by decide)
            refine pm_R_lo pm_M10 (pc_q := 149) (pm_q10_1 (Nat.le_of_ble_eq_true rfl)) rfl rfl ?_
            refine pm_R_get pm_M10 (pc_q := 152) (v := .ref 17) (pm_q10_1 (Nat.le_of_ble_eq_true rfl)) rfl T511.e16 (by decide) (T511.lt (by decide)) rfl rfl ?_
            refine pm_R_get pm_M10 (pc_q := 155) (v := .int (m457 3)) (pm_q10_1 (Nat.le_of_ble_eq_true rfl)) rfl T511.e17 (by decide) (T511.lt (by decide)) (congrArg (fun z => some (Value.int z)) (Int32.toInt_inj.mp (cl_aux3 _ _ ek530))) rfl ?_
            refine pm_R_ifc pm_M10 (t := 160) (pc_q := 158) (pm_q10_1 (Nat.le_of_ble_eq_true rfl)) rfl rfl (fun c534 => ?_) (fun c534 => ?_)
            · have B535 : sf_B 0 0 (m457 3) := sf_eqL c534 sf_k0
              refine pm_R_lo pm_M10 (pc_q := 161) (pm_q10_1 (Nat.le_of_ble_eq_true rfl)) rfl rfl ?_
              refine pm_R_lo pm_M10 (pc_q := 162) (pm_q10_1 (Nat.le_of_ble_eq_true rfl)) rfl rfl ?_
              refine pm_R_lo pm_M10 (pc_q := 164) (pm_q10_1 (Nat.le_of_ble_eq_true rfl)) rfl rfl ?_
              refine pm_R_cv pm_M10 (pc_q := 167) (a := 16) (ra := [.int z325, .int 1]) (rest := []) (ls_q := [.ref 16, .int 1, .int z325]) (pm_q10_1 (Nat.le_of_ble_eq_true rfl)) rfl (Or.inl rfl) pm_M43 T511.e16 rfl (by decide) (T511.lt (by decide)) rfl rfl (Nat.le_of_ble_eq_true rfl) rfl rfl ?_
              have z536 : (m457 3).toInt = 0 := (cl_aux87 _ _ _ ek530 ek520 (congrArg Int32.toInt c534))
              have e537 := (F515.cell G (by decide) (by decide) (F491.cell G (by decide) (by decide) e481))
              have e538 := (F515.cell G (by decide) (by decide) (F491.cell G (by decide) (by decide) e484))
              obtain ⟨f539, e540, b541⟩ := T511.C 20 (by decide) (by decide)
              have e542 := (F515.cell G (by decide) (by decide) (F491.cell G (by decide) (by decide) (F460.cell G (by decide) (by decide) e329)))
              have e543 := (F515.cell G (by decide) (by decide) (F491.cell G (by decide) (by decide) e478))
              have F544 := F516
              refine cl_c43_1 (d := d + 6) G T511 ⟨_, e543, b479⟩ e537 (cl_aux89 _ _ ek522 (X464 z536)) ((X462.at z536 e481 e484).keep (cl_aux3 _ _ ek522) (cl_aux3 _ _ ek524) (cl_aux3 _ _ ek526) (cl_aux3 _ _ ek528)) e540 (sf_in B453 (by decide) (by decide)) (fun t545 ck E h546 lt547 lE548 G T549 F550 e551 low552 => ?_)
              have F553 := F544.ck (fun b hb => (lt547 b hb).symm) F544.2.1
              have F554 := F550.ck (fun b hb => (lt547 b hb).symm) (Nat.le_refl _)
              have gr555 := fun (b : Nat) (hb : b < h.1) => lt547 b (Nat.lt_of_lt_of_le hb F544.2.1)
              have gE556 := fun (b : Nat) (hb : b < h.1) => lE548 b (Nat.lt_of_lt_of_le hb F544.2.1)
              have F557 := F553.trans (N := 2) (S := 14) F554 (by decide) (by decide) (by decide)
              have e558 := (low552 23 (by decide) (by decide)).trans e542
              have e559 := (low552 28 (by decide) (by decide)).trans e543
              show pm_R _ 10 167 [.ref 16, .int 1, .int a1, .int (m 0), .int z325, .int 1, .int z325] [] _ _
              refine pm_R_lo pm_M10 (pc_q := 169) (pm_q10_1 (Nat.le_of_ble_eq_true rfl)) rfl rfl ?_
              refine pm_R_br pm_M10 (pc_q := 172) (st_q := []) (pm_q10_1 (Nat.le_of_ble_eq_true rfl)) rfl ?_
              refine pm_R_lo pm_M10 (pc_q := 173) (pm_q10_1 (Nat.le_of_ble_eq_true rfl)) rfl rfl ?_
              refine pm_R_get pm_M10 (pc_q := 176) (v := .ref 17) (pm_q10_1 (Nat.le_of_ble_eq_true rfl)) rfl T549.e16 (by decide) (T549.lt (by decide)) rfl rfl ?_
              refine pm_R_get pm_M10 (pc_q := 179) (v := .ref 23) (pm_q10_1 (Nat.le_of_ble_eq_true rfl)) rfl T549.e17 (by decide) (T549.lt (by decide)) rfl rfl ?_
              refine pm_R_lo pm_M10 (pc_q := 180) (pm_q10_1 (Nat.le_of_ble_eq_true rfl)) rfl rfl ?_
              refine pm_R_op pm_M10 (pc_q := 181) (st_q := [.int 1, .ref 23, .int 1, .ref 23]) (pm_q10_1 (Nat.le_of_ble_eq_true rfl)) rfl rfl ?_
              refine pm_R_iald pm_M10 (pc_q := 182) (v := z325) (pm_q10_1 (Nat.le_of_ble_eq_true rfl)) e558 (T549.lt (by decide)) rfl ez326 rfl ?_
              refine pm_R_op pm_M10 (pc_q := 183) (st_q := [.int 1, .int z325, .int 1, .ref 23]) (pm_q10_1 (Nat.le_of_ble_eq_true rfl)) rfl rfl ?_
              refine sf_R_iadd pm_M10 (pc_q := 184) (pm_q10_1 (Nat.le_of_ble_eq_true rfl)) rfl B453 sf_k1 (by decide) (by decide) (fun z563 e564 B565 => ?_)
              refine cl_R_cnt20 G pm_M10 T549 (pc_q := 185) (pm_q10_1 (Nat.le_of_ble_eq_true rfl)) e558 e551 ⟨_, by rw [show f328 1 = z325 from ez326]; exact cl_upS⟩ (by rw [show f328 1 = z325 from ez326]; exact (cl_aux88 _ _ e564)) (Int.le_trans B565.2 (by decide)) rfl (fun h566 T567 F568 => ?_)
              have F569 := F568.cl (ck := ck) T549.1
              have F570 := F557.trans (N := 2) (S := 14) F569 (by decide) (by decide) (by decide)
              refine pm_R_lo pm_M10 (pc_q := 187) (pm_q10_1 (Nat.le_of_ble_eq_true rfl)) rfl rfl ?_
              have e571 := (F569.cell G (by decide) (by decide) e559)
              exact pm_R_ret pm_M10 (r := some (.int z325)) (pm_q10_1 (Nat.le_of_ble_eq_true rfl)) (pm_ret_i _) (K2 z325 m513 o ck E h566 gr555 gE556 G T567 ((F570.weak (by decide) (by decide)).ck gr555 (Nat.le_refl _)) W533 (cl_aux91 _ B517.2 B517.1) ⟨_, e571, b479⟩)
            · have B572 : sf_B 1 4 (m457 3) := sf_neL0 c534 sf_k0 B472
              refine pm_R_op pm_M10 (pc_q := 159) (st_q := [.int (-1)]) (pm_q10_1 (Nat.le_of_ble_eq_true rfl)) rfl rfl ?_
              have e573 := (F515.cell G (by decide) (by decide) (F491.cell G (by decide) (by decide) e478))
              exact pm_R_ret pm_M10 (r := some (.int (-1))) (pm_q10_1 (Nat.le_of_ble_eq_true rfl)) rfl (K (-1) m513 h510 T511 (F516.weak (by decide) (by decide)) W533 (cl_aux91 _ B517.2 B517.1) ⟨_, e573, b479⟩ (sf_weak sf_kn1 (by decide) (by decide)))
          · have B574 : sf_B 3 3 z325 := sf_leR (Int32.not_lt.mp c452) sf_k3 B327
            refine pm_R_br pm_M10 (pc_q := 95) rfl rfl ?_
            refine pm_R_op pm_M10 (pc_q := 97) (st_q := [.int (-2)]) rfl rfl rfl ?_
            have e575 := (F48.cell G (by decide) (by decide) (F26.cell G (by decide) (by decide) (F10.cell G (by decide) (by decide) e2)))
            exact pm_R_ret pm_M10 (r := some (.int (-2))) rfl rfl (K (-2) m46 h43 T44 (F49.weak (by decide) (by decide)) W66 (cl_aux91 _ B50.2 B50.1) ⟨_, e575, b3⟩ (sf_weak sf_kn2 (by decide) (by decide)))
      have B576 : sf_B 2 3 a0 := sf_neL0 c324 sf_k1 B323
      by_cases c577 : a0 = 2
      · rw [c577]
        refine pm_R_lo pm_M10 (pc_q := 45) rfl rfl rfl ?_
        refine pm_R_get pm_M10 (pc_q := 48) (v := .ref 17) rfl rfl T44.e16 (by decide) (T44.lt (by decide)) rfl rfl ?_
        refine pm_R_get pm_M10 (pc_q := 51) (v := .ref 23) rfl rfl T44.e17 (by decide) (T44.lt (by decide)) rfl rfl ?_
        refine pm_R_lo pm_M10 (pc_q := 52) rfl rfl rfl ?_
        obtain ⟨f581, e582, b583⟩ := T44.C 23 (by decide) (by decide)
        obtain ⟨z578, ez579⟩ : ∃ y, f581 (Int32.toNatClampNeg 2) = y := ⟨_, rfl⟩
        have B580 : sf_B 0 2 z578 := ez579 ▸ (b583 2)
        refine pm_R_iald pm_M10 (pc_q := 53) (v := z578) rfl e582 (T44.lt (by decide)) rfl ez579 rfl ?_
        refine pm_R_lo pm_M10 (pc_q := 55) (ls_q := [.ref 16, .int 2, .int a1, .int (m 0), .int z578, pm_no, pm_no]) (st_q := []) rfl rfl rfl ?_
        refine pm_R_lo pm_M10 (pc_q := 56) rfl rfl rfl ?_
        refine pm_R_op pm_M10 (pc_q := 57) (st_q := [.int (-1), .int a1]) rfl rfl rfl ?_
        refine pm_R_icmp pm_M10 (t := 64) (pc_q := 60) rfl rfl rfl (fun c584 => ?_) (fun c584 => ?_)
        · skip
          refine pm_R_op pm_M10 (pc_q := 65) (st_q := [.int 0]) rfl rfl rfl ?_
          refine pm_R_lo pm_M10 (pc_q := 67) (ls_q := [.ref 16, .int 2, .int a1, .int (m 0), .int z578, .int 0, pm_no]) (st_q := []) rfl rfl rfl ?_
          refine pm_R_lo pm_M10 (pc_q := 69) rfl rfl rfl ?_
          refine pm_R_br pm_M10 (pc_q := 85) (st_q := []) rfl rfl ?_
          refine pm_R_lo pm_M10 (pc_q := 86) rfl rfl rfl ?_
          refine pm_R_ifc pm_M10 (t := 95) (pc_q := 89) rfl rfl rfl (fun c585 => ?_) (fun c585 => ?_)
          · have B586 : sf_B (-2147483648) (-1) a1 := sf_ltL c585 (sf_any a1) sf_k0
            refine pm_R_op pm_M10 (pc_q := 97) (st_q := [.int (-2)]) rfl rfl rfl ?_
            have e587 := (F48.cell G (by decide) (by decide) (F26.cell G (by decide) (by decide) (F10.cell G (by decide) (by decide) e2)))
            exact pm_R_ret pm_M10 (r := some (.int (-2))) rfl rfl (K (-2) m46 h43 T44 (F49.weak (by decide) (by decide)) W66 (cl_aux91 _ B50.2 B50.1) ⟨_, e587, b3⟩ (sf_weak sf_kn2 (by decide) (by decide)))
          · have B588 : sf_B 0 2147483647 a1 := sf_leR (Int32.not_lt.mp c585) sf_k0 (sf_any a1)
            refine pm_R_lo pm_M10 (pc_q := 90) rfl rfl rfl ?_
            refine pm_R_lo pm_M10 (pc_q := 92) rfl rfl rfl ?_
            refine pm_R_icmp pm_M10 (t := 98) (pc_q := 95) rfl rfl rfl (fun c589 => ?_) (fun c589 => ?_)
            · have B590 : sf_B 0 1 a1 := sf_ltL c589 B588 B580
              have B591 : sf_B 1 2 z578 := sf_ltR c589 B588 B580
              refine pm_R_lo pm_M10 (pc_q := 100) rfl rfl rfl ?_
              refine pm_R_br pm_M10 (pc_q := 108) (st_q := []) rfl rfl ?_
              refine pm_R_lo pm_M10 (pc_q := 109) rfl rfl rfl ?_
              refine pm_R_lo pm_M10 (pc_q := 111) (ls_q := [.ref 16, .int 2, .int a1, .int (m 0), .int z578, .int 0, .int a1]) (st_q := []) rfl rfl rfl ?_
              refine pm_R_lo pm_M10 (pc_q := 112) rfl rfl rfl ?_
              refine pm_R_get pm_M10 (pc_q := 115) (v := .ref 25) rfl rfl T44.e16 (by decide) (T44.lt (by decide)) rfl rfl ?_
              refine pm_R_lo pm_M10 (pc_q := 116) rfl rfl rfl ?_
              refine pm_R_lo pm_M10 (pc_q := 117) (pm_q10_1 (Nat.le_of_ble_eq_true rfl)) rfl rfl ?_
              refine pm_R_cv pm_M10 (pc_q := 120) (a := 25) (ra := [.int 2, .int (m 0)]) (rest := []) (ls_q := [.ref 25, .int (m 0), .int 2, pm_no]) (pm_q10_1 (Nat.le_of_ble_eq_true rfl)) rfl (Or.inl rfl) pm_M11 T44.e25 rfl (by decide) (T44.lt (by decide)) rfl rfl (Nat.le_of_ble_eq_true rfl) rfl rfl ?_
              have e592 := (F48.cell G (by decide) (by decide) (F26.cell G (by decide) (by decide) (F10.cell G (by decide) (by decide) e2)))
              refine cl_c11_2 (d := d + 0) G T44 B4 ⟨_, e592, b3⟩ (fun m595 h596 T597 F598 W599 X600 X601 X602 => ?_)
              have F603 := F49.trans (N := 0) (S := 0) F598 (by decide) (by decide) (by decide)
              have B604 : sf_B 0 0 (m595 0) := by rw [W599 0 (by decide)]; exact B50
              have ek605 : (m595 0).toInt = ((m8 0)).toInt := by rw [W599 0 (by decide)]; exact ek51
              have B606 : sf_B 0 0 (m595 1) := by rw [W599 1 (by decide)]; exact B62
              have ek607 : (m595 1).toInt = ((m24 1)).toInt := by rw [W599 1 (by decide)]; exact ek63
              have B608 : sf_B (-1) (-1) (m595 2) := by rw [W599 2 (by decide)]; exact B64
              have W609 : rf_W [0, 1, 2, 3, 4, 5, 6, 7, 8, 9, 10, 11, 12, 13] m m595 := W66.trans W599 (by decide)
              have B610 : sf_B 0 4 (m595 3) := T597.B 3
              have B611 : sf_B 0 50 (m595 5) := T597.B 5
              have B612 : sf_B 0 16 (m595 6) := T597.B 6
              have B613 : sf_B 0 99 (m595 7) := T597.B 7
              have B614 : sf_B (-1) 99 (m595 8) := T597.B 8
              show pm_R _ 10 120 [.ref 16, .int 2, .int a1, .int (m 0), .int z578, .int 0, .int a1] [] _ _
              obtain ⟨f615, e616, b617⟩ := id X601
              obtain ⟨f618, e619⟩ := T597.C 26 (by decide) (by decide)
              obtain ⟨f621, e622⟩ := T597.C 27 (by decide) (by decide)
              refine pm_R_lo pm_M10 (pc_q := 121) (pm_q10_1 (Nat.le_of_ble_eq_true rfl)) rfl rfl ?_
              refine pm_R_get pm_M10 (pc_q := 124) (v := .ref 17) (pm_q10_1 (Nat.le_of_ble_eq_true rfl)) rfl T597.e16 (by decide) (T597.lt (by decide)) rfl rfl ?_
              refine pm_R_lo pm_M10 (pc_q := 125) (pm_q10_1 (Nat.le_of_ble_eq_true rfl)) rfl rfl ?_
              refine pm_R_get pm_M10 (pc_q := 128) (v := .ref 25) (pm_q10_1 (Nat.le_of_ble_eq_true rfl)) rfl T597.e16 (by decide) (T597.lt (by decide)) rfl rfl ?_
              refine pm_R_get pm_M10 (pc_q := 131) (v := .int (m595 3)) (pm_q10_1 (Nat.le_of_ble_eq_true rfl)) rfl T597.e25 (by decide) (T597.lt (by decide)) rfl rfl ?_
              refine cl_R_put17 G pm_M10 T597 (k := 1) (pc_q := 134) (pm_q10_1 (Nat.le_of_ble_eq_true rfl)) rfl rfl (by decide) rfl rfl B610 rfl rfl rfl rfl rfl (fun h624 m627 em628 T625 F626 => ?_)
              have F629 := F626.cl (ck := ck) T597.1
              have F630 := F603.trans (N := 0) (S := 0) F629 (by decide) (by decide) (by decide)
              have B631 : sf_B 0 0 (m627 0) := by rw [em628]; exact B604
              have ek632 : (m627 0).toInt = ((m8 0)).toInt := by rw [em628]; exact ek605
              have B633 : sf_B (-1) (-1) (m627 2) := by rw [em628]; exact B608
              have B634 : sf_B 0 4 (m627 3) := by rw [em628]; exact B610
              have ek635 : (m627 3).toInt = ((m595 3)).toInt := by rw [em628]; rfl
              have B636 : sf_B 0 50 (m627 5) := by rw [em628]; exact B611
              have ek637 : (m627 5).toInt = ((m595 5)).toInt := by rw [em628]; rfl
              have B638 : sf_B 0 16 (m627 6) := by rw [em628]; exact B612
              have ek639 : (m627 6).toInt = ((m595 6)).toInt := by rw [em628]; rfl
              have B640 : sf_B 0 99 (m627 7) := by rw [em628]; exact B613
              have ek641 : (m627 7).toInt = ((m595 7)).toInt := by rw [em628]; rfl
              have B642 : sf_B (-1) 99 (m627 8) := by rw [em628]; exact B614
              have ek643 : (m627 8).toInt = ((m595 8)).toInt := by rw [em628]; rfl
              have B644 : sf_B 0 4 (m627 1) := by rw [em628]; exact B610
              have ek645 : (m627 1).toInt = ((m595 3)).toInt := by rw [em628]; rfl
              have W646 : rf_W [0, 1, 2, 3, 4, 5, 6, 7, 8, 9, 10, 11, 12, 13] m m627 := by rw [em628]; exact W609.put (by decide)
              refine pm_R_lo pm_M10 (pc_q := 135) (pm_q10_1 (Nat.le_of_ble_eq_true rfl)) rfl rfl ?_
              refine pm_R_get pm_M10 (pc_q := 138) (v := .ref 17) (pm_q10_1 (Nat.le_of_ble_eq_true rfl)) rfl T625.e16 (by decide) (T625.lt (by decide)) rfl rfl ?_
              refine pm_R_lo pm_M10 (pc_q := 139) (pm_q10_1 (Nat.le_of_ble_eq_true rfl)) rfl rfl ?_
              refine pm_R_get pm_M10 (pc_q := 142) (v := .ref 25) (pm_q10_1 (Nat.le_of_ble_eq_true rfl)) rfl T625.e16 (by decide) (T625.lt (by decide)) rfl rfl ?_
              have B647 : sf_B (-1) 600 (m627 4) := T625.B 4
              refine pm_R_get pm_M10 (pc_q := 145) (v := .int (m627 4)) (pm_q10_1 (Nat.le_of_ble_eq_true rfl)) rfl T625.e25 (by decide) (T625.lt (by decide)) rfl rfl ?_
              refine cl_R_put17 G pm_M10 T625 (k := 2) (pc_q := 148) (pm_q10_1 (Nat.le_of_ble_eq_true rfl)) rfl rfl (by decide) rfl rfl B647 rfl rfl rfl rfl rfl (fun h648 m651 em652 T649 F650 => ?_)
              have F653 := F650.cl (ck := ck) T625.1
              have F654 := F630.trans (N := 0) (S := 0) F653 (by decide) (by decide) (by decide)
              have B655 : sf_B 0 0 (m651 0) := by rw [em652]; exact B631
              have ek656 : (m651 0).toInt = ((m8 0)).toInt := by rw [em652]; exact ek632
              have B657 : sf_B 0 4 (m651 3) := by rw [em652]; exact B634
              have ek658 : (m651 3).toInt = ((m595 3)).toInt := by rw [em652]; exact ek635
              have B659 : sf_B 0 50 (m651 5) := by rw [em652]; exact B636
              have ek660 : (m651 5).toInt = ((m595 5)).toInt := by rw [em652]; exact ek637
              have B661 : sf_B 0 16 (m651 6) := by rw [em652]; exact B638
              have ek662 : (m651 6).toInt = ((m595 6)).toInt := by rw [em652]; exact ek639
              have B663 : sf_B 0 99 (m651 7) := by rw [em652]; exact B640
              have ek664 : (m651 7).toInt = ((m595 7)).toInt := by rw [em652]; exact ek641
              have B665 : sf_B (-1) 99 (m651 8) := by rw [em652]; exact B642
              have ek666 : (m651 8).toInt = ((m595 8)).toInt := by rw [em652]; exact ek643
              have B667 : sf_B 0 4 (m651 1) := by rw [em652]; exact B644
              have ek668 : (m651 1).toInt = ((m595 3)).toInt := by rw [em652]; exact ek645
              have B669 : sf_B (-1) 600 (m651 2) := by rw [em652]; exact B647
              have ek670 : (m651 2).toInt = ((m627 4)).toInt := by rw [em652]; rfl
              have W671 : rf_W [0, 1, 2, 3, 4, 5, 6, 7, 8, 9, 10, 11, 12, 13] m m651 := by rw [em652]; exact W646.put (by decide)
              refine pm_R_lo pm_M10 (pc_q := 149) (pm_q10_1 (Nat.le_of_ble_eq_true rfl)) rfl rfl ?_
              refine pm_R_get pm_M10 (pc_q := 152) (v := .ref 17) (pm_q10_1 (Nat.le_of_ble_eq_true rfl)) rfl T649.e16 (by decide) (T649.lt (by decide)) rfl rfl ?_
              refine pm_R_get pm_M10 (pc_q := 155) (v := .int (m595 3)) (pm_q10_1 (Nat.le_of_ble_eq_true rfl)) rfl T649.e17 (by decide) (T649.lt (by decide)) (congrArg (fun z => some (Value.int z)) (Int32.toInt_inj.mp (cl_aux3 _ _ ek668))) rfl ?_
              refine pm_R_ifc pm_M10 (t := 160) (pc_q := 158) (pm_q10_1 (Nat.le_of_ble_eq_true rfl)) rfl rfl (fun c672 => ?_) (fun c672 => ?_)
              · have B673 : sf_B 0 0 (m595 3) := sf_eqL c672 sf_k0
                refine pm_R_lo pm_M10 (pc_q := 161) (pm_q10_1 (Nat.le_of_ble_eq_true rfl)) rfl rfl ?_
                refine pm_R_lo pm_M10 (pc_q := 162) (pm_q10_1 (Nat.le_of_ble_eq_true rfl)) rfl rfl ?_
                refine pm_R_lo pm_M10 (pc_q := 164) (pm_q10_1 (Nat.le_of_ble_eq_true rfl)) rfl rfl ?_
                refine pm_R_cv pm_M10 (pc_q := 167) (a := 16) (ra := [.int a1, .int 2]) (rest := []) (ls_q := [.ref 16, .int 2, .int a1]) (pm_q10_1 (Nat.le_of_ble_eq_true rfl)) rfl (Or.inl rfl) pm_M43 T649.e16 rfl (by decide) (T649.lt (by decide)) rfl rfl (Nat.le_of_ble_eq_true rfl) rfl rfl ?_
                have z674 : (m595 3).toInt = 0 := (cl_aux87 _ _ _ ek668 ek658 (congrArg Int32.toInt c672))
                have e675 := (F653.cell G (by decide) (by decide) (F629.cell G (by decide) (by decide) e619))
                have e676 := (F653.cell G (by decide) (by decide) (F629.cell G (by decide) (by decide) e622))
                obtain ⟨f677, e678, b679⟩ := T649.C 21 (by decide) (by decide)
                have e680 := (F653.cell G (by decide) (by decide) (F629.cell G (by decide) (by decide) (F598.cell G (by decide) (by decide) e582)))
                have e681 := (F653.cell G (by decide) (by decide) (F629.cell G (by decide) (by decide) e616))
                have F682 := F654
                refine cl_c43_2 (d := d + 6) G T649 ⟨_, e681, b617⟩ e675 (cl_aux90 _ _ _ _ ek666 ek664 (X602 z674)) ((X600.at z674 e619 e622).keep (cl_aux3 _ _ ek660) (cl_aux3 _ _ ek662) (cl_aux3 _ _ ek664) (cl_aux3 _ _ ek666)) e678 (sf_in B590 (by decide) (by decide)) (fun t683 ck E h684 lt685 lE686 G T687 F688 e689 low690 => ?_)
                have F691 := F682.ck (fun b hb => (lt685 b hb).symm) F682.2.1
                have F692 := F688.ck (fun b hb => (lt685 b hb).symm) (Nat.le_refl _)
                have gr693 := fun (b : Nat) (hb : b < h.1) => lt685 b (Nat.lt_of_lt_of_le hb F682.2.1)
                have gE694 := fun (b : Nat) (hb : b < h.1) => lE686 b (Nat.lt_of_lt_of_le hb F682.2.1)
                have F695 := F691.trans (N := 4) (S := 561) F692 (by decide) (by decide) (by decide)
                have e696 := (low690 23 (by decide) (by decide)).trans e680
                have e697 := (low690 28 (by decide) (by decide)).trans e681
                show pm_R _ 10 167 [.ref 16, .int 2, .int a1, .int (m 0), .int z578, .int 0, .int a1] [] _ _
                refine pm_R_lo pm_M10 (pc_q := 169) (pm_q10_1 (Nat.le_of_ble_eq_true rfl)) rfl rfl ?_
                refine pm_R_br pm_M10 (pc_q := 185) (st_q := []) (pm_q10_1 (Nat.le_of_ble_eq_true rfl)) rfl ?_
                refine pm_R_lo pm_M10 (pc_q := 187) (pm_q10_1 (Nat.le_of_ble_eq_true rfl)) rfl rfl ?_
                exact pm_R_ret pm_M10 (r := some (.int a1)) (pm_q10_1 (Nat.le_of_ble_eq_true rfl)) (pm_ret_i _) (K2 a1 m651 o ck E h684 gr693 gE694 G T687 ((F695.weak (by decide) (by decide)).ck gr693 (Nat.le_refl _)) W671 (cl_aux91 _ B655.2 B655.1) ⟨_, e697, b617⟩)
              · have B698 : sf_B 1 4 (m595 3) := sf_neL0 c672 sf_k0 B610
                refine pm_R_op pm_M10 (pc_q := 159) (st_q := [.int (-1)]) (pm_q10_1 (Nat.le_of_ble_eq_true rfl)) rfl rfl ?_
                have e699 := (F653.cell G (by decide) (by decide) (F629.cell G (by decide) (by decide) e616))
                exact pm_R_ret pm_M10 (r := some (.int (-1))) (pm_q10_1 (Nat.le_of_ble_eq_true rfl)) rfl (K (-1) m651 h648 T649 (F654.weak (by decide) (by decide)) W671 (cl_aux91 _ B655.2 B655.1) ⟨_, e699, b617⟩ (sf_weak sf_kn1 (by decide) (by decide)))
            · skip
              refine pm_R_op pm_M10 (pc_q := 97) (st_q := [.int (-2)]) rfl rfl rfl ?_
              have e700 := (F48.cell G (by decide) (by decide) (F26.cell G (by decide) (by decide) (F10.cell G (by decide) (by decide) e2)))
              exact pm_R_ret pm_M10 (r := some (.int (-2))) rfl rfl (K (-2) m46 h43 T44 (F49.weak (by decide) (by decide)) W66 (cl_aux91 _ B50.2 B50.1) ⟨_, e700, b3⟩ (sf_weak sf_kn2 (by decide) (by decide)))
        · have B701 : sf_B (-1) (-1) a1 := sf_eqL (Classical.not_not.mp c584) sf_kn1
          refine pm_R_op pm_M10 (pc_q := 61) (st_q := [.int 1]) rfl rfl rfl ?_
          refine pm_R_br pm_M10 (pc_q := 65) rfl rfl ?_
          refine pm_R_lo pm_M10 (pc_q := 67) (ls_q := [.ref 16, .int 2, .int a1, .int (m 0), .int z578, .int 1, pm_no]) (st_q := []) rfl rfl rfl ?_
          refine pm_R_lo pm_M10 (pc_q := 69) rfl rfl rfl ?_
          refine pm_R_br pm_M10 (pc_q := 72) (st_q := []) rfl rfl ?_
          refine pm_R_lo pm_M10 (pc_q := 74) rfl rfl rfl ?_
          refine pm_R_stat pm_M10 (pc_q := 77) rfl rfl rfl ?_
          refine pm_R_lo pm_M10 (pc_q := 78) rfl rfl rfl ?_
          refine pm_R_iald pm_M10 (pc_q := 79) (v := 2) rfl ((T44.old (by decide)).trans G.tb1) (T44.lt (by decide)) rfl rfl rfl ?_
          refine pm_R_icmp pm_M10 (t := 98) (pc_q := 82) rfl rfl rfl (fun c705 => ?_) (fun c705 => ?_)
          · have B706 : sf_B 0 1 z578 := sf_ltL c705 B580 sf_k2
            refine pm_R_lo pm_M10 (pc_q := 100) rfl rfl rfl ?_
            refine pm_R_br pm_M10 (pc_q := 103) (st_q := []) rfl rfl ?_
            refine pm_R_lo pm_M10 (pc_q := 105) rfl rfl rfl ?_
            refine pm_R_br pm_M10 (pc_q := 109) rfl rfl ?_
            refine pm_R_lo pm_M10 (pc_q := 111) (ls_q := [.ref 16, .int 2, .int a1, .int (m 0), .int z578, .int 1, .int z578]) (st_q := []) rfl rfl rfl ?_
            refine pm_R_lo pm_M10 (pc_q := 112) rfl rfl rfl ?_
            refine pm_R_get pm_M10 (pc_q := 115) (v := .ref 25) rfl rfl T44.e16 (by decide) (T44.lt (by decide)) rfl rfl ?_
            refine pm_R_lo pm_M10 (pc_q := 116) rfl rfl rfl ?_
            refine pm_R_lo pm_M10 (pc_q := 117) (pm_q10_1 (Nat.le_of_ble_eq_true rfl)) rfl rfl ?_
            refine pm_R_cv pm_M10 (pc_q := 120) (a := 25) (ra := [.int 2, .int (m 0)]) (rest := []) (ls_q := [.ref 25, .int (m 0), .int 2, pm_no]) (pm_q10_1 (Nat.le_of_ble_eq_true rfl)) rfl (Or.inl rfl) pm_M11 T44.e25 rfl (by decide) (T44.lt (by decide)) rfl rfl (Nat.le_of_ble_eq_true rfl) rfl rfl ?_
            have e707 := (F48.cell G (by decide) (by decide) (F26.cell G (by decide) (by decide) (F10.cell G (by decide) (by decide) e2)))
            refine cl_c11_2 (d := d + 0) G T44 B4 ⟨_, e707, b3⟩ (fun m710 h711 T712 F713 W714 X715 X716 X717 => ?_)
            have F718 := F49.trans (N := 0) (S := 0) F713 (by decide) (by decide) (by decide)
            have B719 : sf_B 0 0 (m710 0) := by rw [W714 0 (by decide)]; exact B50
            have ek720 : (m710 0).toInt = ((m8 0)).toInt := by rw [W714 0 (by decide)]; exact ek51
            have B721 : sf_B 0 0 (m710 1) := by rw [W714 1 (by decide)]; exact B62
            have ek722 : (m710 1).toInt = ((m24 1)).toInt := by rw [W714 1 (by decide)]; exact ek63
            have B723 : sf_B (-1) (-1) (m710 2) := by rw [W714 2 (by decide)]; exact B64
            have W724 : rf_W [0, 1, 2, 3, 4, 5, 6, 7, 8, 9, 10, 11, 12, 13] m m710 := W66.trans W714 (by decide)
            have B725 : sf_B 0 4 (m710 3) := T712.B 3
            have B726 : sf_B 0 50 (m710 5) := T712.B 5
            have B727 : sf_B 0 16 (m710 6) := T712.B 6
            have B728 : sf_B 0 99 (m710 7) := T712.B 7
            have B729 : sf_B (-1) 99 (m710 8) := T712.B 8
            show pm_R _ 10 120 [.ref 16, .int 2, .int a1, .int (m 0), .int z578, .int 1, .int z578] [] _ _
            obtain ⟨f730, e731, b732⟩ := id X716
            obtain ⟨f733, e734⟩ := T712.C 26 (by decide) (by decide)
            obtain ⟨f736, e737⟩ := T712.C 27 (by decide) (by decide)
            refine pm_R_lo pm_M10 (pc_q := 121) (pm_q10_1 (Nat.le_of_ble_eq_true rfl)) rfl rfl ?_
            refine pm_R_get pm_M10 (pc_q := 124) (v := .ref 17) (pm_q10_1 (Nat.le_of_ble_eq_true rfl)) rfl T712.e16 (by decide) (T712.lt (by decide)) rfl rfl ?_
            refine pm_R_lo pm_M10 (pc_q := 125) (pm_q10_1 (Nat.le_of_ble_eq_true rfl)) rfl rfl ?_
            refine pm_R_get pm_M10 (pc_q := 128) (v := .ref 25) (pm_q10_1 (Nat.le_of_ble_eq_true rfl)) rfl T712.e16 (by decide) (T712.lt (by decide)) rfl rfl ?_
            refine pm_R_get pm_M10 (pc_q := 131) (v := .int (m710 3)) (pm_q10_1 (Nat.le_of_ble_eq_true rfl)) rfl T712.e25 (by decide) (T712.lt (by decide)) rfl rfl ?_
            refine cl_R_put17 G pm_M10 T712 (k := 1) (pc_q := 134) (pm_q10_1 (Nat.le_of_ble_eq_true rfl)) rfl rfl (by decide) rfl rfl B725 rfl rfl rfl rfl rfl (fun h739 m742 em743 T740 F741 => ?_)
            have F744 := F741.cl (ck := ck) T712.1
            have F745 := F718.trans (N := 0) (S := 0) F744 (by decide) (by decide) (by decide)
            have B746 : sf_B 0 0 (m742 0) := by rw [em743]; exact B719
            have ek747 : (m742 0).toInt = ((m8 0)).toInt := by rw [em743]; exact ek720
            have B748 : sf_B (-1) (-1) (m742 2) := by rw [em743]; exact B723
            have B749 : sf_B 0 4 (m742 3) := by rw [em743]; exact B725
            have ek750 : (m742 3).toInt = ((m710 3)).toInt := by rw [em743]; rfl
            have B751 : sf_B 0 50 (m742 5) := by rw [em743]; exact B726
            have ek752 : (m742 5).toInt = ((m710 5)).toInt := by rw [em743]; rfl
            have B753 : sf_B 0 16 (m742 6) := by rw [em743]; exact B727
            have ek754 : (m742 6).toInt = ((m710 6)).toInt := by rw [em743]; rfl
            have B755 : sf_B 0 99 (m742 7) := by rw [em743]; exact B728
            have ek756 : (m742 7).toInt = ((m710 7)).toInt := by rw [em743]; rfl
            have B757 : sf_B (-1) 99 (m742 8) := by rw [em743]; exact B729
            have ek758 : (m742 8).toInt = ((m710 8)).toInt := by rw [em743]; rfl
            have B759 : sf_B 0 4 (m742 1) := by rw [em743]; exact B725
            have ek760 : (m742 1).toInt = ((m710 3)).toInt := by rw [em743]; rfl
            have W761 : rf_W [0, 1, 2, 3, 4, 5, 6, 7, 8, 9, 10, 11, 12, 13] m m742 := by rw [em743]; exact W724.put (by decide)
            refine pm_R_lo pm_M10 (pc_q := 135) (pm_q10_1 (Nat.le_of_ble_eq_true rfl)) rfl rfl ?_
            refine pm_R_get pm_M10 (pc_q := 138) (v := .ref 17) (pm_q10_1 (Nat.le_of_ble_eq_true rfl)) rfl T740.e16 (by decide) (T740.lt (by decide)) rfl rfl ?_
            refine pm_R_lo pm_M10 (pc_q := 139) (pm_q10_1 (Nat.le_of_ble_eq_true rfl)) rfl rfl ?_
            refine pm_R_get pm_M10 (pc_q := 142) (v := .ref 25) (pm_q10_1 (Nat.le_of_ble_eq_true rfl)) rfl T740.e16 (by decide) (T740.lt (by decide)) rfl rfl ?_
            have B762 : sf_B (-1) 600 (m742 4) := T740.B 4
            refine pm_R_get pm_M10 (pc_q := 145) (v := .int (m742 4)) (pm_q10_1 (Nat.le_of_ble_eq_true rfl)) rfl T740.e25 (by decide) (T740.lt (by decide)) rfl rfl ?_
            refine cl_R_put17 G pm_M10 T740 (k := 2) (pc_q := 148) (pm_q10_1 (Nat.le_of_ble_eq_true rfl)) rfl rfl (by decide) rfl rfl B762 rfl rfl rfl rfl rfl (fun h763 m766 em767 T764 F765 => ?_)
            have F768 := F765.cl (ck := ck) T740.1
            have F769 := F745.trans (N := 0) (S := 0) F768 (by decide) (by decide) (by decide)
            have B770 : sf_B 0 0 (m766 0) := by rw [em767]; exact B746
            have ek771 : (m766 0).toInt = ((m8 0)).toInt := by rw [em767]; exact ek747
            have B772 : sf_B 0 4 (m766 3) := by rw [em767]; exact B749
            have ek773 : (m766 3).toInt = ((m710 3)).toInt := by rw [em767]; exact ek750
            have B774 : sf_B 0 50 (m766 5) := by rw [em767]; exact B751
            have ek775 : (m766 5).toInt = ((m710 5)).toInt := by rw [em767]; exact ek752
            have B776 : sf_B 0 16 (m766 6) := by rw [em767]; exact B753
            have ek777 : (m766 6).toInt = ((m710 6)).toInt := by rw [em767]; exact ek754
            have B778 : sf_B 0 99 (m766 7) := by rw [em767]; exact B755
            have ek779 : (m766 7).toInt = ((m710 7)).toInt := by rw [em767]; exact ek756
            have B780 : sf_B (-1) 99 (m766 8) := by rw [em767]; exact B757
            have ek781 : (m766 8).toInt = ((m710 8)).toInt := by rw [em767]; exact ek758
            have B782 : sf_B 0 4 (m766 1) := by rw [em767]; exact B759
            have ek783 : (m766 1).toInt = ((m710 3)).toInt := by rw [em767]; exact ek760
            have B784 : sf_B (-1) 600 (m766 2) := by rw [em767]; exact B762
            have ek785 : (m766 2).toInt = ((m742 4)).toInt := by rw [em767]; rfl
            have W786 : rf_W [0, 1, 2, 3, 4, 5, 6, 7, 8, 9, 10, 11, 12, 13] m m766 := by rw [em767]; exact W761.put (by decide)
            refine pm_R_lo pm_M10 (pc_q := 149) (pm_q10_1 (Nat.le_of_ble_eq_true rfl)) rfl rfl ?_
            refine pm_R_get pm_M10 (pc_q := 152) (v := .ref 17) (pm_q10_1 (Nat.le_of_ble_eq_true rfl)) rfl T764.e16 (by decide) (T764.lt (by decide)) rfl rfl ?_
            refine pm_R_get pm_M10 (pc_q := 155) (v := .int (m710 3)) (pm_q10_1 (Nat.le_of_ble_eq_true rfl)) rfl T764.e17 (by decide) (T764.lt (by decide)) (congrArg (fun z => some (Value.int z)) (Int32.toInt_inj.mp (cl_aux3 _ _ ek783))) rfl ?_
            refine pm_R_ifc pm_M10 (t := 160) (pc_q := 158) (pm_q10_1 (Nat.le_of_ble_eq_true rfl)) rfl rfl (fun c787 => ?_) (fun c787 => ?_)
            · have B788 : sf_B 0 0 (m710 3) := sf_eqL c787 sf_k0
              refine pm_R_lo pm_M10 (pc_q := 161) (pm_q10_1 (Nat.le_of_ble_eq_true rfl)) rfl rfl ?_
              refine pm_R_lo pm_M10 (pc_q := 162) (pm_q10_1 (Nat.le_of_ble_eq_true rfl)) rfl rfl ?_
              refine pm_R_lo pm_M10 (pc_q := 164) (pm_q10_1 (Nat.le_of_ble_eq_true rfl)) rfl rfl ?_
              refine pm_R_cv pm_M10 (pc_q := 167) (a := 16) (ra := [.int z578, .int 2]) (rest := []) (ls_q := [.ref 16, .int 2, .int z578]) (pm_q10_1 (Nat.le_of_ble_eq_true rfl)) rfl (Or.inl rfl) pm_M43 T764.e16 rfl (by decide) (T764.lt (by decide)) rfl rfl (Nat.le_of_ble_eq_true rfl) rfl rfl ?_
              have z789 : (m710 3).toInt = 0 := (cl_aux87 _ _ _ ek783 ek773 (congrArg Int32.toInt c787))
              have e790 := (F768.cell G (by decide) (by decide) (F744.cell G (by decide) (by decide) e734))
              have e791 := (F768.cell G (by decide) (by decide) (F744.cell G (by decide) (by decide) e737))
              obtain ⟨f792, e793, b794⟩ := T764.C 21 (by decide) (by decide)
              have e795 := (F768.cell G (by decide) (by decide) (F744.cell G (by decide) (by decide) (F713.cell G (by decide) (by decide) e582)))
              have e796 := (F768.cell G (by decide) (by decide) (F744.cell G (by decide) (by decide) e731))
              have F797 := F769
              refine cl_c43_2 (d := d + 6) G T764 ⟨_, e796, b732⟩ e790 (cl_aux90 _ _ _ _ ek781 ek779 (X717 z789)) ((X715.at z789 e734 e737).keep (cl_aux3 _ _ ek775) (cl_aux3 _ _ ek777) (cl_aux3 _ _ ek779) (cl_aux3 _ _ ek781)) e793 (sf_in B706 (by decide) (by decide)) (fun t798 ck E h799 lt800 lE801 G T802 F803 e804 low805 => ?_)
              have F806 := F797.ck (fun b hb => (lt800 b hb).symm) F797.2.1
              have F807 := F803.ck (fun b hb => (lt800 b hb).symm) (Nat.le_refl _)
              have gr808 := fun (b : Nat) (hb : b < h.1) => lt800 b (Nat.lt_of_lt_of_le hb F797.2.1)
              have gE809 := fun (b : Nat) (hb : b < h.1) => lE801 b (Nat.lt_of_lt_of_le hb F797.2.1)
              have F810 := F806.trans (N := 4) (S := 561) F807 (by decide) (by decide) (by decide)
              have e811 := (low805 23 (by decide) (by decide)).trans e795
              have e812 := (low805 28 (by decide) (by decide)).trans e796
              show pm_R _ 10 167 [.ref 16, .int 2, .int a1, .int (m 0), .int z578, .int 1, .int z578] [] _ _
              refine pm_R_lo pm_M10 (pc_q := 169) (pm_q10_1 (Nat.le_of_ble_eq_true rfl)) rfl rfl ?_
              refine pm_R_br pm_M10 (pc_q := 172) (st_q := []) (pm_q10_1 (Nat.le_of_ble_eq_true rfl)) rfl ?_
              refine pm_R_lo pm_M10 (pc_q := 173) (pm_q10_1 (Nat.le_of_ble_eq_true rfl)) rfl rfl ?_
              refine pm_R_get pm_M10 (pc_q := 176) (v := .ref 17) (pm_q10_1 (Nat.le_of_ble_eq_true rfl)) rfl T802.e16 (by decide) (T802.lt (by decide)) rfl rfl ?_
              refine pm_R_get pm_M10 (pc_q := 179) (v := .ref 23) (pm_q10_1 (Nat.le_of_ble_eq_true rfl)) rfl T802.e17 (by decide) (T802.lt (by decide)) rfl rfl ?_
              refine pm_R_lo pm_M10 (pc_q := 180) (pm_q10_1 (Nat.le_of_ble_eq_true rfl)) rfl rfl ?_
              refine pm_R_op pm_M10 (pc_q := 181) (st_q := [.int 2, .ref 23, .int 2, .ref 23]) (pm_q10_1 (Nat.le_of_ble_eq_true rfl)) rfl rfl ?_
              refine pm_R_iald pm_M10 (pc_q := 182) (v := z578) (pm_q10_1 (Nat.le_of_ble_eq_true rfl)) e811 (T802.lt (by decide)) rfl ez579 rfl ?_
              refine pm_R_op pm_M10 (pc_q := 183) (st_q := [.int 1, .int z578, .int 2, .ref 23]) (pm_q10_1 (Nat.le_of_ble_eq_true rfl)) rfl rfl ?_
              refine sf_R_iadd pm_M10 (pc_q := 184) (pm_q10_1 (Nat.le_of_ble_eq_true rfl)) rfl B706 sf_k1 (by decide) (by decide) (fun z816 e817 B818 => ?_)
              refine cl_R_cnt21 G pm_M10 T802 (pc_q := 185) (pm_q10_1 (Nat.le_of_ble_eq_true rfl)) e811 e804 ⟨_, by rw [show f581 2 = z578 from ez579]; exact cl_upS⟩ (by rw [show f581 2 = z578 from ez579]; exact (cl_aux88 _ _ e817)) (Int.le_trans B818.2 (by decide)) rfl (fun h819 T820 F821 => ?_)
              have F822 := F821.cl (ck := ck) T802.1
              have F823 := F810.trans (N := 4) (S := 561) F822 (by decide) (by decide) (by decide)
              refine pm_R_lo pm_M10 (pc_q := 187) (pm_q10_1 (Nat.le_of_ble_eq_true rfl)) rfl rfl ?_
              have e824 := (F822.cell G (by decide) (by decide) e812)
              exact pm_R_ret pm_M10 (r := some (.int z578)) (pm_q10_1 (Nat.le_of_ble_eq_true rfl)) (pm_ret_i _) (K2 z578 m766 o ck E h819 gr808 gE809 G T820 ((F823.weak (by decide) (by decide)).ck gr808 (Nat.le_refl _)) W786 (cl_aux91 _ B770.2 B770.1) ⟨_, e824, b732⟩)
            · have B825 : sf_B 1 4 (m710 3) := sf_neL0 c787 sf_k0 B725
              refine pm_R_op pm_M10 (pc_q := 159) (st_q := [.int (-1)]) (pm_q10_1 (Nat.le_of_ble_eq_true rfl)) rfl rfl ?_
              have e826 := (F768.cell G (by decide) (by decide) (F744.cell G (by decide) (by decide) e731))
              exact pm_R_ret pm_M10 (r := some (.int (-1))) (pm_q10_1 (Nat.le_of_ble_eq_true rfl)) rfl (K (-1) m766 h763 T764 (F769.weak (by decide) (by decide)) W786 (cl_aux91 _ B770.2 B770.1) ⟨_, e826, b732⟩ (sf_weak sf_kn1 (by decide) (by decide)))
          · have B827 : sf_B 2 2 z578 := sf_leR (Int32.not_lt.mp c705) sf_k2 B580
            refine pm_R_br pm_M10 (pc_q := 95) rfl rfl ?_
            refine pm_R_op pm_M10 (pc_q := 97) (st_q := [.int (-2)]) rfl rfl rfl ?_
            have e828 := (F48.cell G (by decide) (by decide) (F26.cell G (by decide) (by decide) (F10.cell G (by decide) (by decide) e2)))
            exact pm_R_ret pm_M10 (r := some (.int (-2))) rfl rfl (K (-2) m46 h43 T44 (F49.weak (by decide) (by decide)) W66 (cl_aux91 _ B50.2 B50.1) ⟨_, e828, b3⟩ (sf_weak sf_kn2 (by decide) (by decide)))
      have B829 : sf_B 3 3 a0 := sf_neL0 c577 sf_k2 B576
      rw [sf_pt2 B829 sf_k3]
      refine pm_R_lo pm_M10 (pc_q := 45) rfl rfl rfl ?_
      refine pm_R_get pm_M10 (pc_q := 48) (v := .ref 17) rfl rfl T44.e16 (by decide) (T44.lt (by decide)) rfl rfl ?_
      refine pm_R_get pm_M10 (pc_q := 51) (v := .ref 23) rfl rfl T44.e17 (by decide) (T44.lt (by decide)) rfl rfl ?_
      refine pm_R_lo pm_M10 (pc_q := 52) rfl rfl rfl ?_
      obtain ⟨f833, e834, b835⟩ := T44.C 23 (by decide) (by decide)
      obtain ⟨z830, ez831⟩ : ∃ y, f833 (Int32.toNatClampNeg 3) = y := ⟨_, rfl⟩
      have B832 : sf_B 0 2 z830 := ez831 ▸ (b835 3)
      refine pm_R_iald pm_M10 (pc_q := 53) (v := z830) rfl e834 (T44.lt (by decide)) rfl ez831 rfl ?_
      refine pm_R_lo pm_M10 (pc_q := 55) (ls_q := [.ref 16, .int 3, .int a1, .int (m 0), .int z830, pm_no, pm_no]) (st_q := []) rfl rfl rfl ?_
      refine pm_R_lo pm_M10 (pc_q := 56) rfl rfl rfl ?_
      refine pm_R_op pm_M10 (pc_q := 57) (st_q := [.int (-1), .int a1]) rfl rfl rfl ?_
      refine pm_R_icmp pm_M10 (t := 64) (pc_q := 60) rfl rfl rfl (fun c836 => ?_) (fun c836 => ?_)
      · skip
        refine pm_R_op pm_M10 (pc_q := 65) (st_q := [.int 0]) rfl rfl rfl ?_
        refine pm_R_lo pm_M10 (pc_q := 67) (ls_q := [.ref 16, .int 3, .int a1, .int (m 0), .int z830, .int 0, pm_no]) (st_q := []) rfl rfl rfl ?_
        refine pm_R_lo pm_M10 (pc_q := 69) rfl rfl rfl ?_
        refine pm_R_br pm_M10 (pc_q := 85) (st_q := []) rfl rfl ?_
        refine pm_R_lo pm_M10 (pc_q := 86) rfl rfl rfl ?_
        refine pm_R_ifc pm_M10 (t := 95) (pc_q := 89) rfl rfl rfl (fun c837 => ?_) (fun c837 => ?_)
        · have B838 : sf_B (-2147483648) (-1) a1 := sf_ltL c837 (sf_any a1) sf_k0
          refine pm_R_op pm_M10 (pc_q := 97) (st_q := [.int (-2)]) rfl rfl rfl ?_
          have e839 := (F48.cell G (by decide) (by decide) (F26.cell G (by decide) (by decide) (F10.cell G (by decide) (by decide) e2)))
          exact pm_R_ret pm_M10 (r := some (.int (-2))) rfl rfl (K (-2) m46 h43 T44 (F49.weak (by decide) (by decide)) W66 (cl_aux91 _ B50.2 B50.1) ⟨_, e839, b3⟩ (sf_weak sf_kn2 (by decide) (by decide)))
        · have B840 : sf_B 0 2147483647 a1 := sf_leR (Int32.not_lt.mp c837) sf_k0 (sf_any a1)
          refine pm_R_lo pm_M10 (pc_q := 90) rfl rfl rfl ?_
          refine pm_R_lo pm_M10 (pc_q := 92) rfl rfl rfl ?_
          refine pm_R_icmp pm_M10 (t := 98) (pc_q := 95) rfl rfl rfl (fun c841 => ?_) (fun c841 => ?_)
          · have B842 : sf_B 0 1 a1 := sf_ltL c841 B840 B832
            have B843 : sf_B 1 2 z830 := sf_ltR c841 B840 B832
            refine pm_R_lo pm_M10 (pc_q := 100) rfl rfl rfl ?_
            refine pm_R_br pm_M10 (pc_q := 108) (st_q := []) rfl rfl ?_
            refine pm_R_lo pm_M10 (pc_q := 109) rfl rfl rfl ?_
            refine pm_R_lo pm_M10 (pc_q := 111) (ls_q := [.ref 16, .int 3, .int a1, .int (m 0), .int z830, .int 0, .int a1]) (st_q := []) rfl rfl rfl ?_
            refine pm_R_lo pm_M10 (pc_q := 112) rfl rfl rfl ?_
            refine pm_R_get pm_M10 (pc_q := 115) (v := .ref 25) rfl rfl T44.e16 (by decide) (T44.lt (by decide)) rfl rfl ?_
            refine pm_R_lo pm_M10 (pc_q := 116) rfl rfl rfl ?_
            refine pm_R_lo pm_M10 (pc_q := 117) (pm_q10_1 (Nat.le_of_ble_eq_true rfl)) rfl rfl ?_
            refine pm_R_cv pm_M10 (pc_q := 120) (a := 25) (ra := [.int 3, .int (m 0)]) (rest := []) (ls_q := [.ref 25, .int (m 0), .int 3, pm_no]) (pm_q10_1 (Nat.le_of_ble_eq_true rfl)) rfl (Or.inl rfl) pm_M11 T44.e25 rfl (by decide) (T44.lt (by decide)) rfl rfl (Nat.le_of_ble_eq_true rfl) rfl rfl ?_
            have e844 := (F48.cell G (by decide) (by decide) (F26.cell G (by decide) (by decide) (F10.cell G (by decide) (by decide) e2)))
            refine cl_c11_3 (d := d + 0) G T44 B4 ⟨_, e844, b3⟩ (fun m847 h848 T849 F850 W851 X852 X853 => ?_)
            have F854 := F49.trans (N := 0) (S := 0) F850 (by decide) (by decide) (by decide)
            have B855 : sf_B 0 0 (m847 0) := by rw [W851 0 (by decide)]; exact B50
            have ek856 : (m847 0).toInt = ((m8 0)).toInt := by rw [W851 0 (by decide)]; exact ek51
            have B857 : sf_B 0 0 (m847 1) := by rw [W851 1 (by decide)]; exact B62
            have ek858 : (m847 1).toInt = ((m24 1)).toInt := by rw [W851 1 (by decide)]; exact ek63
            have B859 : sf_B (-1) (-1) (m847 2) := by rw [W851 2 (by decide)]; exact B64
            have W860 : rf_W [0, 1, 2, 3, 4, 5, 6, 7, 8, 9, 10, 11, 12, 13] m m847 := W66.trans W851 (by decide)
            have B861 : sf_B 0 4 (m847 3) := T849.B 3
            have B862 : sf_B 0 50 (m847 5) := T849.B 5
            have B863 : sf_B 0 16 (m847 6) := T849.B 6
            have B864 : sf_B 0 99 (m847 7) := T849.B 7
            have B865 : sf_B (-1) 99 (m847 8) := T849.B 8
            show pm_R _ 10 120 [.ref 16, .int 3, .int a1, .int (m 0), .int z830, .int 0, .int a1] [] _ _
            obtain ⟨f866, e867, b868⟩ := id X853
            obtain ⟨f869, e870⟩ := T849.C 26 (by decide) (by decide)
            obtain ⟨f872, e873⟩ := T849.C 27 (by decide) (by decide)
            refine pm_R_lo pm_M10 (pc_q := 121) (pm_q10_1 (Nat.le_of_ble_eq_true rfl)) rfl rfl ?_
            refine pm_R_get pm_M10 (pc_q := 124) (v := .ref 17) (pm_q10_1 (Nat.le_of_ble_eq_true rfl)) rfl T849.e16 (by decide) (T849.lt (by decide)) rfl rfl ?_
            refine pm_R_lo pm_M10 (pc_q := 125) (pm_q10_1 (Nat.le_of_ble_eq_true rfl)) rfl rfl ?_
            refine pm_R_get pm_M10 (pc_q := 128) (v := .ref 25) (pm_q10_1 (Nat.le_of_ble_eq_true rfl)) rfl T849.e16 (by decide) (T849.lt (by decide)) rfl rfl ?_
            refine pm_R_get pm_M10 (pc_q := 131) (v := .int (m847 3)) (pm_q10_1 (Nat.le_of_ble_eq_true rfl)) rfl T849.e25 (by decide) (T849.lt (by decide)) rfl rfl ?_
            refine cl_R_put17 G pm_M10 T849 (k := 1) (pc_q := 134) (pm_q10_1 (Nat.le_of_ble_eq_true rfl)) rfl rfl (by decide) rfl rfl B861 rfl rfl rfl rfl rfl (fun h875 m878 em879 T876 F877 => ?_)
            have F880 := F877.cl (ck := ck) T849.1
            have F881 := F854.trans (N := 0) (S := 0) F880 (by decide) (by decide) (by decide)
            have B882 : sf_B 0 0 (m878 0) := by rw [em879]; exact B855
            have ek883 : (m878 0).toInt = ((m8 0)).toInt := by rw [em879]; exact ek856
            have B884 : sf_B (-1) (-1) (m878 2) := by rw [em879]; exact B859
            have B885 : sf_B 0 4 (m878 3) := by rw [em879]; exact B861
            have ek886 : (m878 3).toInt = ((m847 3)).toInt := by rw [em879]; rfl
            have B887 : sf_B 0 50 (m878 5) := by rw [em879]; exact B862
            have ek888 : (m878 5).toInt = ((m847 5)).toInt := by rw [em879]; rfl
            have B889 : sf_B 0 16 (m878 6) := by rw [em879]; exact B863
            have ek890 : (m878 6).toInt = ((m847 6)).toInt := by rw [em879]; rfl
            have B891 : sf_B 0 99 (m878 7) := by rw [em879]; exact B864
            have ek892 : (m878 7).toInt = ((m847 7)).toInt := by rw [em879]; rfl
            have B893 : sf_B (-1) 99 (m878 8) := by rw [em879]; exact B865
            have ek894 : (m878 8).toInt = ((m847 8)).toInt := by rw [em879]; rfl
            have B895 : sf_B 0 4 (m878 1) := by rw [em879]; exact B861
            have ek896 : (m878 1).toInt = ((m847 3)).toInt := by rw [em879]; rfl
            have W897 : rf_W [0, 1, 2, 3, 4, 5, 6, 7, 8, 9, 10, 11, 12, 13] m m878 := by rw [em879]; exact W860.put (by decide)
            refine pm_R_lo pm_M10 (pc_q := 135) (pm_q10_1 (Nat.le_of_ble_eq_true rfl)) rfl rfl ?_
            refine pm_R_get pm_M10 (pc_q := 138) (v := .ref 17) (pm_q10_1 (Nat.le_of_ble_eq_true rfl)) rfl T876.e16 (by decide) (T876.lt (by decide)) rfl rfl ?_
            refine pm_R_lo pm_M10 (pc_q := 139) (pm_q10_1 (Nat.le_of_ble_eq_true rfl)) rfl rfl ?_
            refine pm_R_get pm_M10 (pc_q := 142) (v := .ref 25) (pm_q10_1 (Nat.le_of_ble_eq_true rfl)) rfl T876.e16 (by decide) (T876.lt (by decide)) rfl rfl ?_
            have B898 : sf_B (-1) 600 (m878 4) := T876.B 4
            refine pm_R_get pm_M10 (pc_q := 145) (v := .int (m878 4)) (pm_q10_1 (Nat.le_of_ble_eq_true rfl)) rfl T876.e25 (by decide) (T876.lt (by decide)) rfl rfl ?_
            refine cl_R_put17 G pm_M10 T876 (k := 2) (pc_q := 148) (pm_q10_1 (Nat.le_of_ble_eq_true rfl)) rfl rfl (by decide) rfl rfl B898 rfl rfl rfl rfl rfl (fun h899 m902 em903 T900 F901 => ?_)
            have F904 := F901.cl (ck := ck) T876.1
            have F905 := F881.trans (N := 0) (S := 0) F904 (by decide) (by decide) (by decide)
            have B906 : sf_B 0 0 (m902 0) := by rw [em903]; exact B882
            have ek907 : (m902 0).toInt = ((m8 0)).toInt := by rw [em903]; exact ek883
            have B908 : sf_B 0 4 (m902 3) := by rw [em903]; exact B885
            have ek909 : (m902 3).toInt = ((m847 3)).toInt := by rw [em903]; exact ek886
            have B910 : sf_B 0 50 (m902 5) := by rw [em903]; exact B887
            have ek911 : (m902 5).toInt = ((m847 5)).toInt := by rw [em903]; exact ek888
            have B912 : sf_B 0 16 (m902 6) := by rw [em903]; exact B889
            have ek913 : (m902 6).toInt = ((m847 6)).toInt := by rw [em903]; exact ek890
            have B914 : sf_B 0 99 (m902 7) := by rw [em903]; exact B891
            have ek915 : (m902 7).toInt = ((m847 7)).toInt := by rw [em903]; exact ek892
            have B916 : sf_B (-1) 99 (m902 8) := by rw [em903]; exact B893
            have ek917 : (m902 8).toInt = ((m847 8)).toInt := by rw [em903]; exact ek894
            have B918 : sf_B 0 4 (m902 1) := by rw [em903]; exact B895
            have ek919 : (m902 1).toInt = ((m847 3)).toInt := by rw [em903]; exact ek896
            have B920 : sf_B (-1) 600 (m902 2) := by rw [em903]; exact B898
            have ek921 : (m902 2).toInt = ((m878 4)).toInt := by rw [em903]; rfl
            have W922 : rf_W [0, 1, 2, 3, 4, 5, 6, 7, 8, 9, 10, 11, 12, 13] m m902 := by rw [em903]; exact W897.put (by decide)
            refine pm_R_lo pm_M10 (pc_q := 149) (pm_q10_1 (Nat.le_of_ble_eq_true rfl)) rfl rfl ?_
            refine pm_R_get pm_M10 (pc_q := 152) (v := .ref 17) (pm_q10_1 (Nat.le_of_ble_eq_true rfl)) rfl T900.e16 (by decide) (T900.lt (by decide)) rfl rfl ?_
            refine pm_R_get pm_M10 (pc_q := 155) (v := .int (m847 3)) (pm_q10_1 (Nat.le_of_ble_eq_true rfl)) rfl T900.e17 (by decide) (T900.lt (by decide)) (congrArg (fun z => some (Value.int z)) (Int32.toInt_inj.mp (cl_aux3 _ _ ek919))) rfl ?_
            refine pm_R_ifc pm_M10 (t := 160) (pc_q := 158) (pm_q10_1 (Nat.le_of_ble_eq_true rfl)) rfl rfl (fun c923 => ?_) (fun c923 => ?_)
            · have B924 : sf_B 0 0 (m847 3) := sf_eqL c923 sf_k0
              refine pm_R_lo pm_M10 (pc_q := 161) (pm_q10_1 (Nat.le_of_ble_eq_true rfl)) rfl rfl ?_
              refine pm_R_lo pm_M10 (pc_q := 162) (pm_q10_1 (Nat.le_of_ble_eq_true rfl)) rfl rfl ?_
              refine pm_R_lo pm_M10 (pc_q := 164) (pm_q10_1 (Nat.le_of_ble_eq_true rfl)) rfl rfl ?_
              refine pm_R_cv pm_M10 (pc_q := 167) (a := 16) (ra := [.int a1, .int 3]) (rest := []) (ls_q := [.ref 16, .int 3, .int a1]) (pm_q10_1 (Nat.le_of_ble_eq_true rfl)) rfl (Or.inl rfl) pm_M43 T900.e16 rfl (by decide) (T900.lt (by decide)) rfl rfl (Nat.le_of_ble_eq_true rfl) rfl rfl ?_
              have z925 : (m847 3).toInt = 0 := (cl_aux87 _ _ _ ek919 ek909 (congrArg Int32.toInt c923))
              have e926 := (F904.cell G (by decide) (by decide) (F880.cell G (by decide) (by decide) e870))
              have e927 := (F904.cell G (by decide) (by decide) (F880.cell G (by decide) (by decide) e873))
              obtain ⟨f928, e929, b930⟩ := T900.C 22 (by decide) (by decide)
              have e931 := (F904.cell G (by decide) (by decide) (F880.cell G (by decide) (by decide) (F850.cell G (by decide) (by decide) e834)))
              have e932 := (F904.cell G (by decide) (by decide) (F880.cell G (by decide) (by decide) e867))
              have F933 := F905
              refine cl_c43_3 (d := d + 6) G T900 ⟨_, e932, b868⟩ e926 ((X852.at z925 e870 e873).keep (cl_aux3 _ _ ek911) (cl_aux3 _ _ ek913) (cl_aux3 _ _ ek915) (cl_aux3 _ _ ek917)) e929 (sf_in B842 (by decide) (by decide)) (fun t934 ck E h935 lt936 lE937 G T938 F939 e940 low941 => ?_)
              have F942 := F933.ck (fun b hb => (lt936 b hb).symm) F933.2.1
              have F943 := F939.ck (fun b hb => (lt936 b hb).symm) (Nat.le_refl _)
              have gr944 := fun (b : Nat) (hb : b < h.1) => lt936 b (Nat.lt_of_lt_of_le hb F933.2.1)
              have gE945 := fun (b : Nat) (hb : b < h.1) => lE937 b (Nat.lt_of_lt_of_le hb F933.2.1)
              have F946 := F942.trans (N := 2) (S := 34) F943 (by decide) (by decide) (by decide)
              have e947 := (low941 23 (by decide) (by decide)).trans e931
              have e948 := (low941 28 (by decide) (by decide)).trans e932
              show pm_R _ 10 167 [.ref 16, .int 3, .int a1, .int (m 0), .int z830, .int 0, .int a1] [] _ _
              refine pm_R_lo pm_M10 (pc_q := 169) (pm_q10_1 (Nat.le_of_ble_eq_true rfl)) rfl rfl ?_
              refine pm_R_br pm_M10 (pc_q := 185) (st_q := []) (pm_q10_1 (Nat.le_of_ble_eq_true rfl)) rfl ?_
              refine pm_R_lo pm_M10 (pc_q := 187) (pm_q10_1 (Nat.le_of_ble_eq_true rfl)) rfl rfl ?_
              exact pm_R_ret pm_M10 (r := some (.int a1)) (pm_q10_1 (Nat.le_of_ble_eq_true rfl)) (pm_ret_i _) (K2 a1 m902 o ck E h935 gr944 gE945 G T938 ((F946.weak (by decide) (by decide)).ck gr944 (Nat.le_refl _)) W922 (cl_aux91 _ B906.2 B906.1) ⟨_, e948, b868⟩)
            · have B949 : sf_B 1 4 (m847 3) := sf_neL0 c923 sf_k0 B861
              refine pm_R_op pm_M10 (pc_q := 159) (st_q := [.int (-1)]) (pm_q10_1 (Nat.le_of_ble_eq_true rfl)) rfl rfl ?_
              have e950 := (F904.cell G (by decide) (by decide) (F880.cell G (by decide) (by decide) e867))
              exact pm_R_ret pm_M10 (r := some (.int (-1))) (pm_q10_1 (Nat.le_of_ble_eq_true rfl)) rfl (K (-1) m902 h899 T900 (F905.weak (by decide) (by decide)) W922 (cl_aux91 _ B906.2 B906.1) ⟨_, e950, b868⟩ (sf_weak sf_kn1 (by decide) (by decide)))
          · skip
            refine pm_R_op pm_M10 (pc_q := 97) (st_q := [.int (-2)]) rfl rfl rfl ?_
            have e951 := (F48.cell G (by decide) (by decide) (F26.cell G (by decide) (by decide) (F10.cell G (by decide) (by decide) e2)))
            exact pm_R_ret pm_M10 (r := some (.int (-2))) rfl rfl (K (-2) m46 h43 T44 (F49.weak (by decide) (by decide)) W66 (cl_aux91 _ B50.2 B50.1) ⟨_, e951, b3⟩ (sf_weak sf_kn2 (by decide) (by decide)))
      · have B952 : sf_B (-1) (-1) a1 := sf_eqL (Classical.not_not.mp c836) sf_kn1
        refine pm_R_op pm_M10 (pc_q := 61) (st_q := [.int 1]) rfl rfl rfl ?_
        refine pm_R_br pm_M10 (pc_q := 65) rfl rfl ?_
        refine pm_R_lo pm_M10 (pc_q := 67) (ls_q := [.ref 16, .int 3, .int a1, .int (m 0), .int z830, .int 1, pm_no]) (st_q := []) rfl rfl rfl ?_
        refine pm_R_lo pm_M10 (pc_q := 69) rfl rfl rfl ?_
        refine pm_R_br pm_M10 (pc_q := 72) (st_q := []) rfl rfl ?_
        refine pm_R_lo pm_M10 (pc_q := 74) rfl rfl rfl ?_
        refine pm_R_stat pm_M10 (pc_q := 77) rfl rfl rfl ?_
        refine pm_R_lo pm_M10 (pc_q := 78) rfl rfl rfl ?_
        refine pm_R_iald pm_M10 (pc_q := 79) (v := 2) rfl ((T44.old (by decide)).trans G.tb1) (T44.lt (by decide)) rfl rfl rfl ?_
        refine pm_R_icmp pm_M10 (t := 98) (pc_q := 82) rfl rfl rfl (fun c956 => ?_) (fun c956 => ?_)
        · have B957 : sf_B 0 1 z830 := sf_ltL c956 B832 sf_k2
          refine pm_R_lo pm_M10 (pc_q := 100) rfl rfl rfl ?_
          refine pm_R_br pm_M10 (pc_q := 103) (st_q := []) rfl rfl ?_
          refine pm_R_lo pm_M10 (pc_q := 105) rfl rfl rfl ?_
          refine pm_R_br pm_M10 (pc_q := 109) rfl rfl ?_
          refine pm_R_lo pm_M10 (pc_q := 111) (ls_q := [.ref 16, .int 3, .int a1, .int (m 0), .int z830, .int 1, .int z830]) (st_q := []) rfl rfl rfl ?_
          refine pm_R_lo pm_M10 (pc_q := 112) rfl rfl rfl ?_
          refine pm_R_get pm_M10 (pc_q := 115) (v := .ref 25) rfl rfl T44.e16 (by decide) (T44.lt (by decide)) rfl rfl ?_
          refine pm_R_lo pm_M10 (pc_q := 116) rfl rfl rfl ?_
          refine pm_R_lo pm_M10 (pc_q := 117) (pm_q10_1 (Nat.le_of_ble_eq_true rfl)) rfl rfl ?_
          refine pm_R_cv pm_M10 (pc_q := 120) (a := 25) (ra := [.int 3, .int (m 0)]) (rest := []) (ls_q := [.ref 25, .int (m 0), .int 3, pm_no]) (pm_q10_1 (Nat.le_of_ble_eq_true rfl)) rfl (Or.inl rfl) pm_M11 T44.e25 rfl (by decide) (T44.lt (by decide)) rfl rfl (Nat.le_of_ble_eq_true rfl) rfl rfl ?_
          have e958 := (F48.cell G (by decide) (by decide) (F26.cell G (by decide) (by decide) (F10.cell G (by decide) (by decide) e2)))
          refine cl_c11_3 (d := d + 0) G T44 B4 ⟨_, e958, b3⟩ (fun m961 h962 T963 F964 W965 X966 X967 => ?_)
          have F968 := F49.trans (N := 0) (S := 0) F964 (by decide) (by decide) (by decide)
          have B969 : sf_B 0 0 (m961 0) := by rw [W965 0 (by decide)]; exact B50
          have ek970 : (m961 0).toInt = ((m8 0)).toInt := by rw [W965 0 (by decide)]; exact ek51
          have B971 : sf_B 0 0 (m961 1) := by rw [W965 1 (by decide)]; exact B62
          have ek972 : (m961 1).toInt = ((m24 1)).toInt := by rw [W965 1 (by decide)]; exact ek63
          have B973 : sf_B (-1) (-1) (m961 2) := by rw [W965 2 (by decide)]; exact B64
          have W974 : rf_W [0, 1, 2, 3, 4, 5, 6, 7, 8, 9, 10, 11, 12, 13] m m961 := W66.trans W965 (by decide)
          have B975 : sf_B 0 4 (m961 3) := T963.B 3
          have B976 : sf_B 0 50 (m961 5) := T963.B 5
          have B977 : sf_B 0 16 (m961 6) := T963.B 6
          have B978 : sf_B 0 99 (m961 7) := T963.B 7
          have B979 : sf_B (-1) 99 (m961 8) := T963.B 8
          show pm_R _ 10 120 [.ref 16, .int 3, .int a1, .int (m 0), .int z830, .int 1, .int z830] [] _ _
          obtain ⟨f980, e981, b982⟩ := id X967
          obtain ⟨f983, e984⟩ := T963.C 26 (by decide) (by decide)
          obtain ⟨f986, e987⟩ := T963.C 27 (by decide) (by decide)
          refine pm_R_lo pm_M10 (pc_q := 121) (pm_q10_1 (Nat.le_of_ble_eq_true rfl)) rfl rfl ?_
          refine pm_R_get pm_M10 (pc_q := 124) (v := .ref 17) (pm_q10_1 (Nat.le_of_ble_eq_true rfl)) rfl T963.e16 (by decide) (T963.lt (by decide)) rfl rfl ?_
          refine pm_R_lo pm_M10 (pc_q := 125) (pm_q10_1 (Nat.le_of_ble_eq_true rfl)) rfl rfl ?_
          refine pm_R_get pm_M10 (pc_q := 128) (v := .ref 25) (pm_q10_1 (Nat.le_of_ble_eq_true rfl)) rfl T963.e16 (by decide) (T963.lt (by decide)) rfl rfl ?_
          refine pm_R_get pm_M10 (pc_q := 131) (v := .int (m961 3)) (pm_q10_1 (Nat.le_of_ble_eq_true rfl)) rfl T963.e25 (by decide) (T963.lt (by decide)) rfl rfl ?_
          refine cl_R_put17 G pm_M10 T963 (k := 1) (pc_q := 134) (pm_q10_1 (Nat.le_of_ble_eq_true rfl)) rfl rfl (by decide) rfl rfl B975 rfl rfl rfl rfl rfl (fun h989 m992 em993 T990 F991 => ?_)
          have F994 := F991.cl (ck := ck) T963.1
          have F995 := F968.trans (N := 0) (S := 0) F994 (by decide) (by decide) (by decide)
          have B996 : sf_B 0 0 (m992 0) := by rw [em993]; exact B969
          have ek997 : (m992 0).toInt = ((m8 0)).toInt := by rw [em993]; exact ek970
          have B998 : sf_B (-1) (-1) (m992 2) := by rw [em993]; exact B973
          have B999 : sf_B 0 4 (m992 3) := by rw [em993]; exact B975
          have ek1000 : (m992 3).toInt = ((m961 3)).toInt := by rw [em993]; rfl
          have B1001 : sf_B 0 50 (m992 5) := by rw [em993]; exact B976
          have ek1002 : (m992 5).toInt = ((m961 5)).toInt := by rw [em993]; rfl
          have B1003 : sf_B 0 16 (m992 6) := by rw [em993]; exact B977
          have ek1004 : (m992 6).toInt = ((m961 6)).toInt := by rw [em993]; rfl
          have B1005 : sf_B 0 99 (m992 7) := by rw [em993]; exact B978
          have ek1006 : (m992 7).toInt = ((m961 7)).toInt := by rw [em993]; rfl
          have B1007 : sf_B (-1) 99 (m992 8) := by rw [em993]; exact B979
          have ek1008 : (m992 8).toInt = ((m961 8)).toInt := by rw [em993]; rfl
          have B1009 : sf_B 0 4 (m992 1) := by rw [em993]; exact B975
          have ek1010 : (m992 1).toInt = ((m961 3)).toInt := by rw [em993]; rfl
          have W1011 : rf_W [0, 1, 2, 3, 4, 5, 6, 7, 8, 9, 10, 11, 12, 13] m m992 := by rw [em993]; exact W974.put (by decide)
          refine pm_R_lo pm_M10 (pc_q := 135) (pm_q10_1 (Nat.le_of_ble_eq_true rfl)) rfl rfl ?_
          refine pm_R_get pm_M10 (pc_q := 138) (v := .ref 17) (pm_q10_1 (Nat.le_of_ble_eq_true rfl)) rfl T990.e16 (by decide) (T990.lt (by decide)) rfl rfl ?_
          refine pm_R_lo pm_M10 (pc_q := 139) (pm_q10_1 (Nat.le_of_ble_eq_true rfl)) rfl rfl ?_
          refine pm_R_get pm_M10 (pc_q := 142) (v := .ref 25) (pm_q10_1 (Nat.le_of_ble_eq_true rfl)) rfl T990.e16 (by decide) (T990.lt (by decide)) rfl rfl ?_
          have B1012 : sf_B (-1) 600 (m992 4) := T990.B 4
          refine pm_R_get pm_M10 (pc_q := 145) (v := .int (m992 4)) (pm_q10_1 (Nat.le_of_ble_eq_true rfl)) rfl T990.e25 (by decide) (T990.lt (by decide)) rfl rfl ?_
          refine cl_R_put17 G pm_M10 T990 (k := 2) (pc_q := 148) (pm_q10_1 (Nat.le_of_ble_eq_true rfl)) rfl rfl (by decide) rfl rfl B1012 rfl rfl rfl rfl rfl (fun h1013 m1016 em1017 T1014 F1015 => ?_)
          have F1018 := F1015.cl (ck := ck) T990.1
          have F1019 := F995.trans (N := 0) (S := 0) F1018 (by decide) (by decide) (by decide)
          have B1020 : sf_B 0 0 (m1016 0) := by rw [em1017]; exact B996
          have ek1021 : (m1016 0).toInt = ((m8 0)).toInt := by rw [em1017]; exact ek997
          have B1022 : sf_B 0 4 (m1016 3) := by rw [em1017]; exact B999
          have ek1023 : (m1016 3).toInt = ((m961 3)).toInt := by rw [em1017]; exact ek1000
          have B1024 : sf_B 0 50 (m1016 5) := by rw [em1017]; exact B1001
          have ek1025 : (m1016 5).toInt = ((m961 5)).toInt := by rw [em1017]; exact ek1002
          have B1026 : sf_B 0 16 (m1016 6) := by rw [em1017]; exact B1003
          have ek1027 : (m1016 6).toInt = ((m961 6)).toInt := by rw [em1017]; exact ek1004
          have B1028 : sf_B 0 99 (m1016 7) := by rw [em1017]; exact B1005
          have ek1029 : (m1016 7).toInt = ((m961 7)).toInt := by rw [em1017]; exact ek1006
          have B1030 : sf_B (-1) 99 (m1016 8) := by rw [em1017]; exact B1007
          have ek1031 : (m1016 8).toInt = ((m961 8)).toInt := by rw [em1017]; exact ek1008
          have B1032 : sf_B 0 4 (m1016 1) := by rw [em1017]; exact B1009
          have ek1033 : (m1016 1).toInt = ((m961 3)).toInt := by rw [em1017]; exact ek1010
          have B1034 : sf_B (-1) 600 (m1016 2) := by rw [em1017]; exact B1012
          have ek1035 : (m1016 2).toInt = ((m992 4)).toInt := by rw [em1017]; rfl
          have W1036 : rf_W [0, 1, 2, 3, 4, 5, 6, 7, 8, 9, 10, 11, 12, 13] m m1016 := by rw [em1017]; exact W1011.put (by decide)
          refine pm_R_lo pm_M10 (pc_q := 149) (pm_q10_1 (Nat.le_of_ble_eq_true rfl)) rfl rfl ?_
          refine pm_R_get pm_M10 (pc_q := 152) (v := .ref 17) (pm_q10_1 (Nat.le_of_ble_eq_true rfl)) rfl T1014.e16 (by decide) (T1014.lt (by decide)) rfl rfl ?_
          refine pm_R_get pm_M10 (pc_q := 155) (v := .int (m961 3)) (pm_q10_1 (Nat.le_of_ble_eq_true rfl)) rfl T1014.e17 (by decide) (T1014.lt (by decide)) (congrArg (fun z => some (Value.int z)) (Int32.toInt_inj.mp (cl_aux3 _ _ ek1033))) rfl ?_
          refine pm_R_ifc pm_M10 (t := 160) (pc_q := 158) (pm_q10_1 (Nat.le_of_ble_eq_true rfl)) rfl rfl (fun c1037 => ?_) (fun c1037 => ?_)
          · have B1038 : sf_B 0 0 (m961 3) := sf_eqL c1037 sf_k0
            refine pm_R_lo pm_M10 (pc_q := 161) (pm_q10_1 (Nat.le_of_ble_eq_true rfl)) rfl rfl ?_
            refine pm_R_lo pm_M10 (pc_q := 162) (pm_q10_1 (Nat.le_of_ble_eq_true rfl)) rfl rfl ?_
            refine pm_R_lo pm_M10 (pc_q := 164) (pm_q10_1 (Nat.le_of_ble_eq_true rfl)) rfl rfl ?_
            refine pm_R_cv pm_M10 (pc_q := 167) (a := 16) (ra := [.int z830, .int 3]) (rest := []) (ls_q := [.ref 16, .int 3, .int z830]) (pm_q10_1 (Nat.le_of_ble_eq_true rfl)) rfl (Or.inl rfl) pm_M43 T1014.e16 rfl (by decide) (T1014.lt (by decide)) rfl rfl (Nat.le_of_ble_eq_true rfl) rfl rfl ?_
            have z1039 : (m961 3).toInt = 0 := (cl_aux87 _ _ _ ek1033 ek1023 (congrArg Int32.toInt c1037))
            have e1040 := (F1018.cell G (by decide) (by decide) (F994.cell G (by decide) (by decide) e984))
            have e1041 := (F1018.cell G (by decide) (by decide) (F994.cell G (by decide) (by decide) e987))
            obtain ⟨f1042, e1043, b1044⟩ := T1014.C 22 (by decide) (by decide)
            have e1045 := (F1018.cell G (by decide) (by decide) (F994.cell G (by decide) (by decide) (F964.cell G (by decide) (by decide) e834)))
            have e1046 := (F1018.cell G (by decide) (by decide) (F994.cell G (by decide) (by decide) e981))
            have F1047 := F1019
            refine cl_c43_3 (d := d + 6) G T1014 ⟨_, e1046, b982⟩ e1040 ((X966.at z1039 e984 e987).keep (cl_aux3 _ _ ek1025) (cl_aux3 _ _ ek1027) (cl_aux3 _ _ ek1029) (cl_aux3 _ _ ek1031)) e1043 (sf_in B957 (by decide) (by decide)) (fun t1048 ck E h1049 lt1050 lE1051 G T1052 F1053 e1054 low1055 => ?_)
            have F1056 := F1047.ck (fun b hb => (lt1050 b hb).symm) F1047.2.1
            have F1057 := F1053.ck (fun b hb => (lt1050 b hb).symm) (Nat.le_refl _)
            have gr1058 := fun (b : Nat) (hb : b < h.1) => lt1050 b (Nat.lt_of_lt_of_le hb F1047.2.1)
            have gE1059 := fun (b : Nat) (hb : b < h.1) => lE1051 b (Nat.lt_of_lt_of_le hb F1047.2.1)
            have F1060 := F1056.trans (N := 2) (S := 34) F1057 (by decide) (by decide) (by decide)
            have e1061 := (low1055 23 (by decide) (by decide)).trans e1045
            have e1062 := (low1055 28 (by decide) (by decide)).trans e1046
            show pm_R _ 10 167 [.ref 16, .int 3, .int a1, .int (m 0), .int z830, .int 1, .int z830] [] _ _
            refine pm_R_lo pm_M10 (pc_q := 169) (pm_q10_1 (Nat.le_of_ble_eq_true rfl)) rfl rfl ?_
            refine pm_R_br pm_M10 (pc_q := 172) (st_q := []) (pm_q10_1 (Nat.le_of_ble_eq_true rfl)) rfl ?_
            refine pm_R_lo pm_M10 (pc_q := 173) (pm_q10_1 (Nat.le_of_ble_eq_true rfl)) rfl rfl ?_
            refine pm_R_get pm_M10 (pc_q := 176) (v := .ref 17) (pm_q10_1 (Nat.le_of_ble_eq_true rfl)) rfl T1052.e16 (by decide) (T1052.lt (by decide)) rfl rfl ?_
            refine pm_R_get pm_M10 (pc_q := 179) (v := .ref 23) (pm_q10_1 (Nat.le_of_ble_eq_true rfl)) rfl T1052.e17 (by decide) (T1052.lt (by decide)) rfl rfl ?_
            refine pm_R_lo pm_M10 (pc_q := 180) (pm_q10_1 (Nat.le_of_ble_eq_true rfl)) rfl rfl ?_
            refine pm_R_op pm_M10 (pc_q := 181) (st_q := [.int 3, .ref 23, .int 3, .ref 23]) (pm_q10_1 (Nat.le_of_ble_eq_true rfl)) rfl rfl ?_
            refine pm_R_iald pm_M10 (pc_q := 182) (v := z830) (pm_q10_1 (Nat.le_of_ble_eq_true rfl)) e1061 (T1052.lt (by decide)) rfl ez831 rfl ?_
            refine pm_R_op pm_M10 (pc_q := 183) (st_q := [.int 1, .int z830, .int 3, .ref 23]) (pm_q10_1 (Nat.le_of_ble_eq_true rfl)) rfl rfl ?_
            refine sf_R_iadd pm_M10 (pc_q := 184) (pm_q10_1 (Nat.le_of_ble_eq_true rfl)) rfl B957 sf_k1 (by decide) (by decide) (fun z1066 e1067 B1068 => ?_)
            refine cl_R_cnt22 G pm_M10 T1052 (pc_q := 185) (pm_q10_1 (Nat.le_of_ble_eq_true rfl)) e1061 e1054 ⟨_, by rw [show f833 3 = z830 from ez831]; exact cl_upS⟩ (by rw [show f833 3 = z830 from ez831]; exact (cl_aux88 _ _ e1067)) (Int.le_trans B1068.2 (by decide)) rfl (fun h1069 T1070 F1071 => ?_)
            have F1072 := F1071.cl (ck := ck) T1052.1
            have F1073 := F1060.trans (N := 2) (S := 34) F1072 (by decide) (by decide) (by decide)
            refine pm_R_lo pm_M10 (pc_q := 187) (pm_q10_1 (Nat.le_of_ble_eq_true rfl)) rfl rfl ?_
            have e1074 := (F1072.cell G (by decide) (by decide) e1062)
            exact pm_R_ret pm_M10 (r := some (.int z830)) (pm_q10_1 (Nat.le_of_ble_eq_true rfl)) (pm_ret_i _) (K2 z830 m1016 o ck E h1069 gr1058 gE1059 G T1070 ((F1073.weak (by decide) (by decide)).ck gr1058 (Nat.le_refl _)) W1036 (cl_aux91 _ B1020.2 B1020.1) ⟨_, e1074, b982⟩)
          · have B1075 : sf_B 1 4 (m961 3) := sf_neL0 c1037 sf_k0 B975
            refine pm_R_op pm_M10 (pc_q := 159) (st_q := [.int (-1)]) (pm_q10_1 (Nat.le_of_ble_eq_true rfl)) rfl rfl ?_
            have e1076 := (F1018.cell G (by decide) (by decide) (F994.cell G (by decide) (by decide) e981))
            exact pm_R_ret pm_M10 (r := some (.int (-1))) (pm_q10_1 (Nat.le_of_ble_eq_true rfl)) rfl (K (-1) m1016 h1013 T1014 (F1019.weak (by decide) (by decide)) W1036 (cl_aux91 _ B1020.2 B1020.1) ⟨_, e1076, b982⟩ (sf_weak sf_kn1 (by decide) (by decide)))
        · have B1077 : sf_B 2 2 z830 := sf_leR (Int32.not_lt.mp c956) sf_k2 B832
          refine pm_R_br pm_M10 (pc_q := 95) rfl rfl ?_
          refine pm_R_op pm_M10 (pc_q := 97) (st_q := [.int (-2)]) rfl rfl rfl ?_
          have e1078 := (F48.cell G (by decide) (by decide) (F26.cell G (by decide) (by decide) (F10.cell G (by decide) (by decide) e2)))
          exact pm_R_ret pm_M10 (r := some (.int (-2))) rfl rfl (K (-2) m46 h43 T44 (F49.weak (by decide) (by decide)) W66 (cl_aux91 _ B50.2 B50.1) ⟨_, e1078, b3⟩ (sf_weak sf_kn2 (by decide) (by decide)))
    · have B1079 : sf_B 4 2147483647 a0 := sf_leR (Int32.not_lt.mp c71) sf_k4 B70
      refine pm_R_op pm_M10 (pc_q := 43) (st_q := [.int (-2)]) rfl rfl rfl ?_
      have e1080 := (F48.cell G (by decide) (by decide) (F26.cell G (by decide) (by decide) (F10.cell G (by decide) (by decide) e2)))
      exact pm_R_ret pm_M10 (r := some (.int (-2))) rfl rfl (K (-2) m46 h43 T44 (F49.weak (by decide) (by decide)) W66 (cl_aux91 _ B50.2 B50.1) ⟨_, e1080, b3⟩ (sf_weak sf_kn2 (by decide) (by decide)))
