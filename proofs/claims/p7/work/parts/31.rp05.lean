set_option maxRecDepth 100000 in
set_option maxHeartbeats 4000000 in
/-- SilentTableModel.houseLine -/
theorem rf_c192 {d : Nat} {m : Nat → Int32} {w : Int64} {h : pm_H} {Q : Option Value → pm_H → Prop} {a0 : Int64} {a1 : Int32} (T : rf_T m w h) (Ba1 : sf_B 0 600 a1) (X : rf_I 3 (m 17) h) (K0 : ∀ (m_q : Nat → Int32) (w_q : Int64) (h_q : pm_H), rf_T m_q w_q h_q → rf_G [41, 51, 52] h h_q → rf_W [10, 12, 13, 14, 16, 17, 18, 22] m m_q → (m 10).toInt ≤ (m_q 10).toInt → Q (some (.int 0)) h_q) (K1 : ∀ (m_q : Nat → Int32) (w_q : Int64) (h_q : pm_H), rf_T m_q w_q h_q → rf_G [41, 51, 52] h h_q → rf_W [10, 12, 13, 14, 16, 17, 18, 22] m m_q → rf_I 3 (m_q 17) h_q → (m 10).toInt ≤ (m_q 10).toInt → Q (some (.int 1)) h_q) : pm_R (d + 3) 192 0 [.ref 41, .long a0, pm_no, .int a1, pm_no] [] h Q := by
  have B1 : sf_B 0 600 (m 10) := T.2.2.1 10
  obtain ⟨f2, e3, ct4, bd5⟩ := X
  have B6 : sf_B 0 4 (m 17) := T.2.2.1 17
  refine pm_R_lo pm_M192 (pc_q := 1) rfl rfl rfl ?_
  refine pm_R_ldc2 pm_M192 (pc_q := 4) rfl rfl rfl ?_
  refine sf_R_lcmp pm_M192 (pc_q := 5) rfl rfl (fun z7 e8 => ?_)
  refine pm_R_ifc pm_M192 (t := 12) (pc_q := 8) rfl rfl rfl (fun c9 => ?_) (fun c9 => ?_)
  · have k10 := sf_lneC e8 c9
    refine pm_R_lo pm_M192 (pc_q := 13) rfl rfl rfl ?_
    refine pm_R_ldc2 pm_M192 (pc_q := 16) rfl rfl rfl ?_
    refine sf_R_lcmp pm_M192 (pc_q := 17) rfl rfl (fun z11 e12 => ?_)
    refine pm_R_ifc pm_M192 (t := 24) (pc_q := 20) rfl rfl rfl (fun c13 => ?_) (fun c13 => ?_)
    · have k14 := sf_lneC e12 c13
      refine pm_R_lo pm_M192 (pc_q := 25) rfl rfl rfl ?_
      refine pm_R_ldc2 pm_M192 (pc_q := 28) rfl rfl rfl ?_
      refine sf_R_lcmp pm_M192 (pc_q := 29) rfl rfl (fun z15 e16 => ?_)
      refine pm_R_ifc pm_M192 (t := 36) (pc_q := 32) rfl rfl rfl (fun c17 => ?_) (fun c17 => ?_)
      · have k18 := sf_lneC e16 c17
        refine pm_R_lo pm_M192 (pc_q := 37) rfl rfl rfl ?_
        refine pm_R_ldc2 pm_M192 (pc_q := 40) rfl rfl rfl ?_
        refine sf_R_lcmp pm_M192 (pc_q := 41) rfl rfl (fun z19 e20 => ?_)
        refine pm_R_ifc pm_M192 (t := 48) (pc_q := 44) rfl rfl rfl (fun c21 => ?_) (fun c21 => ?_)
        · have k22 := sf_lneC e20 c21
          refine pm_R_lo pm_M192 (pc_q := 49) rfl rfl rfl ?_
          refine pm_R_ldc2 pm_M192 (pc_q := 52) rfl rfl rfl ?_
          refine sf_R_lcmp pm_M192 (pc_q := 53) rfl rfl (fun z23 e24 => ?_)
          refine pm_R_ifc pm_M192 (t := 60) (pc_q := 56) rfl rfl rfl (fun c25 => ?_) (fun c25 => ?_)
          · have k26 := sf_lneC e24 c25
            refine pm_R_lo pm_M192 (pc_q := 61) rfl rfl rfl ?_
            refine pm_R_ldc2 pm_M192 (pc_q := 64) rfl rfl rfl ?_
            refine sf_R_lcmp pm_M192 (pc_q := 65) rfl rfl (fun z27 e28 => ?_)
            refine pm_R_ifc pm_M192 (t := 72) (pc_q := 68) rfl rfl rfl (fun c29 => ?_) (fun c29 => ?_)
            · have k30 := sf_lneC e28 c29
              refine pm_R_op pm_M192 (pc_q := 73) (st_q := [.int (-1)]) rfl rfl rfl ?_
              refine pm_R_lo pm_M192 (pc_q := 75) (ls_q := [.ref 41, .long a0, pm_no, .int a1, .int (-1)]) (st_q := []) rfl rfl rfl ?_
              refine pm_R_lo pm_M192 (pc_q := 77) rfl rfl rfl ?_
              refine pm_R_op pm_M192 (pc_q := 78) (st_q := [.int (-1), .int (-1)]) rfl rfl rfl ?_
              refine pm_R_br pm_M192 (pc_q := 81) (st_q := []) rfl rfl ?_
              refine pm_R_lo pm_M192 (pc_q := 82) rfl rfl rfl ?_
              refine pm_R_cv pm_M192 (pc_q := 85) (a := 41) (ra := []) (rest := []) (ls_q := [.ref 41]) rfl rfl (Or.inl rfl) pm_M184 T.2.1 rfl (by decide) (Nat.lt_of_lt_of_le (by decide) T.1) rfl rfl (Nat.le_of_ble_eq_true rfl) rfl rfl ?_
              refine pm_R_lo pm_M184 (pc_q := 1) rfl rfl rfl ?_
              refine pm_R_lo pm_M184 (pc_q := 2) rfl rfl rfl ?_
              have B31 : sf_B 0 600 (m 12) := T.2.2.1 12
              refine rf_R_get pm_M184 T (pc_q := 5) (v := .int (m 12)) rfl rfl rfl rfl ?_
              refine rf_R_put pm_M184 T (pc_q := 8) rfl rfl rfl (by decide) rfl rfl B31 rfl rfl (fun h32 m35 em36 T33 F34 => ?_)
              have F37 := (rf_G.refl [41, 51, 52] h).trans F34 (by decide)
              have B38 : sf_B 0 600 (m35 10) := by rw [em36]; exact B1
              have ek39 : (m35 10).toInt = ((m 10)).toInt := by rw [em36]; rfl
              have B40 : sf_B 0 4 (m35 17) := by rw [em36]; exact B6
              have ek41 : (m35 17).toInt = ((m 17)).toInt := by rw [em36]; rfl
              have B42 : sf_B 0 600 (m35 16) := by rw [em36]; exact B31
              have ek43 : (m35 16).toInt = ((m 12)).toInt := by rw [em36]; rfl
              have W44 : rf_W [10, 12, 13, 14, 16, 17, 18, 22] m m35 := by rw [em36]; exact (rf_W.refl [10, 12, 13, 14, 16, 17, 18, 22] m).put (by decide)
              have B45 : sf_B 0 4 (m35 13) := T33.2.2.1 13
              have B46 : sf_B 0 1 (m35 22) := T33.2.2.1 22
              refine pm_R_op pm_M184 (pc_q := 9) (st_q := [.int 0]) rfl rfl rfl ?_
              refine pm_R_ret pm_M184 (r := some (.int 0)) rfl rfl ?_
              show pm_R _ 192 85 [.ref 41, .long a0, pm_no, .int a1, .int (-1)] [.int 0] _ _
              exact pm_R_ret pm_M192 (r := some (.int 0)) rfl rfl (K0 m35 w h32 T33 F37 W44 (sf_aux52 _ _ ek39))
            · have B47 : sf_B 0 0 z27 := sf_eqL (Classical.not_not.mp c29) sf_k0
              have B48 : lf_B 1936024942 1936024942 a0 := lf_eqB e28 B47 (⟨by decide, by decide⟩ : lf_B 1936024942 1936024942 1936024942)
              refine pm_R_op pm_M192 (pc_q := 69) (st_q := [.int 5]) rfl rfl rfl ?_
              refine pm_R_br pm_M192 (pc_q := 73) rfl rfl ?_
              refine pm_R_lo pm_M192 (pc_q := 75) (ls_q := [.ref 41, .long a0, pm_no, .int a1, .int 5]) (st_q := []) rfl rfl rfl ?_
              refine pm_R_lo pm_M192 (pc_q := 77) rfl rfl rfl ?_
              refine pm_R_op pm_M192 (pc_q := 78) (st_q := [.int (-1), .int 5]) rfl rfl rfl ?_
              refine pm_R_br pm_M192 (pc_q := 86) (st_q := []) rfl rfl ?_
              refine pm_R_lo pm_M192 (pc_q := 87) rfl rfl rfl ?_
              refine rf_R_get pm_M192 T (pc_q := 90) (v := .ref 51) rfl rfl rfl rfl ?_
              refine pm_R_op pm_M192 (pc_q := 91) (st_q := [.int 0, .ref 51]) rfl rfl rfl ?_
              refine pm_R_iald pm_M192 (pc_q := 92) (v := (f2 0)) rfl e3 (Nat.lt_of_lt_of_le (by decide) T.1) rfl rfl rfl ?_
              refine pm_R_op pm_M192 (pc_q := 94) (st_q := [.int 8, .int (f2 0)]) rfl rfl rfl ?_
              refine pm_R_icmp pm_M192 (t := 103) (pc_q := 97) rfl rfl rfl (fun c51 => ?_) (fun c51 => ?_)
              · have B52 : sf_B 0 7 (f2 0) := sf_neH0 c51 sf_k8 ct4
                refine pm_R_lo pm_M192 (pc_q := 104) rfl rfl rfl ?_
                refine pm_R_cv pm_M192 (pc_q := 107) (a := 41) (ra := []) (rest := []) (ls_q := [.ref 41, pm_no, pm_no]) rfl rfl (Or.inl rfl) pm_M179 T.2.1 rfl (by decide) (Nat.lt_of_lt_of_le (by decide) T.1) rfl rfl (Nat.le_of_ble_eq_true rfl) rfl rfl ?_
                refine rf_c179 (d := d + 1) T  (fun m55 w56 h57 T58 F59 W60 X61 X62 => ?_)
                have F63 := (rf_G.refl [41, 51, 52] h).trans F59 (by decide)
                have B64 : sf_B 0 4 (m55 17) := by rw [W60 17 (by decide)]; exact B6
                have ek65 : (m55 17).toInt = ((m 17)).toInt := by rw [W60 17 (by decide)]
                have W66 : rf_W [10, 12, 13, 14, 16, 17, 18, 22] m m55 := (rf_W.refl [10, 12, 13, 14, 16, 17, 18, 22] m).trans W60 (by decide)
                have B67 : sf_B 0 600 (m55 10) := T58.2.2.1 10
                have B68 : sf_B 0 4 (m55 13) := T58.2.2.1 13
                have B69 : sf_B 0 1 (m55 22) := T58.2.2.1 22
                show pm_R _ 192 107 [.ref 41, .long a0, pm_no, .int a1, .int 5] [] _ _
                have R70 : (m 10).toInt ≤ (m55 10).toInt := (sf_aux51 _ _ X61)
                refine pm_R_lo pm_M192 (pc_q := 108) rfl rfl rfl ?_
                refine pm_R_cv pm_M192 (pc_q := 111) (a := 41) (ra := []) (rest := []) (ls_q := [.ref 41, pm_no]) rfl rfl (Or.inl rfl) pm_M190 T58.2.1 rfl (by decide) (Nat.lt_of_lt_of_le (by decide) T58.1) rfl rfl (Nat.le_of_ble_eq_true rfl) rfl rfl ?_
                refine pm_R_op pm_M190 (pc_q := 1) (st_q := [.int 0]) rfl rfl rfl ?_
                refine pm_R_lo pm_M190 (pc_q := 2) (ls_q := [.ref 41, .int 0]) (st_q := []) rfl rfl rfl ?_
                refine pm_R_lo pm_M190 (pc_q := 3) rfl rfl rfl ?_
                refine pm_R_op pm_M190 (pc_q := 4) (st_q := [.int 4, .int 0]) rfl rfl rfl ?_
                refine pm_R_br pm_M190 (pc_q := 7) (st_q := []) rfl rfl ?_
                refine pm_R_lo pm_M190 (pc_q := 8) rfl rfl rfl ?_
                refine rf_R_get pm_M190 T58 (pc_q := 11) (v := .ref 52) rfl rfl rfl rfl ?_
                refine pm_R_lo pm_M190 (pc_q := 12) rfl rfl rfl ?_
                refine pm_R_op pm_M190 (pc_q := 13) (st_q := [.int (-1), .int 0, .ref 52]) rfl rfl rfl ?_
                obtain ⟨f71, e72, b73⟩ := T58.2.2.2.1 52 (by decide) (by decide)
                refine rf_R_ist pm_M190 T58 (pc_q := 14) rfl e72 (by decide) (by decide) rfl ⟨_, rfl, sf_upd b73 (sf_weak sf_kn1 (by decide) (by decide)) _⟩ rfl (fun h74 T75 F76 e77 => ?_)
                have F78 := F63.trans F76 (by decide)
                refine pm_R_lo pm_M190 (pc_q := 17) (ls_q := [.ref 41, .int 1]) (st_q := []) rfl rfl rfl ?_
                refine pm_R_br pm_M190 (pc_q := 2) rfl rfl ?_
                refine pm_R_lo pm_M190 (pc_q := 3) rfl rfl rfl ?_
                refine pm_R_op pm_M190 (pc_q := 4) (st_q := [.int 4, .int 1]) rfl rfl rfl ?_
                refine pm_R_br pm_M190 (pc_q := 7) (st_q := []) rfl rfl ?_
                refine pm_R_lo pm_M190 (pc_q := 8) rfl rfl rfl ?_
                refine rf_R_get pm_M190 T75 (pc_q := 11) (v := .ref 52) rfl rfl rfl rfl ?_
                refine pm_R_lo pm_M190 (pc_q := 12) rfl rfl rfl ?_
                refine pm_R_op pm_M190 (pc_q := 13) (st_q := [.int (-1), .int 1, .ref 52]) rfl rfl rfl ?_
                refine rf_R_ist pm_M190 T75 (pc_q := 14) rfl e77 (by decide) (by decide) rfl ⟨_, rfl, sf_upd (sf_upd b73 (sf_weak sf_kn1 (by decide) (by decide)) _) (sf_weak sf_kn1 (by decide) (by decide)) _⟩ rfl (fun h79 T80 F81 e82 => ?_)
                have F83 := F78.trans F81 (by decide)
                refine pm_R_lo pm_M190 (pc_q := 17) (ls_q := [.ref 41, .int 2]) (st_q := []) rfl rfl rfl ?_
                refine pm_R_br pm_M190 (pc_q := 2) rfl rfl ?_
                refine pm_R_lo pm_M190 (pc_q := 3) rfl rfl rfl ?_
                refine pm_R_op pm_M190 (pc_q := 4) (st_q := [.int 4, .int 2]) rfl rfl rfl ?_
                refine pm_R_br pm_M190 (pc_q := 7) (st_q := []) rfl rfl ?_
                refine pm_R_lo pm_M190 (pc_q := 8) rfl rfl rfl ?_
                refine rf_R_get pm_M190 T80 (pc_q := 11) (v := .ref 52) rfl rfl rfl rfl ?_
                refine pm_R_lo pm_M190 (pc_q := 12) rfl rfl rfl ?_
                refine pm_R_op pm_M190 (pc_q := 13) (st_q := [.int (-1), .int 2, .ref 52]) rfl rfl rfl ?_
                refine rf_R_ist pm_M190 T80 (pc_q := 14) rfl e82 (by decide) (by decide) rfl ⟨_, rfl, sf_upd (sf_upd (sf_upd b73 (sf_weak sf_kn1 (by decide) (by decide)) _) (sf_weak sf_kn1 (by decide) (by decide)) _) (sf_weak sf_kn1 (by decide) (by decide)) _⟩ rfl (fun h84 T85 F86 e87 => ?_)
                have F88 := F83.trans F86 (by decide)
                refine pm_R_lo pm_M190 (pc_q := 17) (ls_q := [.ref 41, .int 3]) (st_q := []) rfl rfl rfl ?_
                refine pm_R_br pm_M190 (pc_q := 2) rfl rfl ?_
                refine pm_R_lo pm_M190 (pc_q := 3) rfl rfl rfl ?_
                refine pm_R_op pm_M190 (pc_q := 4) (st_q := [.int 4, .int 3]) rfl rfl rfl ?_
                refine pm_R_br pm_M190 (pc_q := 7) (st_q := []) rfl rfl ?_
                refine pm_R_lo pm_M190 (pc_q := 8) rfl rfl rfl ?_
                refine rf_R_get pm_M190 T85 (pc_q := 11) (v := .ref 52) rfl rfl rfl rfl ?_
                refine pm_R_lo pm_M190 (pc_q := 12) rfl rfl rfl ?_
                refine pm_R_op pm_M190 (pc_q := 13) (st_q := [.int (-1), .int 3, .ref 52]) rfl rfl rfl ?_
                refine rf_R_ist pm_M190 T85 (pc_q := 14) rfl e87 (by decide) (by decide) rfl ⟨_, rfl, sf_upd (sf_upd (sf_upd (sf_upd b73 (sf_weak sf_kn1 (by decide) (by decide)) _) (sf_weak sf_kn1 (by decide) (by decide)) _) (sf_weak sf_kn1 (by decide) (by decide)) _) (sf_weak sf_kn1 (by decide) (by decide)) _⟩ rfl (fun h89 T90 F91 e92 => ?_)
                have F93 := F88.trans F91 (by decide)
                refine pm_R_lo pm_M190 (pc_q := 17) (ls_q := [.ref 41, .int 4]) (st_q := []) rfl rfl rfl ?_
                refine pm_R_br pm_M190 (pc_q := 2) rfl rfl ?_
                refine pm_R_lo pm_M190 (pc_q := 3) rfl rfl rfl ?_
                refine pm_R_op pm_M190 (pc_q := 4) (st_q := [.int 4, .int 4]) rfl rfl rfl ?_
                refine pm_R_br pm_M190 (pc_q := 20) (st_q := []) rfl rfl ?_
                refine pm_R_ret pm_M190 (r := none) rfl rfl ?_
                show pm_R _ 192 111 [.ref 41, .long a0, pm_no, .int a1, .int 5] [] _ _
                refine pm_R_lo pm_M192 (pc_q := 112) rfl rfl rfl ?_
                refine rf_R_get pm_M192 T90 (pc_q := 115) (v := .ref 52) rfl rfl rfl rfl ?_
                refine pm_R_op pm_M192 (pc_q := 116) (st_q := [.int 0, .ref 52]) (pm_q192_1 (Nat.le_of_ble_eq_true rfl)) rfl rfl ?_
                refine pm_R_lo pm_M192 (pc_q := 118) (pm_q192_1 (Nat.le_of_ble_eq_true rfl)) rfl rfl ?_
                refine rf_R_ist pm_M192 T90 (pc_q := 119) (pm_q192_1 (Nat.le_of_ble_eq_true rfl)) e92 (by decide) (by decide) rfl ⟨_, rfl, sf_upd (sf_upd (sf_upd (sf_upd (sf_upd b73 (sf_weak sf_kn1 (by decide) (by decide)) _) (sf_weak sf_kn1 (by decide) (by decide)) _) (sf_weak sf_kn1 (by decide) (by decide)) _) (sf_weak sf_kn1 (by decide) (by decide)) _) (sf_weak sf_k5 (by decide) (by decide)) _⟩ rfl (fun h94 T95 F96 e97 => ?_)
                have F98 := F93.trans F96 (by decide)
                refine pm_R_lo pm_M192 (pc_q := 120) (pm_q192_1 (Nat.le_of_ble_eq_true rfl)) rfl rfl ?_
                refine pm_R_op pm_M192 (pc_q := 121) (st_q := [.int 1, .ref 41]) (pm_q192_1 (Nat.le_of_ble_eq_true rfl)) rfl rfl ?_
                refine pm_R_op pm_M192 (pc_q := 123) (st_q := [.int 9, .int 1, .ref 41]) (pm_q192_1 (Nat.le_of_ble_eq_true rfl)) rfl rfl ?_
                refine pm_R_op pm_M192 (pc_q := 124) (st_q := [.int (-1), .int 9, .int 1, .ref 41]) (pm_q192_1 (Nat.le_of_ble_eq_true rfl)) rfl rfl ?_
                refine pm_R_cv pm_M192 (pc_q := 127) (a := 41) (ra := [.int (-1), .int 9, .int 1]) (rest := []) (ls_q := [.ref 41, .int 1, .int 9, .int (-1)]) (pm_q192_1 (Nat.le_of_ble_eq_true rfl)) rfl (Or.inl rfl) pm_M183 T95.2.1 rfl (by decide) (Nat.lt_of_lt_of_le (by decide) T95.1) rfl rfl (Nat.le_of_ble_eq_true rfl) rfl rfl ?_
                refine rf_c183_1_9 (d := d + 0) T95  (fun m101 w102 h103 T104 F105 W106 X107 => ?_) (fun m110 w111 h112 T113 F114 W115 X116 X117 X118 X119 X120 => ?_) (fun m123 w124 h125 T126 F127 W128 X129 X130 X131 B132 B133 => ?_)
                · have F134 := F98.trans F105 (by decide)
                  have W135 : rf_W [10, 12, 13, 14, 16, 17, 18, 22] m m101 := W66.trans W106 (by decide)
                  have B136 : sf_B 0 600 (m101 10) := T104.2.2.1 10
                  have B137 : sf_B 0 4 (m101 13) := T104.2.2.1 13
                  have B138 : sf_B 0 4 (m101 17) := T104.2.2.1 17
                  have B139 : sf_B 0 1 (m101 22) := T104.2.2.1 22
                  show pm_R _ 192 127 [.ref 41, .long a0, pm_no, .int a1, .int 5] [.int 0] _ _
                  have R140 : (m 10).toInt ≤ (m101 10).toInt := (sf_aux70 _ _ _ R70 X107)
                  refine pm_R_br pm_M192 (pc_q := 130) (st_q := []) (pm_q192_1 (Nat.le_of_ble_eq_true rfl)) rfl ?_
                  refine pm_R_op pm_M192 (pc_q := 131) (st_q := [.int 0]) (pm_q192_1 (Nat.le_of_ble_eq_true rfl)) rfl rfl ?_
                  exact pm_R_ret pm_M192 (r := some (.int 0)) (pm_q192_1 (Nat.le_of_ble_eq_true rfl)) rfl (K0 m101 w102 h103 T104 F134 W135 (sf_aux51 _ _ R140))
                · have F141 := F98.trans F114 (by decide)
                  have W142 : rf_W [10, 12, 13, 14, 16, 17, 18, 22] m m110 := W66.trans W115 (by decide)
                  have B143 : sf_B 0 600 (m110 10) := T113.2.2.1 10
                  have B144 : sf_B 0 4 (m110 13) := T113.2.2.1 13
                  have B145 : sf_B 0 4 (m110 17) := T113.2.2.1 17
                  have B146 : sf_B 0 1 (m110 22) := T113.2.2.1 22
                  show pm_R _ 192 127 [.ref 41, .long a0, pm_no, .int a1, .int 5] [.int 1] _ _
                  have R147 : (m 10).toInt ≤ (m110 10).toInt := (sf_aux70 _ _ _ R70 X120)
                  obtain ⟨v148, B149, e150⟩ := X116 _ e97
                  refine pm_R_br pm_M192 (pc_q := 132) (st_q := []) (pm_q192_1 (Nat.le_of_ble_eq_true rfl)) rfl ?_
                  refine pm_R_lo pm_M192 (pc_q := 134) (pm_q192_1 (Nat.le_of_ble_eq_true rfl)) rfl rfl ?_
                  refine pm_R_op pm_M192 (pc_q := 135) (st_q := [.int 1, .int 5]) (pm_q192_1 (Nat.le_of_ble_eq_true rfl)) rfl rfl ?_
                  refine pm_R_br pm_M192 (pc_q := 138) (st_q := []) (pm_q192_1 (Nat.le_of_ble_eq_true rfl)) rfl ?_
                  refine pm_R_lo pm_M192 (pc_q := 140) (pm_q192_1 (Nat.le_of_ble_eq_true rfl)) rfl rfl ?_
                  refine pm_R_op pm_M192 (pc_q := 141) (st_q := [.int 2, .int 5]) (pm_q192_1 (Nat.le_of_ble_eq_true rfl)) rfl rfl ?_
                  refine pm_R_br pm_M192 (pc_q := 144) (st_q := []) (pm_q192_1 (Nat.le_of_ble_eq_true rfl)) rfl ?_
                  refine pm_R_lo pm_M192 (pc_q := 146) (pm_q192_1 (Nat.le_of_ble_eq_true rfl)) rfl rfl ?_
                  refine pm_R_op pm_M192 (pc_q := 147) (st_q := [.int 3, .int 5]) (pm_q192_1 (Nat.le_of_ble_eq_true rfl)) rfl rfl ?_
                  refine pm_R_br pm_M192 (pc_q := 163) (st_q := []) (pm_q192_1 (Nat.le_of_ble_eq_true rfl)) rfl ?_
                  refine pm_R_lo pm_M192 (pc_q := 164) (pm_q192_1 (Nat.le_of_ble_eq_true rfl)) rfl rfl ?_
                  refine pm_R_op pm_M192 (pc_q := 165) (st_q := [.int 0, .ref 41]) (pm_q192_1 (Nat.le_of_ble_eq_true rfl)) rfl rfl ?_
                  refine pm_R_op pm_M192 (pc_q := 166) (st_q := [.int 1, .int 0, .ref 41]) (pm_q192_1 (Nat.le_of_ble_eq_true rfl)) rfl rfl ?_
                  refine pm_R_op pm_M192 (pc_q := 167) (st_q := [.int 3, .int 1, .int 0, .ref 41]) (pm_q192_1 (Nat.le_of_ble_eq_true rfl)) rfl rfl ?_
                  refine pm_R_op pm_M192 (pc_q := 169) (st_q := [.int 8, .int 3, .int 1, .int 0, .ref 41]) (pm_q192_1 (Nat.le_of_ble_eq_true rfl)) rfl rfl ?_
                  refine pm_R_op pm_M192 (pc_q := 170) (st_q := [.int 0, .int 8, .int 3, .int 1, .int 0, .ref 41]) (pm_q192_1 (Nat.le_of_ble_eq_true rfl)) rfl rfl ?_
                  refine pm_R_cv pm_M192 (pc_q := 173) (a := 41) (ra := [.int 0, .int 8, .int 3, .int 1, .int 0]) (rest := []) (ls_q := [.ref 41, .int 0, .int 1, .int 3, .int 8, .int 0, pm_no, pm_no]) (pm_q192_1 (Nat.le_of_ble_eq_true rfl)) rfl (Or.inl rfl) pm_M185 T113.2.1 rfl (by decide) (Nat.lt_of_lt_of_le (by decide) T113.1) rfl rfl (Nat.le_of_ble_eq_true rfl) rfl rfl ?_
                  have e151 := (F114.cell (by decide) (F96.cell (by decide) (F91.cell (by decide) (F86.cell (by decide) (F81.cell (by decide) (F76.cell (by decide) (F59.cell (by decide) e3)))))))
                  refine rf_c185_l (d := d + 2) T113 (⟨f2, e151, ct4, fun z => (bd5 (sf_aux75 _ _ _ ek65 X117 z))⟩) (fun _ g eg => by rw [e150] at eg; cases eg; exact ⟨sf_eqL (Eq.trans (sf_upd_nec (k := Int32.toNatClampNeg 1) (j := Int32.toNatClampNeg 0) (by decide)) sf_upd_eq) (sf_weak sf_k5 (by decide) (by decide)), sf_eqL sf_upd_eq B149, sf_eqL (Eq.trans (sf_upd_nec (k := Int32.toNatClampNeg 1) (j := Int32.toNatClampNeg 2) (by decide)) (Eq.trans (sf_upd_nec (k := Int32.toNatClampNeg 0) (j := Int32.toNatClampNeg 2) (by decide)) (Eq.trans (sf_upd_nec (k := Int32.toNatClampNeg 3) (j := Int32.toNatClampNeg 2) (by decide)) sf_upd_eq))) (sf_weak sf_kn1 (by decide) (by decide))⟩) (fun m154 w155 h156 T157 F158 W159 X160 => ?_)
                  have F161 := F141.trans F158 (by decide)
                  have B162 : sf_B 0 600 (m154 10) := by rw [W159 10 (by decide)]; exact B143
                  have ek163 : (m154 10).toInt = ((m110 10)).toInt := by rw [W159 10 (by decide)]
                  have B164 : sf_B 0 4 (m154 13) := by rw [W159 13 (by decide)]; exact B144
                  have ek165 : (m154 13).toInt = ((m110 13)).toInt := by rw [W159 13 (by decide)]
                  have B166 : sf_B 0 4 (m154 17) := by rw [W159 17 (by decide)]; exact (sf_eqT X117 B64)
                  have ek167 : (m154 17).toInt = ((m55 17)).toInt := by rw [W159 17 (by decide)]; exact X117
                  have B168 : sf_B 0 1 (m154 22) := by rw [W159 22 (by decide)]; exact (sf_eqT X118 B69)
                  have ek169 : (m154 22).toInt = ((m55 22)).toInt := by rw [W159 22 (by decide)]; exact X118
                  have W170 : rf_W [10, 12, 13, 14, 16, 17, 18, 22] m m154 := W142.trans W159 (by decide)
                  show pm_R _ 192 173 [.ref 41, .long a0, pm_no, .int a1, .int 5] [] _ _
                  obtain ⟨f171, e172, ct173, bd174⟩ := X160
                  refine pm_R_op pm_M192 (pc_q := 174) (st_q := [.int 1]) (pm_q192_1 (Nat.le_of_ble_eq_true rfl)) rfl rfl ?_
                  exact pm_R_ret pm_M192 (r := some (.int 1)) (pm_q192_1 (Nat.le_of_ble_eq_true rfl)) rfl (K1 m154 w155 h156 T157 F161 W170 (⟨f171, e172, ct173, fun z => (bd174 z)⟩) (sf_aux39 _ _ _ ek163 R147))
                · have F175 := F98.trans F127 (by decide)
                  have W176 : rf_W [10, 12, 13, 14, 16, 17, 18, 22] m m123 := W66.trans W128 (by decide)
                  have B177 : sf_B 0 600 (m123 10) := T126.2.2.1 10
                  have B178 : sf_B 0 4 (m123 13) := T126.2.2.1 13
                  have B179 : sf_B 0 4 (m123 17) := T126.2.2.1 17
                  have B180 : sf_B 0 1 (m123 22) := T126.2.2.1 22
                  show pm_R _ 192 127 [.ref 41, .long a0, pm_no, .int a1, .int 5] [.int 1] _ _
                  have R181 : (m 10).toInt ≤ (m123 10).toInt := (sf_aux70 _ _ _ R70 X131)
                  obtain ⟨v182, B183, e184⟩ := X129 _ e97
                  refine pm_R_br pm_M192 (pc_q := 132) (st_q := []) (pm_q192_1 (Nat.le_of_ble_eq_true rfl)) rfl ?_
                  refine pm_R_lo pm_M192 (pc_q := 134) (pm_q192_1 (Nat.le_of_ble_eq_true rfl)) rfl rfl ?_
                  refine pm_R_op pm_M192 (pc_q := 135) (st_q := [.int 1, .int 5]) (pm_q192_1 (Nat.le_of_ble_eq_true rfl)) rfl rfl ?_
                  refine pm_R_br pm_M192 (pc_q := 138) (st_q := []) (pm_q192_1 (Nat.le_of_ble_eq_true rfl)) rfl ?_
                  refine pm_R_lo pm_M192 (pc_q := 140) (pm_q192_1 (Nat.le_of_ble_eq_true rfl)) rfl rfl ?_
                  refine pm_R_op pm_M192 (pc_q := 141) (st_q := [.int 2, .int 5]) (pm_q192_1 (Nat.le_of_ble_eq_true rfl)) rfl rfl ?_
                  refine pm_R_br pm_M192 (pc_q := 144) (st_q := []) (pm_q192_1 (Nat.le_of_ble_eq_true rfl)) rfl ?_
                  refine pm_R_lo pm_M192 (pc_q := 146) (pm_q192_1 (Nat.le_of_ble_eq_true rfl)) rfl rfl ?_
                  refine pm_R_op pm_M192 (pc_q := 147) (st_q := [.int 3, .int 5]) (pm_q192_1 (Nat.le_of_ble_eq_true rfl)) rfl rfl ?_
                  refine pm_R_br pm_M192 (pc_q := 163) (st_q := []) (pm_q192_1 (Nat.le_of_ble_eq_true rfl)) rfl ?_
                  refine pm_R_lo pm_M192 (pc_q := 164) (pm_q192_1 (Nat.le_of_ble_eq_true rfl)) rfl rfl ?_
                  refine pm_R_op pm_M192 (pc_q := 165) (st_q := [.int 0, .ref 41]) (pm_q192_1 (Nat.le_of_ble_eq_true rfl)) rfl rfl ?_
                  refine pm_R_op pm_M192 (pc_q := 166) (st_q := [.int 1, .int 0, .ref 41]) (pm_q192_1 (Nat.le_of_ble_eq_true rfl)) rfl rfl ?_
                  refine pm_R_op pm_M192 (pc_q := 167) (st_q := [.int 3, .int 1, .int 0, .ref 41]) (pm_q192_1 (Nat.le_of_ble_eq_true rfl)) rfl rfl ?_
                  refine pm_R_op pm_M192 (pc_q := 169) (st_q := [.int 8, .int 3, .int 1, .int 0, .ref 41]) (pm_q192_1 (Nat.le_of_ble_eq_true rfl)) rfl rfl ?_
                  refine pm_R_op pm_M192 (pc_q := 170) (st_q := [.int 0, .int 8, .int 3, .int 1, .int 0, .ref 41]) (pm_q192_1 (Nat.le_of_ble_eq_true rfl)) rfl rfl ?_
                  refine pm_R_cv pm_M192 (pc_q := 173) (a := 41) (ra := [.int 0, .int 8, .int 3, .int 1, .int 0]) (rest := []) (ls_q := [.ref 41, .int 0, .int 1, .int 3, .int 8, .int 0, pm_no, pm_no]) (pm_q192_1 (Nat.le_of_ble_eq_true rfl)) rfl (Or.inl rfl) pm_M185 T126.2.1 rfl (by decide) (Nat.lt_of_lt_of_le (by decide) T126.1) rfl rfl (Nat.le_of_ble_eq_true rfl) rfl rfl ?_
                  have e185 := (F127.cell (by decide) (F96.cell (by decide) (F91.cell (by decide) (F86.cell (by decide) (F81.cell (by decide) (F76.cell (by decide) (F59.cell (by decide) e3)))))))
                  refine rf_c185_l (d := d + 2) T126 (⟨f2, e185, ct4, fun z => (sf_pos B132 (by decide) z)⟩) (fun z => sf_pos B132 (by decide) z) (fun m188 w189 h190 T191 F192 W193 X194 => ?_)
                  have F195 := F175.trans F192 (by decide)
                  have B196 : sf_B 0 600 (m188 10) := by rw [W193 10 (by decide)]; exact B177
                  have ek197 : (m188 10).toInt = ((m123 10)).toInt := by rw [W193 10 (by decide)]
                  have B198 : sf_B 0 4 (m188 13) := by rw [W193 13 (by decide)]; exact B178
                  have ek199 : (m188 13).toInt = ((m123 13)).toInt := by rw [W193 13 (by decide)]
                  have B200 : sf_B 1 4 (m188 17) := by rw [W193 17 (by decide)]; exact B132
                  have ek201 : (m188 17).toInt = ((m123 17)).toInt := by rw [W193 17 (by decide)]
                  have B202 : sf_B 0 0 (m188 22) := by rw [W193 22 (by decide)]; exact B133
                  have ek203 : (m188 22).toInt = ((m123 22)).toInt := by rw [W193 22 (by decide)]
                  have W204 : rf_W [10, 12, 13, 14, 16, 17, 18, 22] m m188 := W176.trans W193 (by decide)
                  show pm_R _ 192 173 [.ref 41, .long a0, pm_no, .int a1, .int 5] [] _ _
                  obtain ⟨f205, e206, ct207, bd208⟩ := X194
                  refine pm_R_op pm_M192 (pc_q := 174) (st_q := [.int 1]) (pm_q192_1 (Nat.le_of_ble_eq_true rfl)) rfl rfl ?_
                  exact pm_R_ret pm_M192 (r := some (.int 1)) (pm_q192_1 (Nat.le_of_ble_eq_true rfl)) rfl (K1 m188 w189 h190 T191 F195 W204 (⟨f205, e206, ct207, fun z => (sf_pos B200 (by decide) z)⟩) (sf_aux39 _ _ _ ek197 R181))
              · have B209 : sf_B 8 8 (f2 0) := sf_eqL (Classical.not_not.mp c51) sf_k8
                refine pm_R_lo pm_M192 (pc_q := 98) rfl rfl rfl ?_
                refine pm_R_op pm_M192 (pc_q := 99) (st_q := [.int 3, .ref 41]) rfl rfl rfl ?_
                refine pm_R_lo pm_M192 (pc_q := 100) rfl rfl rfl ?_
                refine pm_R_cv pm_M192 (pc_q := 103) (a := 41) (ra := [.int a1, .int 3]) (rest := []) (ls_q := [.ref 41, .int 3, .int a1]) rfl rfl (Or.inl rfl) pm_M182 T.2.1 rfl (by decide) (Nat.lt_of_lt_of_le (by decide) T.1) rfl rfl (Nat.le_of_ble_eq_true rfl) rfl rfl ?_
                refine rf_c182 (d := d + 2) T (sf_weak sf_k3 (by decide) (by decide)) Ba1 (fun m212 w213 h214 T215 F216 W217 B218 => ?_)
                have F219 := (rf_G.refl [41, 51, 52] h).trans F216 (by decide)
                have B220 : sf_B 0 600 (m212 10) := by rw [W217 10 (by decide)]; exact B1
                have ek221 : (m212 10).toInt = ((m 10)).toInt := by rw [W217 10 (by decide)]
                have W222 : rf_W [10, 12, 13, 14, 16, 17, 18, 22] m m212 := (rf_W.refl [10, 12, 13, 14, 16, 17, 18, 22] m).trans W217 (by decide)
                have B223 : sf_B 0 4 (m212 13) := T215.2.2.1 13
                have B224 : sf_B 0 4 (m212 17) := T215.2.2.1 17
                have B225 : sf_B 0 1 (m212 22) := T215.2.2.1 22
                show pm_R _ 192 103 [.ref 41, .long a0, pm_no, .int a1, .int 5] [] _ _
                refine pm_R_lo pm_M192 (pc_q := 104) rfl rfl rfl ?_
                refine pm_R_cv pm_M192 (pc_q := 107) (a := 41) (ra := []) (rest := []) (ls_q := [.ref 41, pm_no, pm_no]) rfl rfl (Or.inl rfl) pm_M179 T215.2.1 rfl (by decide) (Nat.lt_of_lt_of_le (by decide) T215.1) rfl rfl (Nat.le_of_ble_eq_true rfl) rfl rfl ?_
                refine rf_c179 (d := d + 1) T215  (fun m228 w229 h230 T231 F232 W233 X234 X235 => ?_)
                have F236 := F219.trans F232 (by decide)
                have B237 : sf_B 1 4 (m228 17) := by rw [W233 17 (by decide)]; exact B218
                have ek238 : (m228 17).toInt = ((m212 17)).toInt := by rw [W233 17 (by decide)]
                have B239 : sf_B 0 1 (m228 22) := by rw [W233 22 (by decide)]; exact B225
                have ek240 : (m228 22).toInt = ((m212 22)).toInt := by rw [W233 22 (by decide)]
                have W241 : rf_W [10, 12, 13, 14, 16, 17, 18, 22] m m228 := W222.trans W233 (by decide)
                have B242 : sf_B 0 600 (m228 10) := T231.2.2.1 10
                have B243 : sf_B 0 4 (m228 13) := T231.2.2.1 13
                show pm_R _ 192 107 [.ref 41, .long a0, pm_no, .int a1, .int 5] [] _ _
                have R244 : (m 10).toInt ≤ (m228 10).toInt := (sf_aux53 _ _ _ ek221 X234)
                refine pm_R_lo pm_M192 (pc_q := 108) rfl rfl rfl ?_
                refine pm_R_cv pm_M192 (pc_q := 111) (a := 41) (ra := []) (rest := []) (ls_q := [.ref 41, pm_no]) rfl rfl (Or.inl rfl) pm_M190 T231.2.1 rfl (by decide) (Nat.lt_of_lt_of_le (by decide) T231.1) rfl rfl (Nat.le_of_ble_eq_true rfl) rfl rfl ?_
                refine pm_R_op pm_M190 (pc_q := 1) (st_q := [.int 0]) rfl rfl rfl ?_
                refine pm_R_lo pm_M190 (pc_q := 2) (ls_q := [.ref 41, .int 0]) (st_q := []) rfl rfl rfl ?_
                refine pm_R_lo pm_M190 (pc_q := 3) rfl rfl rfl ?_
                refine pm_R_op pm_M190 (pc_q := 4) (st_q := [.int 4, .int 0]) rfl rfl rfl ?_
                refine pm_R_br pm_M190 (pc_q := 7) (st_q := []) rfl rfl ?_
                refine pm_R_lo pm_M190 (pc_q := 8) rfl rfl rfl ?_
                refine rf_R_get pm_M190 T231 (pc_q := 11) (v := .ref 52) rfl rfl rfl rfl ?_
                refine pm_R_lo pm_M190 (pc_q := 12) rfl rfl rfl ?_
                refine pm_R_op pm_M190 (pc_q := 13) (st_q := [.int (-1), .int 0, .ref 52]) rfl rfl rfl ?_
                obtain ⟨f245, e246, b247⟩ := T231.2.2.2.1 52 (by decide) (by decide)
                refine rf_R_ist pm_M190 T231 (pc_q := 14) rfl e246 (by decide) (by decide) rfl ⟨_, rfl, sf_upd b247 (sf_weak sf_kn1 (by decide) (by decide)) _⟩ rfl (fun h248 T249 F250 e251 => ?_)
                have F252 := F236.trans F250 (by decide)
                refine pm_R_lo pm_M190 (pc_q := 17) (ls_q := [.ref 41, .int 1]) (st_q := []) rfl rfl rfl ?_
                refine pm_R_br pm_M190 (pc_q := 2) rfl rfl ?_
                refine pm_R_lo pm_M190 (pc_q := 3) rfl rfl rfl ?_
                refine pm_R_op pm_M190 (pc_q := 4) (st_q := [.int 4, .int 1]) rfl rfl rfl ?_
                refine pm_R_br pm_M190 (pc_q := 7) (st_q := []) rfl rfl ?_
                refine pm_R_lo pm_M190 (pc_q := 8) rfl rfl rfl ?_
                refine rf_R_get pm_M190 T249 (pc_q := 11) (v := .ref 52) rfl rfl rfl rfl ?_
                refine pm_R_lo pm_M190 (pc_q := 12) rfl rfl rfl ?_
                refine pm_R_op pm_M190 (pc_q := 13) (st_q := [.int (-1), .int 1, .ref 52]) rfl rfl rfl ?_
                refine rf_R_ist pm_M190 T249 (pc_q := 14) rfl e251 (by decide) (by decide) rfl ⟨_, rfl, sf_upd (sf_upd b247 (sf_weak sf_kn1 (by decide) (by decide)) _) (sf_weak sf_kn1 (by decide) (by decide)) _⟩ rfl (fun h253 T254 F255 e256 => ?_)
                have F257 := F252.trans F255 (by decide)
                refine pm_R_lo pm_M190 (pc_q := 17) (ls_q := [.ref 41, .int 2]) (st_q := []) rfl rfl rfl ?_
                refine pm_R_br pm_M190 (pc_q := 2) rfl rfl ?_
                refine pm_R_lo pm_M190 (pc_q := 3) rfl rfl rfl ?_
                refine pm_R_op pm_M190 (pc_q := 4) (st_q := [.int 4, .int 2]) rfl rfl rfl ?_
                refine pm_R_br pm_M190 (pc_q := 7) (st_q := []) rfl rfl ?_
                refine pm_R_lo pm_M190 (pc_q := 8) rfl rfl rfl ?_
                refine rf_R_get pm_M190 T254 (pc_q := 11) (v := .ref 52) rfl rfl rfl rfl ?_
                refine pm_R_lo pm_M190 (pc_q := 12) rfl rfl rfl ?_
                refine pm_R_op pm_M190 (pc_q := 13) (st_q := [.int (-1), .int 2, .ref 52]) rfl rfl rfl ?_
                refine rf_R_ist pm_M190 T254 (pc_q := 14) rfl e256 (by decide) (by decide) rfl ⟨_, rfl, sf_upd (sf_upd (sf_upd b247 (sf_weak sf_kn1 (by decide) (by decide)) _) (sf_weak sf_kn1 (by decide) (by decide)) _) (sf_weak sf_kn1 (by decide) (by decide)) _⟩ rfl (fun h258 T259 F260 e261 => ?_)
                have F262 := F257.trans F260 (by decide)
                refine pm_R_lo pm_M190 (pc_q := 17) (ls_q := [.ref 41, .int 3]) (st_q := []) rfl rfl rfl ?_
                refine pm_R_br pm_M190 (pc_q := 2) rfl rfl ?_
                refine pm_R_lo pm_M190 (pc_q := 3) rfl rfl rfl ?_
                refine pm_R_op pm_M190 (pc_q := 4) (st_q := [.int 4, .int 3]) rfl rfl rfl ?_
                refine pm_R_br pm_M190 (pc_q := 7) (st_q := []) rfl rfl ?_
                refine pm_R_lo pm_M190 (pc_q := 8) rfl rfl rfl ?_
                refine rf_R_get pm_M190 T259 (pc_q := 11) (v := .ref 52) rfl rfl rfl rfl ?_
                refine pm_R_lo pm_M190 (pc_q := 12) rfl rfl rfl ?_
                refine pm_R_op pm_M190 (pc_q := 13) (st_q := [.int (-1), .int 3, .ref 52]) rfl rfl rfl ?_
                refine rf_R_ist pm_M190 T259 (pc_q := 14) rfl e261 (by decide) (by decide) rfl ⟨_, rfl, sf_upd (sf_upd (sf_upd (sf_upd b247 (sf_weak sf_kn1 (by decide) (by decide)) _) (sf_weak sf_kn1 (by decide) (by decide)) _) (sf_weak sf_kn1 (by decide) (by decide)) _) (sf_weak sf_kn1 (by decide) (by decide)) _⟩ rfl (fun h263 T264 F265 e266 => ?_)
                have F267 := F262.trans F265 (by decide)
                refine pm_R_lo pm_M190 (pc_q := 17) (ls_q := [.ref 41, .int 4]) (st_q := []) rfl rfl rfl ?_
                refine pm_R_br pm_M190 (pc_q := 2) rfl rfl ?_
                refine pm_R_lo pm_M190 (pc_q := 3) rfl rfl rfl ?_
                refine pm_R_op pm_M190 (pc_q := 4) (st_q := [.int 4, .int 4]) rfl rfl rfl ?_
                refine pm_R_br pm_M190 (pc_q := 20) (st_q := []) rfl rfl ?_
                refine pm_R_ret pm_M190 (r := none) rfl rfl ?_
                show pm_R _ 192 111 [.ref 41, .long a0, pm_no, .int a1, .int 5] [] _ _
                refine pm_R_lo pm_M192 (pc_q := 112) rfl rfl rfl ?_
                refine rf_R_get pm_M192 T264 (pc_q := 115) (v := .ref 52) rfl rfl rfl rfl ?_
                refine pm_R_op pm_M192 (pc_q := 116) (st_q := [.int 0, .ref 52]) (pm_q192_1 (Nat.le_of_ble_eq_true rfl)) rfl rfl ?_
                refine pm_R_lo pm_M192 (pc_q := 118) (pm_q192_1 (Nat.le_of_ble_eq_true rfl)) rfl rfl ?_
                refine rf_R_ist pm_M192 T264 (pc_q := 119) (pm_q192_1 (Nat.le_of_ble_eq_true rfl)) e266 (by decide) (by decide) rfl ⟨_, rfl, sf_upd (sf_upd (sf_upd (sf_upd (sf_upd b247 (sf_weak sf_kn1 (by decide) (by decide)) _) (sf_weak sf_kn1 (by decide) (by decide)) _) (sf_weak sf_kn1 (by decide) (by decide)) _) (sf_weak sf_kn1 (by decide) (by decide)) _) (sf_weak sf_k5 (by decide) (by decide)) _⟩ rfl (fun h268 T269 F270 e271 => ?_)
                have F272 := F267.trans F270 (by decide)
                refine pm_R_lo pm_M192 (pc_q := 120) (pm_q192_1 (Nat.le_of_ble_eq_true rfl)) rfl rfl ?_
                refine pm_R_op pm_M192 (pc_q := 121) (st_q := [.int 1, .ref 41]) (pm_q192_1 (Nat.le_of_ble_eq_true rfl)) rfl rfl ?_
                refine pm_R_op pm_M192 (pc_q := 123) (st_q := [.int 9, .int 1, .ref 41]) (pm_q192_1 (Nat.le_of_ble_eq_true rfl)) rfl rfl ?_
                refine pm_R_op pm_M192 (pc_q := 124) (st_q := [.int (-1), .int 9, .int 1, .ref 41]) (pm_q192_1 (Nat.le_of_ble_eq_true rfl)) rfl rfl ?_
                refine pm_R_cv pm_M192 (pc_q := 127) (a := 41) (ra := [.int (-1), .int 9, .int 1]) (rest := []) (ls_q := [.ref 41, .int 1, .int 9, .int (-1)]) (pm_q192_1 (Nat.le_of_ble_eq_true rfl)) rfl (Or.inl rfl) pm_M183 T269.2.1 rfl (by decide) (Nat.lt_of_lt_of_le (by decide) T269.1) rfl rfl (Nat.le_of_ble_eq_true rfl) rfl rfl ?_
                refine rf_c183_1_9 (d := d + 0) T269  (fun m275 w276 h277 T278 F279 W280 X281 => ?_) (fun m284 w285 h286 T287 F288 W289 X290 X291 X292 X293 X294 => ?_) (fun m297 w298 h299 T300 F301 W302 X303 X304 X305 B306 B307 => ?_)
                · have F308 := F272.trans F279 (by decide)
                  have W309 : rf_W [10, 12, 13, 14, 16, 17, 18, 22] m m275 := W241.trans W280 (by decide)
                  have B310 : sf_B 0 600 (m275 10) := T278.2.2.1 10
                  have B311 : sf_B 0 4 (m275 13) := T278.2.2.1 13
                  have B312 : sf_B 0 4 (m275 17) := T278.2.2.1 17
                  have B313 : sf_B 0 1 (m275 22) := T278.2.2.1 22
                  show pm_R _ 192 127 [.ref 41, .long a0, pm_no, .int a1, .int 5] [.int 0] _ _
                  have R314 : (m 10).toInt ≤ (m275 10).toInt := (sf_aux70 _ _ _ R244 X281)
                  refine pm_R_br pm_M192 (pc_q := 130) (st_q := []) (pm_q192_1 (Nat.le_of_ble_eq_true rfl)) rfl ?_
                  refine pm_R_op pm_M192 (pc_q := 131) (st_q := [.int 0]) (pm_q192_1 (Nat.le_of_ble_eq_true rfl)) rfl rfl ?_
                  exact pm_R_ret pm_M192 (r := some (.int 0)) (pm_q192_1 (Nat.le_of_ble_eq_true rfl)) rfl (K0 m275 w276 h277 T278 F308 W309 (sf_aux51 _ _ R314))
                · have F315 := F272.trans F288 (by decide)
                  have W316 : rf_W [10, 12, 13, 14, 16, 17, 18, 22] m m284 := W241.trans W289 (by decide)
                  have B317 : sf_B 0 600 (m284 10) := T287.2.2.1 10
                  have B318 : sf_B 0 4 (m284 13) := T287.2.2.1 13
                  have B319 : sf_B 0 4 (m284 17) := T287.2.2.1 17
                  have B320 : sf_B 0 1 (m284 22) := T287.2.2.1 22
                  show pm_R _ 192 127 [.ref 41, .long a0, pm_no, .int a1, .int 5] [.int 1] _ _
                  have R321 : (m 10).toInt ≤ (m284 10).toInt := (sf_aux70 _ _ _ R244 X294)
                  obtain ⟨v322, B323, e324⟩ := X290 _ e271
                  refine pm_R_br pm_M192 (pc_q := 132) (st_q := []) (pm_q192_1 (Nat.le_of_ble_eq_true rfl)) rfl ?_
                  refine pm_R_lo pm_M192 (pc_q := 134) (pm_q192_1 (Nat.le_of_ble_eq_true rfl)) rfl rfl ?_
                  refine pm_R_op pm_M192 (pc_q := 135) (st_q := [.int 1, .int 5]) (pm_q192_1 (Nat.le_of_ble_eq_true rfl)) rfl rfl ?_
                  refine pm_R_br pm_M192 (pc_q := 138) (st_q := []) (pm_q192_1 (Nat.le_of_ble_eq_true rfl)) rfl ?_
                  refine pm_R_lo pm_M192 (pc_q := 140) (pm_q192_1 (Nat.le_of_ble_eq_true rfl)) rfl rfl ?_
                  refine pm_R_op pm_M192 (pc_q := 141) (st_q := [.int 2, .int 5]) (pm_q192_1 (Nat.le_of_ble_eq_true rfl)) rfl rfl ?_
                  refine pm_R_br pm_M192 (pc_q := 144) (st_q := []) (pm_q192_1 (Nat.le_of_ble_eq_true rfl)) rfl ?_
                  refine pm_R_lo pm_M192 (pc_q := 146) (pm_q192_1 (Nat.le_of_ble_eq_true rfl)) rfl rfl ?_
                  refine pm_R_op pm_M192 (pc_q := 147) (st_q := [.int 3, .int 5]) (pm_q192_1 (Nat.le_of_ble_eq_true rfl)) rfl rfl ?_
                  refine pm_R_br pm_M192 (pc_q := 163) (st_q := []) (pm_q192_1 (Nat.le_of_ble_eq_true rfl)) rfl ?_
                  refine pm_R_lo pm_M192 (pc_q := 164) (pm_q192_1 (Nat.le_of_ble_eq_true rfl)) rfl rfl ?_
                  refine pm_R_op pm_M192 (pc_q := 165) (st_q := [.int 0, .ref 41]) (pm_q192_1 (Nat.le_of_ble_eq_true rfl)) rfl rfl ?_
                  refine pm_R_op pm_M192 (pc_q := 166) (st_q := [.int 1, .int 0, .ref 41]) (pm_q192_1 (Nat.le_of_ble_eq_true rfl)) rfl rfl ?_
                  refine pm_R_op pm_M192 (pc_q := 167) (st_q := [.int 3, .int 1, .int 0, .ref 41]) (pm_q192_1 (Nat.le_of_ble_eq_true rfl)) rfl rfl ?_
                  refine pm_R_op pm_M192 (pc_q := 169) (st_q := [.int 8, .int 3, .int 1, .int 0, .ref 41]) (pm_q192_1 (Nat.le_of_ble_eq_true rfl)) rfl rfl ?_
                  refine pm_R_op pm_M192 (pc_q := 170) (st_q := [.int 0, .int 8, .int 3, .int 1, .int 0, .ref 41]) (pm_q192_1 (Nat.le_of_ble_eq_true rfl)) rfl rfl ?_
                  refine pm_R_cv pm_M192 (pc_q := 173) (a := 41) (ra := [.int 0, .int 8, .int 3, .int 1, .int 0]) (rest := []) (ls_q := [.ref 41, .int 0, .int 1, .int 3, .int 8, .int 0, pm_no, pm_no]) (pm_q192_1 (Nat.le_of_ble_eq_true rfl)) rfl (Or.inl rfl) pm_M185 T287.2.1 rfl (by decide) (Nat.lt_of_lt_of_le (by decide) T287.1) rfl rfl (Nat.le_of_ble_eq_true rfl) rfl rfl ?_
                  have e325 := (F288.cell (by decide) (F270.cell (by decide) (F265.cell (by decide) (F260.cell (by decide) (F255.cell (by decide) (F250.cell (by decide) (F232.cell (by decide) (F216.cell (by decide) e3))))))))
                  refine rf_c185_l (d := d + 2) T287 (⟨f2, e325, ct4, fun z => (sf_pos (sf_eqT X291 B237) (by decide) z)⟩) (fun z => sf_pos (sf_eqT X291 B237) (by decide) z) (fun m328 w329 h330 T331 F332 W333 X334 => ?_)
                  have F335 := F315.trans F332 (by decide)
                  have B336 : sf_B 0 600 (m328 10) := by rw [W333 10 (by decide)]; exact B317
                  have ek337 : (m328 10).toInt = ((m284 10)).toInt := by rw [W333 10 (by decide)]
                  have B338 : sf_B 0 4 (m328 13) := by rw [W333 13 (by decide)]; exact B318
                  have ek339 : (m328 13).toInt = ((m284 13)).toInt := by rw [W333 13 (by decide)]
                  have B340 : sf_B 1 4 (m328 17) := by rw [W333 17 (by decide)]; exact (sf_eqT X291 B237)
                  have ek341 : (m328 17).toInt = ((m228 17)).toInt := by rw [W333 17 (by decide)]; exact X291
                  have B342 : sf_B 0 1 (m328 22) := by rw [W333 22 (by decide)]; exact (sf_eqT X292 B239)
                  have ek343 : (m328 22).toInt = ((m228 22)).toInt := by rw [W333 22 (by decide)]; exact X292
                  have W344 : rf_W [10, 12, 13, 14, 16, 17, 18, 22] m m328 := W316.trans W333 (by decide)
                  show pm_R _ 192 173 [.ref 41, .long a0, pm_no, .int a1, .int 5] [] _ _
                  obtain ⟨f345, e346, ct347, bd348⟩ := X334
                  refine pm_R_op pm_M192 (pc_q := 174) (st_q := [.int 1]) (pm_q192_1 (Nat.le_of_ble_eq_true rfl)) rfl rfl ?_
                  exact pm_R_ret pm_M192 (r := some (.int 1)) (pm_q192_1 (Nat.le_of_ble_eq_true rfl)) rfl (K1 m328 w329 h330 T331 F335 W344 (⟨f345, e346, ct347, fun z => (sf_pos B340 (by decide) z)⟩) (sf_aux39 _ _ _ ek337 R321))
                · have F349 := F272.trans F301 (by decide)
                  have W350 : rf_W [10, 12, 13, 14, 16, 17, 18, 22] m m297 := W241.trans W302 (by decide)
                  have B351 : sf_B 0 600 (m297 10) := T300.2.2.1 10
                  have B352 : sf_B 0 4 (m297 13) := T300.2.2.1 13
                  have B353 : sf_B 0 4 (m297 17) := T300.2.2.1 17
                  have B354 : sf_B 0 1 (m297 22) := T300.2.2.1 22
                  show pm_R _ 192 127 [.ref 41, .long a0, pm_no, .int a1, .int 5] [.int 1] _ _
                  have R355 : (m 10).toInt ≤ (m297 10).toInt := (sf_aux70 _ _ _ R244 X305)
                  obtain ⟨v356, B357, e358⟩ := X303 _ e271
                  refine pm_R_br pm_M192 (pc_q := 132) (st_q := []) (pm_q192_1 (Nat.le_of_ble_eq_true rfl)) rfl ?_
                  refine pm_R_lo pm_M192 (pc_q := 134) (pm_q192_1 (Nat.le_of_ble_eq_true rfl)) rfl rfl ?_
                  refine pm_R_op pm_M192 (pc_q := 135) (st_q := [.int 1, .int 5]) (pm_q192_1 (Nat.le_of_ble_eq_true rfl)) rfl rfl ?_
                  refine pm_R_br pm_M192 (pc_q := 138) (st_q := []) (pm_q192_1 (Nat.le_of_ble_eq_true rfl)) rfl ?_
                  refine pm_R_lo pm_M192 (pc_q := 140) (pm_q192_1 (Nat.le_of_ble_eq_true rfl)) rfl rfl ?_
                  refine pm_R_op pm_M192 (pc_q := 141) (st_q := [.int 2, .int 5]) (pm_q192_1 (Nat.le_of_ble_eq_true rfl)) rfl rfl ?_
                  refine pm_R_br pm_M192 (pc_q := 144) (st_q := []) (pm_q192_1 (Nat.le_of_ble_eq_true rfl)) rfl ?_
                  refine pm_R_lo pm_M192 (pc_q := 146) (pm_q192_1 (Nat.le_of_ble_eq_true rfl)) rfl rfl ?_
                  refine pm_R_op pm_M192 (pc_q := 147) (st_q := [.int 3, .int 5]) (pm_q192_1 (Nat.le_of_ble_eq_true rfl)) rfl rfl ?_
                  refine pm_R_br pm_M192 (pc_q := 163) (st_q := []) (pm_q192_1 (Nat.le_of_ble_eq_true rfl)) rfl ?_
                  refine pm_R_lo pm_M192 (pc_q := 164) (pm_q192_1 (Nat.le_of_ble_eq_true rfl)) rfl rfl ?_
                  refine pm_R_op pm_M192 (pc_q := 165) (st_q := [.int 0, .ref 41]) (pm_q192_1 (Nat.le_of_ble_eq_true rfl)) rfl rfl ?_
                  refine pm_R_op pm_M192 (pc_q := 166) (st_q := [.int 1, .int 0, .ref 41]) (pm_q192_1 (Nat.le_of_ble_eq_true rfl)) rfl rfl ?_
                  refine pm_R_op pm_M192 (pc_q := 167) (st_q := [.int 3, .int 1, .int 0, .ref 41]) (pm_q192_1 (Nat.le_of_ble_eq_true rfl)) rfl rfl ?_
                  refine pm_R_op pm_M192 (pc_q := 169) (st_q := [.int 8, .int 3, .int 1, .int 0, .ref 41]) (pm_q192_1 (Nat.le_of_ble_eq_true rfl)) rfl rfl ?_
                  refine pm_R_op pm_M192 (pc_q := 170) (st_q := [.int 0, .int 8, .int 3, .int 1, .int 0, .ref 41]) (pm_q192_1 (Nat.le_of_ble_eq_true rfl)) rfl rfl ?_
                  refine pm_R_cv pm_M192 (pc_q := 173) (a := 41) (ra := [.int 0, .int 8, .int 3, .int 1, .int 0]) (rest := []) (ls_q := [.ref 41, .int 0, .int 1, .int 3, .int 8, .int 0, pm_no, pm_no]) (pm_q192_1 (Nat.le_of_ble_eq_true rfl)) rfl (Or.inl rfl) pm_M185 T300.2.1 rfl (by decide) (Nat.lt_of_lt_of_le (by decide) T300.1) rfl rfl (Nat.le_of_ble_eq_true rfl) rfl rfl ?_
                  have e359 := (F301.cell (by decide) (F270.cell (by decide) (F265.cell (by decide) (F260.cell (by decide) (F255.cell (by decide) (F250.cell (by decide) (F232.cell (by decide) (F216.cell (by decide) e3))))))))
                  refine rf_c185_l (d := d + 2) T300 (⟨f2, e359, ct4, fun z => (sf_pos B306 (by decide) z)⟩) (fun z => sf_pos B306 (by decide) z) (fun m362 w363 h364 T365 F366 W367 X368 => ?_)
                  have F369 := F349.trans F366 (by decide)
                  have B370 : sf_B 0 600 (m362 10) := by rw [W367 10 (by decide)]; exact B351
                  have ek371 : (m362 10).toInt = ((m297 10)).toInt := by rw [W367 10 (by decide)]
                  have B372 : sf_B 0 4 (m362 13) := by rw [W367 13 (by decide)]; exact B352
                  have ek373 : (m362 13).toInt = ((m297 13)).toInt := by rw [W367 13 (by decide)]
                  have B374 : sf_B 1 4 (m362 17) := by rw [W367 17 (by decide)]; exact B306
                  have ek375 : (m362 17).toInt = ((m297 17)).toInt := by rw [W367 17 (by decide)]
                  have B376 : sf_B 0 0 (m362 22) := by rw [W367 22 (by decide)]; exact B307
                  have ek377 : (m362 22).toInt = ((m297 22)).toInt := by rw [W367 22 (by decide)]
                  have W378 : rf_W [10, 12, 13, 14, 16, 17, 18, 22] m m362 := W350.trans W367 (by decide)
                  show pm_R _ 192 173 [.ref 41, .long a0, pm_no, .int a1, .int 5] [] _ _
                  obtain ⟨f379, e380, ct381, bd382⟩ := X368
                  refine pm_R_op pm_M192 (pc_q := 174) (st_q := [.int 1]) (pm_q192_1 (Nat.le_of_ble_eq_true rfl)) rfl rfl ?_
                  exact pm_R_ret pm_M192 (r := some (.int 1)) (pm_q192_1 (Nat.le_of_ble_eq_true rfl)) rfl (K1 m362 w363 h364 T365 F369 W378 (⟨f379, e380, ct381, fun z => (sf_pos B374 (by decide) z)⟩) (sf_aux39 _ _ _ ek371 R355))
          · have B383 : sf_B 0 0 z23 := sf_eqL (Classical.not_not.mp c25) sf_k0
            have B384 : lf_B 114801865155950 114801865155950 a0 := lf_eqB e24 B383 (⟨by decide, by decide⟩ : lf_B 114801865155950 114801865155950 114801865155950)
            refine pm_R_op pm_M192 (pc_q := 57) (st_q := [.int 4]) rfl rfl rfl ?_
            refine pm_R_br pm_M192 (pc_q := 73) rfl rfl ?_
            refine pm_R_lo pm_M192 (pc_q := 75) (ls_q := [.ref 41, .long a0, pm_no, .int a1, .int 4]) (st_q := []) rfl rfl rfl ?_
            refine pm_R_lo pm_M192 (pc_q := 77) rfl rfl rfl ?_
            refine pm_R_op pm_M192 (pc_q := 78) (st_q := [.int (-1), .int 4]) rfl rfl rfl ?_
            refine pm_R_br pm_M192 (pc_q := 86) (st_q := []) rfl rfl ?_
            refine pm_R_lo pm_M192 (pc_q := 87) rfl rfl rfl ?_
            refine rf_R_get pm_M192 T (pc_q := 90) (v := .ref 51) rfl rfl rfl rfl ?_
            refine pm_R_op pm_M192 (pc_q := 91) (st_q := [.int 0, .ref 51]) rfl rfl rfl ?_
            refine pm_R_iald pm_M192 (pc_q := 92) (v := (f2 0)) rfl e3 (Nat.lt_of_lt_of_le (by decide) T.1) rfl rfl rfl ?_
            refine pm_R_op pm_M192 (pc_q := 94) (st_q := [.int 8, .int (f2 0)]) rfl rfl rfl ?_
            refine pm_R_icmp pm_M192 (t := 103) (pc_q := 97) rfl rfl rfl (fun c387 => ?_) (fun c387 => ?_)
            · have B388 : sf_B 0 7 (f2 0) := sf_neH0 c387 sf_k8 ct4
              refine pm_R_lo pm_M192 (pc_q := 104) rfl rfl rfl ?_
              refine pm_R_cv pm_M192 (pc_q := 107) (a := 41) (ra := []) (rest := []) (ls_q := [.ref 41, pm_no, pm_no]) rfl rfl (Or.inl rfl) pm_M179 T.2.1 rfl (by decide) (Nat.lt_of_lt_of_le (by decide) T.1) rfl rfl (Nat.le_of_ble_eq_true rfl) rfl rfl ?_
              refine rf_c179 (d := d + 1) T  (fun m391 w392 h393 T394 F395 W396 X397 X398 => ?_)
              have F399 := (rf_G.refl [41, 51, 52] h).trans F395 (by decide)
              have B400 : sf_B 0 4 (m391 17) := by rw [W396 17 (by decide)]; exact B6
              have ek401 : (m391 17).toInt = ((m 17)).toInt := by rw [W396 17 (by decide)]
              have W402 : rf_W [10, 12, 13, 14, 16, 17, 18, 22] m m391 := (rf_W.refl [10, 12, 13, 14, 16, 17, 18, 22] m).trans W396 (by decide)
              have B403 : sf_B 0 600 (m391 10) := T394.2.2.1 10
              have B404 : sf_B 0 4 (m391 13) := T394.2.2.1 13
              have B405 : sf_B 0 1 (m391 22) := T394.2.2.1 22
              show pm_R _ 192 107 [.ref 41, .long a0, pm_no, .int a1, .int 4] [] _ _
              have R406 : (m 10).toInt ≤ (m391 10).toInt := (sf_aux51 _ _ X397)
              refine pm_R_lo pm_M192 (pc_q := 108) rfl rfl rfl ?_
              refine pm_R_cv pm_M192 (pc_q := 111) (a := 41) (ra := []) (rest := []) (ls_q := [.ref 41, pm_no]) rfl rfl (Or.inl rfl) pm_M190 T394.2.1 rfl (by decide) (Nat.lt_of_lt_of_le (by decide) T394.1) rfl rfl (Nat.le_of_ble_eq_true rfl) rfl rfl ?_
              refine pm_R_op pm_M190 (pc_q := 1) (st_q := [.int 0]) rfl rfl rfl ?_
              refine pm_R_lo pm_M190 (pc_q := 2) (ls_q := [.ref 41, .int 0]) (st_q := []) rfl rfl rfl ?_
              refine pm_R_lo pm_M190 (pc_q := 3) rfl rfl rfl ?_
              refine pm_R_op pm_M190 (pc_q := 4) (st_q := [.int 4, .int 0]) rfl rfl rfl ?_
              refine pm_R_br pm_M190 (pc_q := 7) (st_q := []) rfl rfl ?_
              refine pm_R_lo pm_M190 (pc_q := 8) rfl rfl rfl ?_
              refine rf_R_get pm_M190 T394 (pc_q := 11) (v := .ref 52) rfl rfl rfl rfl ?_
              refine pm_R_lo pm_M190 (pc_q := 12) rfl rfl rfl ?_
              refine pm_R_op pm_M190 (pc_q := 13) (st_q := [.int (-1), .int 0, .ref 52]) rfl rfl rfl ?_
              obtain ⟨f407, e408, b409⟩ := T394.2.2.2.1 52 (by decide) (by decide)
              refine rf_R_ist pm_M190 T394 (pc_q := 14) rfl e408 (by decide) (by decide) rfl ⟨_, rfl, sf_upd b409 (sf_weak sf_kn1 (by decide) (by decide)) _⟩ rfl (fun h410 T411 F412 e413 => ?_)
              have F414 := F399.trans F412 (by decide)
              refine pm_R_lo pm_M190 (pc_q := 17) (ls_q := [.ref 41, .int 1]) (st_q := []) rfl rfl rfl ?_
              refine pm_R_br pm_M190 (pc_q := 2) rfl rfl ?_
              refine pm_R_lo pm_M190 (pc_q := 3) rfl rfl rfl ?_
              refine pm_R_op pm_M190 (pc_q := 4) (st_q := [.int 4, .int 1]) rfl rfl rfl ?_
              refine pm_R_br pm_M190 (pc_q := 7) (st_q := []) rfl rfl ?_
              refine pm_R_lo pm_M190 (pc_q := 8) rfl rfl rfl ?_
              refine rf_R_get pm_M190 T411 (pc_q := 11) (v := .ref 52) rfl rfl rfl rfl ?_
              refine pm_R_lo pm_M190 (pc_q := 12) rfl rfl rfl ?_
              refine pm_R_op pm_M190 (pc_q := 13) (st_q := [.int (-1), .int 1, .ref 52]) rfl rfl rfl ?_
              refine rf_R_ist pm_M190 T411 (pc_q := 14) rfl e413 (by decide) (by decide) rfl ⟨_, rfl, sf_upd (sf_upd b409 (sf_weak sf_kn1 (by decide) (by decide)) _) (sf_weak sf_kn1 (by decide) (by decide)) _⟩ rfl (fun h415 T416 F417 e418 => ?_)
              have F419 := F414.trans F417 (by decide)
              refine pm_R_lo pm_M190 (pc_q := 17) (ls_q := [.ref 41, .int 2]) (st_q := []) rfl rfl rfl ?_
              refine pm_R_br pm_M190 (pc_q := 2) rfl rfl ?_
              refine pm_R_lo pm_M190 (pc_q := 3) rfl rfl rfl ?_
              refine pm_R_op pm_M190 (pc_q := 4) (st_q := [.int 4, .int 2]) rfl rfl rfl ?_
              refine pm_R_br pm_M190 (pc_q := 7) (st_q := []) rfl rfl ?_
              refine pm_R_lo pm_M190 (pc_q := 8) rfl rfl rfl ?_
              refine rf_R_get pm_M190 T416 (pc_q := 11) (v := .ref 52) rfl rfl rfl rfl ?_
              refine pm_R_lo pm_M190 (pc_q := 12) rfl rfl rfl ?_
              refine pm_R_op pm_M190 (pc_q := 13) (st_q := [.int (-1), .int 2, .ref 52]) rfl rfl rfl ?_
              refine rf_R_ist pm_M190 T416 (pc_q := 14) rfl e418 (by decide) (by decide) rfl ⟨_, rfl, sf_upd (sf_upd (sf_upd b409 (sf_weak sf_kn1 (by decide) (by decide)) _) (sf_weak sf_kn1 (by decide) (by decide)) _) (sf_weak sf_kn1 (by decide) (by decide)) _⟩ rfl (fun h420 T421 F422 e423 => ?_)
              have F424 := F419.trans F422 (by decide)
              refine pm_R_lo pm_M190 (pc_q := 17) (ls_q := [.ref 41, .int 3]) (st_q := []) rfl rfl rfl ?_
              refine pm_R_br pm_M190 (pc_q := 2) rfl rfl ?_
              refine pm_R_lo pm_M190 (pc_q := 3) rfl rfl rfl ?_
              refine pm_R_op pm_M190 (pc_q := 4) (st_q := [.int 4, .int 3]) rfl rfl rfl ?_
              refine pm_R_br pm_M190 (pc_q := 7) (st_q := []) rfl rfl ?_
              refine pm_R_lo pm_M190 (pc_q := 8) rfl rfl rfl ?_
              refine rf_R_get pm_M190 T421 (pc_q := 11) (v := .ref 52) rfl rfl rfl rfl ?_
              refine pm_R_lo pm_M190 (pc_q := 12) rfl rfl rfl ?_
              refine pm_R_op pm_M190 (pc_q := 13) (st_q := [.int (-1), .int 3, .ref 52]) rfl rfl rfl ?_
              refine rf_R_ist pm_M190 T421 (pc_q := 14) rfl e423 (by decide) (by decide) rfl ⟨_, rfl, sf_upd (sf_upd (sf_upd (sf_upd b409 (sf_weak sf_kn1 (by decide) (by decide)) _) (sf_weak sf_kn1 (by decide) (by decide)) _) (sf_weak sf_kn1 (by decide) (by decide)) _) (sf_weak sf_kn1 (by decide) (by decide)) _⟩ rfl (fun h425 T426 F427 e428 => ?_)
              have F429 := F424.trans F427 (by decide)
              refine pm_R_lo pm_M190 (pc_q := 17) (ls_q := [.ref 41, .int 4]) (st_q := []) rfl rfl rfl ?_
              refine pm_R_br pm_M190 (pc_q := 2) rfl rfl ?_
              refine pm_R_lo pm_M190 (pc_q := 3) rfl rfl rfl ?_
              refine pm_R_op pm_M190 (pc_q := 4) (st_q := [.int 4, .int 4]) rfl rfl rfl ?_
              refine pm_R_br pm_M190 (pc_q := 20) (st_q := []) rfl rfl ?_
              refine pm_R_ret pm_M190 (r := none) rfl rfl ?_
              show pm_R _ 192 111 [.ref 41, .long a0, pm_no, .int a1, .int 4] [] _ _
              refine pm_R_lo pm_M192 (pc_q := 112) rfl rfl rfl ?_
              refine rf_R_get pm_M192 T426 (pc_q := 115) (v := .ref 52) rfl rfl rfl rfl ?_
              refine pm_R_op pm_M192 (pc_q := 116) (st_q := [.int 0, .ref 52]) (pm_q192_1 (Nat.le_of_ble_eq_true rfl)) rfl rfl ?_
              refine pm_R_lo pm_M192 (pc_q := 118) (pm_q192_1 (Nat.le_of_ble_eq_true rfl)) rfl rfl ?_
              refine rf_R_ist pm_M192 T426 (pc_q := 119) (pm_q192_1 (Nat.le_of_ble_eq_true rfl)) e428 (by decide) (by decide) rfl ⟨_, rfl, sf_upd (sf_upd (sf_upd (sf_upd (sf_upd b409 (sf_weak sf_kn1 (by decide) (by decide)) _) (sf_weak sf_kn1 (by decide) (by decide)) _) (sf_weak sf_kn1 (by decide) (by decide)) _) (sf_weak sf_kn1 (by decide) (by decide)) _) (sf_weak sf_k4 (by decide) (by decide)) _⟩ rfl (fun h430 T431 F432 e433 => ?_)
              have F434 := F429.trans F432 (by decide)
              refine pm_R_lo pm_M192 (pc_q := 120) (pm_q192_1 (Nat.le_of_ble_eq_true rfl)) rfl rfl ?_
              refine pm_R_op pm_M192 (pc_q := 121) (st_q := [.int 1, .ref 41]) (pm_q192_1 (Nat.le_of_ble_eq_true rfl)) rfl rfl ?_
              refine pm_R_op pm_M192 (pc_q := 123) (st_q := [.int 9, .int 1, .ref 41]) (pm_q192_1 (Nat.le_of_ble_eq_true rfl)) rfl rfl ?_
              refine pm_R_op pm_M192 (pc_q := 124) (st_q := [.int (-1), .int 9, .int 1, .ref 41]) (pm_q192_1 (Nat.le_of_ble_eq_true rfl)) rfl rfl ?_
              refine pm_R_cv pm_M192 (pc_q := 127) (a := 41) (ra := [.int (-1), .int 9, .int 1]) (rest := []) (ls_q := [.ref 41, .int 1, .int 9, .int (-1)]) (pm_q192_1 (Nat.le_of_ble_eq_true rfl)) rfl (Or.inl rfl) pm_M183 T431.2.1 rfl (by decide) (Nat.lt_of_lt_of_le (by decide) T431.1) rfl rfl (Nat.le_of_ble_eq_true rfl) rfl rfl ?_
              refine rf_c183_1_9 (d := d + 0) T431  (fun m437 w438 h439 T440 F441 W442 X443 => ?_) (fun m446 w447 h448 T449 F450 W451 X452 X453 X454 X455 X456 => ?_) (fun m459 w460 h461 T462 F463 W464 X465 X466 X467 B468 B469 => ?_)
              · have F470 := F434.trans F441 (by decide)
                have W471 : rf_W [10, 12, 13, 14, 16, 17, 18, 22] m m437 := W402.trans W442 (by decide)
                have B472 : sf_B 0 600 (m437 10) := T440.2.2.1 10
                have B473 : sf_B 0 4 (m437 13) := T440.2.2.1 13
                have B474 : sf_B 0 4 (m437 17) := T440.2.2.1 17
                have B475 : sf_B 0 1 (m437 22) := T440.2.2.1 22
                show pm_R _ 192 127 [.ref 41, .long a0, pm_no, .int a1, .int 4] [.int 0] _ _
                have R476 : (m 10).toInt ≤ (m437 10).toInt := (sf_aux70 _ _ _ R406 X443)
                refine pm_R_br pm_M192 (pc_q := 130) (st_q := []) (pm_q192_1 (Nat.le_of_ble_eq_true rfl)) rfl ?_
                refine pm_R_op pm_M192 (pc_q := 131) (st_q := [.int 0]) (pm_q192_1 (Nat.le_of_ble_eq_true rfl)) rfl rfl ?_
                exact pm_R_ret pm_M192 (r := some (.int 0)) (pm_q192_1 (Nat.le_of_ble_eq_true rfl)) rfl (K0 m437 w438 h439 T440 F470 W471 (sf_aux51 _ _ R476))
              · have F477 := F434.trans F450 (by decide)
                have W478 : rf_W [10, 12, 13, 14, 16, 17, 18, 22] m m446 := W402.trans W451 (by decide)
                have B479 : sf_B 0 600 (m446 10) := T449.2.2.1 10
                have B480 : sf_B 0 4 (m446 13) := T449.2.2.1 13
                have B481 : sf_B 0 4 (m446 17) := T449.2.2.1 17
                have B482 : sf_B 0 1 (m446 22) := T449.2.2.1 22
                show pm_R _ 192 127 [.ref 41, .long a0, pm_no, .int a1, .int 4] [.int 1] _ _
                have R483 : (m 10).toInt ≤ (m446 10).toInt := (sf_aux70 _ _ _ R406 X456)
                obtain ⟨v484, B485, e486⟩ := X452 _ e433
                refine pm_R_br pm_M192 (pc_q := 132) (st_q := []) (pm_q192_1 (Nat.le_of_ble_eq_true rfl)) rfl ?_
                refine pm_R_lo pm_M192 (pc_q := 134) (pm_q192_1 (Nat.le_of_ble_eq_true rfl)) rfl rfl ?_
                refine pm_R_op pm_M192 (pc_q := 135) (st_q := [.int 1, .int 4]) (pm_q192_1 (Nat.le_of_ble_eq_true rfl)) rfl rfl ?_
                refine pm_R_br pm_M192 (pc_q := 138) (st_q := []) (pm_q192_1 (Nat.le_of_ble_eq_true rfl)) rfl ?_
                refine pm_R_lo pm_M192 (pc_q := 140) (pm_q192_1 (Nat.le_of_ble_eq_true rfl)) rfl rfl ?_
                refine pm_R_op pm_M192 (pc_q := 141) (st_q := [.int 2, .int 4]) (pm_q192_1 (Nat.le_of_ble_eq_true rfl)) rfl rfl ?_
                refine pm_R_br pm_M192 (pc_q := 144) (st_q := []) (pm_q192_1 (Nat.le_of_ble_eq_true rfl)) rfl ?_
                refine pm_R_lo pm_M192 (pc_q := 146) (pm_q192_1 (Nat.le_of_ble_eq_true rfl)) rfl rfl ?_
                refine pm_R_op pm_M192 (pc_q := 147) (st_q := [.int 3, .int 4]) (pm_q192_1 (Nat.le_of_ble_eq_true rfl)) rfl rfl ?_
                refine pm_R_br pm_M192 (pc_q := 163) (st_q := []) (pm_q192_1 (Nat.le_of_ble_eq_true rfl)) rfl ?_
                refine pm_R_lo pm_M192 (pc_q := 164) (pm_q192_1 (Nat.le_of_ble_eq_true rfl)) rfl rfl ?_
                refine pm_R_op pm_M192 (pc_q := 165) (st_q := [.int 0, .ref 41]) (pm_q192_1 (Nat.le_of_ble_eq_true rfl)) rfl rfl ?_
                refine pm_R_op pm_M192 (pc_q := 166) (st_q := [.int 1, .int 0, .ref 41]) (pm_q192_1 (Nat.le_of_ble_eq_true rfl)) rfl rfl ?_
                refine pm_R_op pm_M192 (pc_q := 167) (st_q := [.int 3, .int 1, .int 0, .ref 41]) (pm_q192_1 (Nat.le_of_ble_eq_true rfl)) rfl rfl ?_
                refine pm_R_op pm_M192 (pc_q := 169) (st_q := [.int 8, .int 3, .int 1, .int 0, .ref 41]) (pm_q192_1 (Nat.le_of_ble_eq_true rfl)) rfl rfl ?_
                refine pm_R_op pm_M192 (pc_q := 170) (st_q := [.int 0, .int 8, .int 3, .int 1, .int 0, .ref 41]) (pm_q192_1 (Nat.le_of_ble_eq_true rfl)) rfl rfl ?_
                refine pm_R_cv pm_M192 (pc_q := 173) (a := 41) (ra := [.int 0, .int 8, .int 3, .int 1, .int 0]) (rest := []) (ls_q := [.ref 41, .int 0, .int 1, .int 3, .int 8, .int 0, pm_no, pm_no]) (pm_q192_1 (Nat.le_of_ble_eq_true rfl)) rfl (Or.inl rfl) pm_M185 T449.2.1 rfl (by decide) (Nat.lt_of_lt_of_le (by decide) T449.1) rfl rfl (Nat.le_of_ble_eq_true rfl) rfl rfl ?_
                have e487 := (F450.cell (by decide) (F432.cell (by decide) (F427.cell (by decide) (F422.cell (by decide) (F417.cell (by decide) (F412.cell (by decide) (F395.cell (by decide) e3)))))))
                refine rf_c185_l (d := d + 2) T449 (⟨f2, e487, ct4, fun z => (bd5 (sf_aux75 _ _ _ ek401 X453 z))⟩) (fun _ g eg => by rw [e486] at eg; cases eg; exact ⟨sf_eqL (Eq.trans (sf_upd_nec (k := Int32.toNatClampNeg 1) (j := Int32.toNatClampNeg 0) (by decide)) sf_upd_eq) (sf_weak sf_k4 (by decide) (by decide)), sf_eqL sf_upd_eq B485, sf_eqL (Eq.trans (sf_upd_nec (k := Int32.toNatClampNeg 1) (j := Int32.toNatClampNeg 2) (by decide)) (Eq.trans (sf_upd_nec (k := Int32.toNatClampNeg 0) (j := Int32.toNatClampNeg 2) (by decide)) (Eq.trans (sf_upd_nec (k := Int32.toNatClampNeg 3) (j := Int32.toNatClampNeg 2) (by decide)) sf_upd_eq))) (sf_weak sf_kn1 (by decide) (by decide))⟩) (fun m490 w491 h492 T493 F494 W495 X496 => ?_)
                have F497 := F477.trans F494 (by decide)
                have B498 : sf_B 0 600 (m490 10) := by rw [W495 10 (by decide)]; exact B479
                have ek499 : (m490 10).toInt = ((m446 10)).toInt := by rw [W495 10 (by decide)]
                have B500 : sf_B 0 4 (m490 13) := by rw [W495 13 (by decide)]; exact B480
                have ek501 : (m490 13).toInt = ((m446 13)).toInt := by rw [W495 13 (by decide)]
                have B502 : sf_B 0 4 (m490 17) := by rw [W495 17 (by decide)]; exact (sf_eqT X453 B400)
                have ek503 : (m490 17).toInt = ((m391 17)).toInt := by rw [W495 17 (by decide)]; exact X453
                have B504 : sf_B 0 1 (m490 22) := by rw [W495 22 (by decide)]; exact (sf_eqT X454 B405)
                have ek505 : (m490 22).toInt = ((m391 22)).toInt := by rw [W495 22 (by decide)]; exact X454
                have W506 : rf_W [10, 12, 13, 14, 16, 17, 18, 22] m m490 := W478.trans W495 (by decide)
                show pm_R _ 192 173 [.ref 41, .long a0, pm_no, .int a1, .int 4] [] _ _
                obtain ⟨f507, e508, ct509, bd510⟩ := X496
                refine pm_R_op pm_M192 (pc_q := 174) (st_q := [.int 1]) (pm_q192_1 (Nat.le_of_ble_eq_true rfl)) rfl rfl ?_
                exact pm_R_ret pm_M192 (r := some (.int 1)) (pm_q192_1 (Nat.le_of_ble_eq_true rfl)) rfl (K1 m490 w491 h492 T493 F497 W506 (⟨f507, e508, ct509, fun z => (bd510 z)⟩) (sf_aux39 _ _ _ ek499 R483))
              · have F511 := F434.trans F463 (by decide)
                have W512 : rf_W [10, 12, 13, 14, 16, 17, 18, 22] m m459 := W402.trans W464 (by decide)
                have B513 : sf_B 0 600 (m459 10) := T462.2.2.1 10
                have B514 : sf_B 0 4 (m459 13) := T462.2.2.1 13
                have B515 : sf_B 0 4 (m459 17) := T462.2.2.1 17
                have B516 : sf_B 0 1 (m459 22) := T462.2.2.1 22
                show pm_R _ 192 127 [.ref 41, .long a0, pm_no, .int a1, .int 4] [.int 1] _ _
                have R517 : (m 10).toInt ≤ (m459 10).toInt := (sf_aux70 _ _ _ R406 X467)
                obtain ⟨v518, B519, e520⟩ := X465 _ e433
                refine pm_R_br pm_M192 (pc_q := 132) (st_q := []) (pm_q192_1 (Nat.le_of_ble_eq_true rfl)) rfl ?_
                refine pm_R_lo pm_M192 (pc_q := 134) (pm_q192_1 (Nat.le_of_ble_eq_true rfl)) rfl rfl ?_
                refine pm_R_op pm_M192 (pc_q := 135) (st_q := [.int 1, .int 4]) (pm_q192_1 (Nat.le_of_ble_eq_true rfl)) rfl rfl ?_
                refine pm_R_br pm_M192 (pc_q := 138) (st_q := []) (pm_q192_1 (Nat.le_of_ble_eq_true rfl)) rfl ?_
                refine pm_R_lo pm_M192 (pc_q := 140) (pm_q192_1 (Nat.le_of_ble_eq_true rfl)) rfl rfl ?_
                refine pm_R_op pm_M192 (pc_q := 141) (st_q := [.int 2, .int 4]) (pm_q192_1 (Nat.le_of_ble_eq_true rfl)) rfl rfl ?_
                refine pm_R_br pm_M192 (pc_q := 144) (st_q := []) (pm_q192_1 (Nat.le_of_ble_eq_true rfl)) rfl ?_
                refine pm_R_lo pm_M192 (pc_q := 146) (pm_q192_1 (Nat.le_of_ble_eq_true rfl)) rfl rfl ?_
                refine pm_R_op pm_M192 (pc_q := 147) (st_q := [.int 3, .int 4]) (pm_q192_1 (Nat.le_of_ble_eq_true rfl)) rfl rfl ?_
                refine pm_R_br pm_M192 (pc_q := 163) (st_q := []) (pm_q192_1 (Nat.le_of_ble_eq_true rfl)) rfl ?_
                refine pm_R_lo pm_M192 (pc_q := 164) (pm_q192_1 (Nat.le_of_ble_eq_true rfl)) rfl rfl ?_
                refine pm_R_op pm_M192 (pc_q := 165) (st_q := [.int 0, .ref 41]) (pm_q192_1 (Nat.le_of_ble_eq_true rfl)) rfl rfl ?_
                refine pm_R_op pm_M192 (pc_q := 166) (st_q := [.int 1, .int 0, .ref 41]) (pm_q192_1 (Nat.le_of_ble_eq_true rfl)) rfl rfl ?_
                refine pm_R_op pm_M192 (pc_q := 167) (st_q := [.int 3, .int 1, .int 0, .ref 41]) (pm_q192_1 (Nat.le_of_ble_eq_true rfl)) rfl rfl ?_
                refine pm_R_op pm_M192 (pc_q := 169) (st_q := [.int 8, .int 3, .int 1, .int 0, .ref 41]) (pm_q192_1 (Nat.le_of_ble_eq_true rfl)) rfl rfl ?_
                refine pm_R_op pm_M192 (pc_q := 170) (st_q := [.int 0, .int 8, .int 3, .int 1, .int 0, .ref 41]) (pm_q192_1 (Nat.le_of_ble_eq_true rfl)) rfl rfl ?_
                refine pm_R_cv pm_M192 (pc_q := 173) (a := 41) (ra := [.int 0, .int 8, .int 3, .int 1, .int 0]) (rest := []) (ls_q := [.ref 41, .int 0, .int 1, .int 3, .int 8, .int 0, pm_no, pm_no]) (pm_q192_1 (Nat.le_of_ble_eq_true rfl)) rfl (Or.inl rfl) pm_M185 T462.2.1 rfl (by decide) (Nat.lt_of_lt_of_le (by decide) T462.1) rfl rfl (Nat.le_of_ble_eq_true rfl) rfl rfl ?_
                have e521 := (F463.cell (by decide) (F432.cell (by decide) (F427.cell (by decide) (F422.cell (by decide) (F417.cell (by decide) (F412.cell (by decide) (F395.cell (by decide) e3)))))))
                refine rf_c185_l (d := d + 2) T462 (⟨f2, e521, ct4, fun z => (sf_pos B468 (by decide) z)⟩) (fun z => sf_pos B468 (by decide) z) (fun m524 w525 h526 T527 F528 W529 X530 => ?_)
                have F531 := F511.trans F528 (by decide)
                have B532 : sf_B 0 600 (m524 10) := by rw [W529 10 (by decide)]; exact B513
                have ek533 : (m524 10).toInt = ((m459 10)).toInt := by rw [W529 10 (by decide)]
                have B534 : sf_B 0 4 (m524 13) := by rw [W529 13 (by decide)]; exact B514
                have ek535 : (m524 13).toInt = ((m459 13)).toInt := by rw [W529 13 (by decide)]
                have B536 : sf_B 1 4 (m524 17) := by rw [W529 17 (by decide)]; exact B468
                have ek537 : (m524 17).toInt = ((m459 17)).toInt := by rw [W529 17 (by decide)]
                have B538 : sf_B 0 0 (m524 22) := by rw [W529 22 (by decide)]; exact B469
                have ek539 : (m524 22).toInt = ((m459 22)).toInt := by rw [W529 22 (by decide)]
                have W540 : rf_W [10, 12, 13, 14, 16, 17, 18, 22] m m524 := W512.trans W529 (by decide)
                show pm_R _ 192 173 [.ref 41, .long a0, pm_no, .int a1, .int 4] [] _ _
                obtain ⟨f541, e542, ct543, bd544⟩ := X530
                refine pm_R_op pm_M192 (pc_q := 174) (st_q := [.int 1]) (pm_q192_1 (Nat.le_of_ble_eq_true rfl)) rfl rfl ?_
                exact pm_R_ret pm_M192 (r := some (.int 1)) (pm_q192_1 (Nat.le_of_ble_eq_true rfl)) rfl (K1 m524 w525 h526 T527 F531 W540 (⟨f541, e542, ct543, fun z => (sf_pos B536 (by decide) z)⟩) (sf_aux39 _ _ _ ek533 R517))
            · have B545 : sf_B 8 8 (f2 0) := sf_eqL (Classical.not_not.mp c387) sf_k8
              refine pm_R_lo pm_M192 (pc_q := 98) rfl rfl rfl ?_
              refine pm_R_op pm_M192 (pc_q := 99) (st_q := [.int 3, .ref 41]) rfl rfl rfl ?_
              refine pm_R_lo pm_M192 (pc_q := 100) rfl rfl rfl ?_
              refine pm_R_cv pm_M192 (pc_q := 103) (a := 41) (ra := [.int a1, .int 3]) (rest := []) (ls_q := [.ref 41, .int 3, .int a1]) rfl rfl (Or.inl rfl) pm_M182 T.2.1 rfl (by decide) (Nat.lt_of_lt_of_le (by decide) T.1) rfl rfl (Nat.le_of_ble_eq_true rfl) rfl rfl ?_
              refine rf_c182 (d := d + 2) T (sf_weak sf_k3 (by decide) (by decide)) Ba1 (fun m548 w549 h550 T551 F552 W553 B554 => ?_)
              have F555 := (rf_G.refl [41, 51, 52] h).trans F552 (by decide)
              have B556 : sf_B 0 600 (m548 10) := by rw [W553 10 (by decide)]; exact B1
              have ek557 : (m548 10).toInt = ((m 10)).toInt := by rw [W553 10 (by decide)]
              have W558 : rf_W [10, 12, 13, 14, 16, 17, 18, 22] m m548 := (rf_W.refl [10, 12, 13, 14, 16, 17, 18, 22] m).trans W553 (by decide)
              have B559 : sf_B 0 4 (m548 13) := T551.2.2.1 13
              have B560 : sf_B 0 4 (m548 17) := T551.2.2.1 17
              have B561 : sf_B 0 1 (m548 22) := T551.2.2.1 22
              show pm_R _ 192 103 [.ref 41, .long a0, pm_no, .int a1, .int 4] [] _ _
              refine pm_R_lo pm_M192 (pc_q := 104) rfl rfl rfl ?_
              refine pm_R_cv pm_M192 (pc_q := 107) (a := 41) (ra := []) (rest := []) (ls_q := [.ref 41, pm_no, pm_no]) rfl rfl (Or.inl rfl) pm_M179 T551.2.1 rfl (by decide) (Nat.lt_of_lt_of_le (by decide) T551.1) rfl rfl (Nat.le_of_ble_eq_true rfl) rfl rfl ?_
              refine rf_c179 (d := d + 1) T551  (fun m564 w565 h566 T567 F568 W569 X570 X571 => ?_)
              have F572 := F555.trans F568 (by decide)
              have B573 : sf_B 1 4 (m564 17) := by rw [W569 17 (by decide)]; exact B554
              have ek574 : (m564 17).toInt = ((m548 17)).toInt := by rw [W569 17 (by decide)]
              have B575 : sf_B 0 1 (m564 22) := by rw [W569 22 (by decide)]; exact B561
              have ek576 : (m564 22).toInt = ((m548 22)).toInt := by rw [W569 22 (by decide)]
              have W577 : rf_W [10, 12, 13, 14, 16, 17, 18, 22] m m564 := W558.trans W569 (by decide)
              have B578 : sf_B 0 600 (m564 10) := T567.2.2.1 10
              have B579 : sf_B 0 4 (m564 13) := T567.2.2.1 13
              show pm_R _ 192 107 [.ref 41, .long a0, pm_no, .int a1, .int 4] [] _ _
              have R580 : (m 10).toInt ≤ (m564 10).toInt := (sf_aux53 _ _ _ ek557 X570)
              refine pm_R_lo pm_M192 (pc_q := 108) rfl rfl rfl ?_
              refine pm_R_cv pm_M192 (pc_q := 111) (a := 41) (ra := []) (rest := []) (ls_q := [.ref 41, pm_no]) rfl rfl (Or.inl rfl) pm_M190 T567.2.1 rfl (by decide) (Nat.lt_of_lt_of_le (by decide) T567.1) rfl rfl (Nat.le_of_ble_eq_true rfl) rfl rfl ?_
              refine pm_R_op pm_M190 (pc_q := 1) (st_q := [.int 0]) rfl rfl rfl ?_
              refine pm_R_lo pm_M190 (pc_q := 2) (ls_q := [.ref 41, .int 0]) (st_q := []) rfl rfl rfl ?_
              refine pm_R_lo pm_M190 (pc_q := 3) rfl rfl rfl ?_
              refine pm_R_op pm_M190 (pc_q := 4) (st_q := [.int 4, .int 0]) rfl rfl rfl ?_
              refine pm_R_br pm_M190 (pc_q := 7) (st_q := []) rfl rfl ?_
              refine pm_R_lo pm_M190 (pc_q := 8) rfl rfl rfl ?_
              refine rf_R_get pm_M190 T567 (pc_q := 11) (v := .ref 52) rfl rfl rfl rfl ?_
              refine pm_R_lo pm_M190 (pc_q := 12) rfl rfl rfl ?_
              refine pm_R_op pm_M190 (pc_q := 13) (st_q := [.int (-1), .int 0, .ref 52]) rfl rfl rfl ?_
              obtain ⟨f581, e582, b583⟩ := T567.2.2.2.1 52 (by decide) (by decide)
              refine rf_R_ist pm_M190 T567 (pc_q := 14) rfl e582 (by decide) (by decide) rfl ⟨_, rfl, sf_upd b583 (sf_weak sf_kn1 (by decide) (by decide)) _⟩ rfl (fun h584 T585 F586 e587 => ?_)
              have F588 := F572.trans F586 (by decide)
              refine pm_R_lo pm_M190 (pc_q := 17) (ls_q := [.ref 41, .int 1]) (st_q := []) rfl rfl rfl ?_
              refine pm_R_br pm_M190 (pc_q := 2) rfl rfl ?_
              refine pm_R_lo pm_M190 (pc_q := 3) rfl rfl rfl ?_
              refine pm_R_op pm_M190 (pc_q := 4) (st_q := [.int 4, .int 1]) rfl rfl rfl ?_
              refine pm_R_br pm_M190 (pc_q := 7) (st_q := []) rfl rfl ?_
              refine pm_R_lo pm_M190 (pc_q := 8) rfl rfl rfl ?_
              refine rf_R_get pm_M190 T585 (pc_q := 11) (v := .ref 52) rfl rfl rfl rfl ?_
              refine pm_R_lo pm_M190 (pc_q := 12) rfl rfl rfl ?_
              refine pm_R_op pm_M190 (pc_q := 13) (st_q := [.int (-1), .int 1, .ref 52]) rfl rfl rfl ?_
              refine rf_R_ist pm_M190 T585 (pc_q := 14) rfl e587 (by decide) (by decide) rfl ⟨_, rfl, sf_upd (sf_upd b583 (sf_weak sf_kn1 (by decide) (by decide)) _) (sf_weak sf_kn1 (by decide) (by decide)) _⟩ rfl (fun h589 T590 F591 e592 => ?_)
              have F593 := F588.trans F591 (by decide)
              refine pm_R_lo pm_M190 (pc_q := 17) (ls_q := [.ref 41, .int 2]) (st_q := []) rfl rfl rfl ?_
              refine pm_R_br pm_M190 (pc_q := 2) rfl rfl ?_
              refine pm_R_lo pm_M190 (pc_q := 3) rfl rfl rfl ?_
              refine pm_R_op pm_M190 (pc_q := 4) (st_q := [.int 4, .int 2]) rfl rfl rfl ?_
              refine pm_R_br pm_M190 (pc_q := 7) (st_q := []) rfl rfl ?_
              refine pm_R_lo pm_M190 (pc_q := 8) rfl rfl rfl ?_
              refine rf_R_get pm_M190 T590 (pc_q := 11) (v := .ref 52) rfl rfl rfl rfl ?_
              refine pm_R_lo pm_M190 (pc_q := 12) rfl rfl rfl ?_
              refine pm_R_op pm_M190 (pc_q := 13) (st_q := [.int (-1), .int 2, .ref 52]) rfl rfl rfl ?_
              refine rf_R_ist pm_M190 T590 (pc_q := 14) rfl e592 (by decide) (by decide) rfl ⟨_, rfl, sf_upd (sf_upd (sf_upd b583 (sf_weak sf_kn1 (by decide) (by decide)) _) (sf_weak sf_kn1 (by decide) (by decide)) _) (sf_weak sf_kn1 (by decide) (by decide)) _⟩ rfl (fun h594 T595 F596 e597 => ?_)
              have F598 := F593.trans F596 (by decide)
              refine pm_R_lo pm_M190 (pc_q := 17) (ls_q := [.ref 41, .int 3]) (st_q := []) rfl rfl rfl ?_
              refine pm_R_br pm_M190 (pc_q := 2) rfl rfl ?_
              refine pm_R_lo pm_M190 (pc_q := 3) rfl rfl rfl ?_
              refine pm_R_op pm_M190 (pc_q := 4) (st_q := [.int 4, .int 3]) rfl rfl rfl ?_
              refine pm_R_br pm_M190 (pc_q := 7) (st_q := []) rfl rfl ?_
              refine pm_R_lo pm_M190 (pc_q := 8) rfl rfl rfl ?_
              refine rf_R_get pm_M190 T595 (pc_q := 11) (v := .ref 52) rfl rfl rfl rfl ?_
              refine pm_R_lo pm_M190 (pc_q := 12) rfl rfl rfl ?_
              refine pm_R_op pm_M190 (pc_q := 13) (st_q := [.int (-1), .int 3, .ref 52]) rfl rfl rfl ?_
              refine rf_R_ist pm_M190 T595 (pc_q := 14) rfl e597 (by decide) (by decide) rfl ⟨_, rfl, sf_upd (sf_upd (sf_upd (sf_upd b583 (sf_weak sf_kn1 (by decide) (by decide)) _) (sf_weak sf_kn1 (by decide) (by decide)) _) (sf_weak sf_kn1 (by decide) (by decide)) _) (sf_weak sf_kn1 (by decide) (by decide)) _⟩ rfl (fun h599 T600 F601 e602 => ?_)
              have F603 := F598.trans F601 (by decide)
              refine pm_R_lo pm_M190 (pc_q := 17) (ls_q := [.ref 41, .int 4]) (st_q := []) rfl rfl rfl ?_
              refine pm_R_br pm_M190 (pc_q := 2) rfl rfl ?_
              refine pm_R_lo pm_M190 (pc_q := 3) rfl rfl rfl ?_
              refine pm_R_op pm_M190 (pc_q := 4) (st_q := [.int 4, .int 4]) rfl rfl rfl ?_
              refine pm_R_br pm_M190 (pc_q := 20) (st_q := []) rfl rfl ?_
              refine pm_R_ret pm_M190 (r := none) rfl rfl ?_
              show pm_R _ 192 111 [.ref 41, .long a0, pm_no, .int a1, .int 4] [] _ _
              refine pm_R_lo pm_M192 (pc_q := 112) rfl rfl rfl ?_
              refine rf_R_get pm_M192 T600 (pc_q := 115) (v := .ref 52) rfl rfl rfl rfl ?_
              refine pm_R_op pm_M192 (pc_q := 116) (st_q := [.int 0, .ref 52]) (pm_q192_1 (Nat.le_of_ble_eq_true rfl)) rfl rfl ?_
              refine pm_R_lo pm_M192 (pc_q := 118) (pm_q192_1 (Nat.le_of_ble_eq_true rfl)) rfl rfl ?_
              refine rf_R_ist pm_M192 T600 (pc_q := 119) (pm_q192_1 (Nat.le_of_ble_eq_true rfl)) e602 (by decide) (by decide) rfl ⟨_, rfl, sf_upd (sf_upd (sf_upd (sf_upd (sf_upd b583 (sf_weak sf_kn1 (by decide) (by decide)) _) (sf_weak sf_kn1 (by decide) (by decide)) _) (sf_weak sf_kn1 (by decide) (by decide)) _) (sf_weak sf_kn1 (by decide) (by decide)) _) (sf_weak sf_k4 (by decide) (by decide)) _⟩ rfl (fun h604 T605 F606 e607 => ?_)
              have F608 := F603.trans F606 (by decide)
              refine pm_R_lo pm_M192 (pc_q := 120) (pm_q192_1 (Nat.le_of_ble_eq_true rfl)) rfl rfl ?_
              refine pm_R_op pm_M192 (pc_q := 121) (st_q := [.int 1, .ref 41]) (pm_q192_1 (Nat.le_of_ble_eq_true rfl)) rfl rfl ?_
              refine pm_R_op pm_M192 (pc_q := 123) (st_q := [.int 9, .int 1, .ref 41]) (pm_q192_1 (Nat.le_of_ble_eq_true rfl)) rfl rfl ?_
              refine pm_R_op pm_M192 (pc_q := 124) (st_q := [.int (-1), .int 9, .int 1, .ref 41]) (pm_q192_1 (Nat.le_of_ble_eq_true rfl)) rfl rfl ?_
              refine pm_R_cv pm_M192 (pc_q := 127) (a := 41) (ra := [.int (-1), .int 9, .int 1]) (rest := []) (ls_q := [.ref 41, .int 1, .int 9, .int (-1)]) (pm_q192_1 (Nat.le_of_ble_eq_true rfl)) rfl (Or.inl rfl) pm_M183 T605.2.1 rfl (by decide) (Nat.lt_of_lt_of_le (by decide) T605.1) rfl rfl (Nat.le_of_ble_eq_true rfl) rfl rfl ?_
              refine rf_c183_1_9 (d := d + 0) T605  (fun m611 w612 h613 T614 F615 W616 X617 => ?_) (fun m620 w621 h622 T623 F624 W625 X626 X627 X628 X629 X630 => ?_) (fun m633 w634 h635 T636 F637 W638 X639 X640 X641 B642 B643 => ?_)
              · have F644 := F608.trans F615 (by decide)
                have W645 : rf_W [10, 12, 13, 14, 16, 17, 18, 22] m m611 := W577.trans W616 (by decide)
                have B646 : sf_B 0 600 (m611 10) := T614.2.2.1 10
                have B647 : sf_B 0 4 (m611 13) := T614.2.2.1 13
                have B648 : sf_B 0 4 (m611 17) := T614.2.2.1 17
                have B649 : sf_B 0 1 (m611 22) := T614.2.2.1 22
                show pm_R _ 192 127 [.ref 41, .long a0, pm_no, .int a1, .int 4] [.int 0] _ _
                have R650 : (m 10).toInt ≤ (m611 10).toInt := (sf_aux70 _ _ _ R580 X617)
                refine pm_R_br pm_M192 (pc_q := 130) (st_q := []) (pm_q192_1 (Nat.le_of_ble_eq_true rfl)) rfl ?_
                refine pm_R_op pm_M192 (pc_q := 131) (st_q := [.int 0]) (pm_q192_1 (Nat.le_of_ble_eq_true rfl)) rfl rfl ?_
                exact pm_R_ret pm_M192 (r := some (.int 0)) (pm_q192_1 (Nat.le_of_ble_eq_true rfl)) rfl (K0 m611 w612 h613 T614 F644 W645 (sf_aux51 _ _ R650))
              · have F651 := F608.trans F624 (by decide)
                have W652 : rf_W [10, 12, 13, 14, 16, 17, 18, 22] m m620 := W577.trans W625 (by decide)
                have B653 : sf_B 0 600 (m620 10) := T623.2.2.1 10
                have B654 : sf_B 0 4 (m620 13) := T623.2.2.1 13
                have B655 : sf_B 0 4 (m620 17) := T623.2.2.1 17
                have B656 : sf_B 0 1 (m620 22) := T623.2.2.1 22
                show pm_R _ 192 127 [.ref 41, .long a0, pm_no, .int a1, .int 4] [.int 1] _ _
                have R657 : (m 10).toInt ≤ (m620 10).toInt := (sf_aux70 _ _ _ R580 X630)
                obtain ⟨v658, B659, e660⟩ := X626 _ e607
                refine pm_R_br pm_M192 (pc_q := 132) (st_q := []) (pm_q192_1 (Nat.le_of_ble_eq_true rfl)) rfl ?_
                refine pm_R_lo pm_M192 (pc_q := 134) (pm_q192_1 (Nat.le_of_ble_eq_true rfl)) rfl rfl ?_
                refine pm_R_op pm_M192 (pc_q := 135) (st_q := [.int 1, .int 4]) (pm_q192_1 (Nat.le_of_ble_eq_true rfl)) rfl rfl ?_
                refine pm_R_br pm_M192 (pc_q := 138) (st_q := []) (pm_q192_1 (Nat.le_of_ble_eq_true rfl)) rfl ?_
                refine pm_R_lo pm_M192 (pc_q := 140) (pm_q192_1 (Nat.le_of_ble_eq_true rfl)) rfl rfl ?_
                refine pm_R_op pm_M192 (pc_q := 141) (st_q := [.int 2, .int 4]) (pm_q192_1 (Nat.le_of_ble_eq_true rfl)) rfl rfl ?_
                refine pm_R_br pm_M192 (pc_q := 144) (st_q := []) (pm_q192_1 (Nat.le_of_ble_eq_true rfl)) rfl ?_
                refine pm_R_lo pm_M192 (pc_q := 146) (pm_q192_1 (Nat.le_of_ble_eq_true rfl)) rfl rfl ?_
                refine pm_R_op pm_M192 (pc_q := 147) (st_q := [.int 3, .int 4]) (pm_q192_1 (Nat.le_of_ble_eq_true rfl)) rfl rfl ?_
                refine pm_R_br pm_M192 (pc_q := 163) (st_q := []) (pm_q192_1 (Nat.le_of_ble_eq_true rfl)) rfl ?_
                refine pm_R_lo pm_M192 (pc_q := 164) (pm_q192_1 (Nat.le_of_ble_eq_true rfl)) rfl rfl ?_
                refine pm_R_op pm_M192 (pc_q := 165) (st_q := [.int 0, .ref 41]) (pm_q192_1 (Nat.le_of_ble_eq_true rfl)) rfl rfl ?_
                refine pm_R_op pm_M192 (pc_q := 166) (st_q := [.int 1, .int 0, .ref 41]) (pm_q192_1 (Nat.le_of_ble_eq_true rfl)) rfl rfl ?_
                refine pm_R_op pm_M192 (pc_q := 167) (st_q := [.int 3, .int 1, .int 0, .ref 41]) (pm_q192_1 (Nat.le_of_ble_eq_true rfl)) rfl rfl ?_
                refine pm_R_op pm_M192 (pc_q := 169) (st_q := [.int 8, .int 3, .int 1, .int 0, .ref 41]) (pm_q192_1 (Nat.le_of_ble_eq_true rfl)) rfl rfl ?_
                refine pm_R_op pm_M192 (pc_q := 170) (st_q := [.int 0, .int 8, .int 3, .int 1, .int 0, .ref 41]) (pm_q192_1 (Nat.le_of_ble_eq_true rfl)) rfl rfl ?_
                refine pm_R_cv pm_M192 (pc_q := 173) (a := 41) (ra := [.int 0, .int 8, .int 3, .int 1, .int 0]) (rest := []) (ls_q := [.ref 41, .int 0, .int 1, .int 3, .int 8, .int 0, pm_no, pm_no]) (pm_q192_1 (Nat.le_of_ble_eq_true rfl)) rfl (Or.inl rfl) pm_M185 T623.2.1 rfl (by decide) (Nat.lt_of_lt_of_le (by decide) T623.1) rfl rfl (Nat.le_of_ble_eq_true rfl) rfl rfl ?_
                have e661 := (F624.cell (by decide) (F606.cell (by decide) (F601.cell (by decide) (F596.cell (by decide) (F591.cell (by decide) (F586.cell (by decide) (F568.cell (by decide) (F552.cell (by decide) e3))))))))
                refine rf_c185_l (d := d + 2) T623 (⟨f2, e661, ct4, fun z => (sf_pos (sf_eqT X627 B573) (by decide) z)⟩) (fun z => sf_pos (sf_eqT X627 B573) (by decide) z) (fun m664 w665 h666 T667 F668 W669 X670 => ?_)
                have F671 := F651.trans F668 (by decide)
                have B672 : sf_B 0 600 (m664 10) := by rw [W669 10 (by decide)]; exact B653
                have ek673 : (m664 10).toInt = ((m620 10)).toInt := by rw [W669 10 (by decide)]
                have B674 : sf_B 0 4 (m664 13) := by rw [W669 13 (by decide)]; exact B654
                have ek675 : (m664 13).toInt = ((m620 13)).toInt := by rw [W669 13 (by decide)]
                have B676 : sf_B 1 4 (m664 17) := by rw [W669 17 (by decide)]; exact (sf_eqT X627 B573)
                have ek677 : (m664 17).toInt = ((m564 17)).toInt := by rw [W669 17 (by decide)]; exact X627
                have B678 : sf_B 0 1 (m664 22) := by rw [W669 22 (by decide)]; exact (sf_eqT X628 B575)
                have ek679 : (m664 22).toInt = ((m564 22)).toInt := by rw [W669 22 (by decide)]; exact X628
                have W680 : rf_W [10, 12, 13, 14, 16, 17, 18, 22] m m664 := W652.trans W669 (by decide)
                show pm_R _ 192 173 [.ref 41, .long a0, pm_no, .int a1, .int 4] [] _ _
                obtain ⟨f681, e682, ct683, bd684⟩ := X670
                refine pm_R_op pm_M192 (pc_q := 174) (st_q := [.int 1]) (pm_q192_1 (Nat.le_of_ble_eq_true rfl)) rfl rfl ?_
                exact pm_R_ret pm_M192 (r := some (.int 1)) (pm_q192_1 (Nat.le_of_ble_eq_true rfl)) rfl (K1 m664 w665 h666 T667 F671 W680 (⟨f681, e682, ct683, fun z => (sf_pos B676 (by decide) z)⟩) (sf_aux39 _ _ _ ek673 R657))
              · have F685 := F608.trans F637 (by decide)
                have W686 : rf_W [10, 12, 13, 14, 16, 17, 18, 22] m m633 := W577.trans W638 (by decide)
                have B687 : sf_B 0 600 (m633 10) := T636.2.2.1 10
                have B688 : sf_B 0 4 (m633 13) := T636.2.2.1 13
                have B689 : sf_B 0 4 (m633 17) := T636.2.2.1 17
                have B690 : sf_B 0 1 (m633 22) := T636.2.2.1 22
                show pm_R _ 192 127 [.ref 41, .long a0, pm_no, .int a1, .int 4] [.int 1] _ _
                have R691 : (m 10).toInt ≤ (m633 10).toInt := (sf_aux70 _ _ _ R580 X641)
                obtain ⟨v692, B693, e694⟩ := X639 _ e607
                refine pm_R_br pm_M192 (pc_q := 132) (st_q := []) (pm_q192_1 (Nat.le_of_ble_eq_true rfl)) rfl ?_
                refine pm_R_lo pm_M192 (pc_q := 134) (pm_q192_1 (Nat.le_of_ble_eq_true rfl)) rfl rfl ?_
                refine pm_R_op pm_M192 (pc_q := 135) (st_q := [.int 1, .int 4]) (pm_q192_1 (Nat.le_of_ble_eq_true rfl)) rfl rfl ?_
                refine pm_R_br pm_M192 (pc_q := 138) (st_q := []) (pm_q192_1 (Nat.le_of_ble_eq_true rfl)) rfl ?_
                refine pm_R_lo pm_M192 (pc_q := 140) (pm_q192_1 (Nat.le_of_ble_eq_true rfl)) rfl rfl ?_
                refine pm_R_op pm_M192 (pc_q := 141) (st_q := [.int 2, .int 4]) (pm_q192_1 (Nat.le_of_ble_eq_true rfl)) rfl rfl ?_
                refine pm_R_br pm_M192 (pc_q := 144) (st_q := []) (pm_q192_1 (Nat.le_of_ble_eq_true rfl)) rfl ?_
                refine pm_R_lo pm_M192 (pc_q := 146) (pm_q192_1 (Nat.le_of_ble_eq_true rfl)) rfl rfl ?_
                refine pm_R_op pm_M192 (pc_q := 147) (st_q := [.int 3, .int 4]) (pm_q192_1 (Nat.le_of_ble_eq_true rfl)) rfl rfl ?_
                refine pm_R_br pm_M192 (pc_q := 163) (st_q := []) (pm_q192_1 (Nat.le_of_ble_eq_true rfl)) rfl ?_
                refine pm_R_lo pm_M192 (pc_q := 164) (pm_q192_1 (Nat.le_of_ble_eq_true rfl)) rfl rfl ?_
                refine pm_R_op pm_M192 (pc_q := 165) (st_q := [.int 0, .ref 41]) (pm_q192_1 (Nat.le_of_ble_eq_true rfl)) rfl rfl ?_
                refine pm_R_op pm_M192 (pc_q := 166) (st_q := [.int 1, .int 0, .ref 41]) (pm_q192_1 (Nat.le_of_ble_eq_true rfl)) rfl rfl ?_
                refine pm_R_op pm_M192 (pc_q := 167) (st_q := [.int 3, .int 1, .int 0, .ref 41]) (pm_q192_1 (Nat.le_of_ble_eq_true rfl)) rfl rfl ?_
                refine pm_R_op pm_M192 (pc_q := 169) (st_q := [.int 8, .int 3, .int 1, .int 0, .ref 41]) (pm_q192_1 (Nat.le_of_ble_eq_true rfl)) rfl rfl ?_
                refine pm_R_op pm_M192 (pc_q := 170) (st_q := [.int 0, .int 8, .int 3, .int 1, .int 0, .ref 41]) (pm_q192_1 (Nat.le_of_ble_eq_true rfl)) rfl rfl ?_
                refine pm_R_cv pm_M192 (pc_q := 173) (a := 41) (ra := [.int 0, .int 8, .int 3, .int 1, .int 0]) (rest := []) (ls_q := [.ref 41, .int 0, .int 1, .int 3, .int 8, .int 0, pm_no, pm_no]) (pm_q192_1 (Nat.le_of_ble_eq_true rfl)) rfl (Or.inl rfl) pm_M185 T636.2.1 rfl (by decide) (Nat.lt_of_lt_of_le (by decide) T636.1) rfl rfl (Nat.le_of_ble_eq_true rfl) rfl rfl ?_
                have e695 := (F637.cell (by decide) (F606.cell (by decide) (F601.cell (by decide) (F596.cell (by decide) (F591.cell (by decide) (F586.cell (by decide) (F568.cell (by decide) (F552.cell (by decide) e3))))))))
                refine rf_c185_l (d := d + 2) T636 (⟨f2, e695, ct4, fun z => (sf_pos B642 (by decide) z)⟩) (fun z => sf_pos B642 (by decide) z) (fun m698 w699 h700 T701 F702 W703 X704 => ?_)
                have F705 := F685.trans F702 (by decide)
                have B706 : sf_B 0 600 (m698 10) := by rw [W703 10 (by decide)]; exact B687
                have ek707 : (m698 10).toInt = ((m633 10)).toInt := by rw [W703 10 (by decide)]
                have B708 : sf_B 0 4 (m698 13) := by rw [W703 13 (by decide)]; exact B688
                have ek709 : (m698 13).toInt = ((m633 13)).toInt := by rw [W703 13 (by decide)]
                have B710 : sf_B 1 4 (m698 17) := by rw [W703 17 (by decide)]; exact B642
                have ek711 : (m698 17).toInt = ((m633 17)).toInt := by rw [W703 17 (by decide)]
                have B712 : sf_B 0 0 (m698 22) := by rw [W703 22 (by decide)]; exact B643
                have ek713 : (m698 22).toInt = ((m633 22)).toInt := by rw [W703 22 (by decide)]
                have W714 : rf_W [10, 12, 13, 14, 16, 17, 18, 22] m m698 := W686.trans W703 (by decide)
                show pm_R _ 192 173 [.ref 41, .long a0, pm_no, .int a1, .int 4] [] _ _
                obtain ⟨f715, e716, ct717, bd718⟩ := X704
                refine pm_R_op pm_M192 (pc_q := 174) (st_q := [.int 1]) (pm_q192_1 (Nat.le_of_ble_eq_true rfl)) rfl rfl ?_
                exact pm_R_ret pm_M192 (r := some (.int 1)) (pm_q192_1 (Nat.le_of_ble_eq_true rfl)) rfl (K1 m698 w699 h700 T701 F705 W714 (⟨f715, e716, ct717, fun z => (sf_pos B710 (by decide) z)⟩) (sf_aux39 _ _ _ ek707 R691))
        · have B719 : sf_B 0 0 z19 := sf_eqL (Classical.not_not.mp c21) sf_k0
          have B720 : lf_B 1885432178 1885432178 a0 := lf_eqB e20 B719 (⟨by decide, by decide⟩ : lf_B 1885432178 1885432178 1885432178)
          refine pm_R_op pm_M192 (pc_q := 45) (st_q := [.int 3]) rfl rfl rfl ?_
          refine pm_R_br pm_M192 (pc_q := 73) rfl rfl ?_
          refine pm_R_lo pm_M192 (pc_q := 75) (ls_q := [.ref 41, .long a0, pm_no, .int a1, .int 3]) (st_q := []) rfl rfl rfl ?_
          refine pm_R_lo pm_M192 (pc_q := 77) rfl rfl rfl ?_
          refine pm_R_op pm_M192 (pc_q := 78) (st_q := [.int (-1), .int 3]) rfl rfl rfl ?_
          refine pm_R_br pm_M192 (pc_q := 86) (st_q := []) rfl rfl ?_
          refine pm_R_lo pm_M192 (pc_q := 87) rfl rfl rfl ?_
          refine rf_R_get pm_M192 T (pc_q := 90) (v := .ref 51) rfl rfl rfl rfl ?_
          refine pm_R_op pm_M192 (pc_q := 91) (st_q := [.int 0, .ref 51]) rfl rfl rfl ?_
          refine pm_R_iald pm_M192 (pc_q := 92) (v := (f2 0)) rfl e3 (Nat.lt_of_lt_of_le (by decide) T.1) rfl rfl rfl ?_
          refine pm_R_op pm_M192 (pc_q := 94) (st_q := [.int 8, .int (f2 0)]) rfl rfl rfl ?_
          refine pm_R_icmp pm_M192 (t := 103) (pc_q := 97) rfl rfl rfl (fun c723 => ?_) (fun c723 => ?_)
          · have B724 : sf_B 0 7 (f2 0) := sf_neH0 c723 sf_k8 ct4
            refine pm_R_lo pm_M192 (pc_q := 104) rfl rfl rfl ?_
            refine pm_R_cv pm_M192 (pc_q := 107) (a := 41) (ra := []) (rest := []) (ls_q := [.ref 41, pm_no, pm_no]) rfl rfl (Or.inl rfl) pm_M179 T.2.1 rfl (by decide) (Nat.lt_of_lt_of_le (by decide) T.1) rfl rfl (Nat.le_of_ble_eq_true rfl) rfl rfl ?_
            refine rf_c179 (d := d + 1) T  (fun m727 w728 h729 T730 F731 W732 X733 X734 => ?_)
            have F735 := (rf_G.refl [41, 51, 52] h).trans F731 (by decide)
            have B736 : sf_B 0 4 (m727 17) := by rw [W732 17 (by decide)]; exact B6
            have ek737 : (m727 17).toInt = ((m 17)).toInt := by rw [W732 17 (by decide)]
            have W738 : rf_W [10, 12, 13, 14, 16, 17, 18, 22] m m727 := (rf_W.refl [10, 12, 13, 14, 16, 17, 18, 22] m).trans W732 (by decide)
            have B739 : sf_B 0 600 (m727 10) := T730.2.2.1 10
            have B740 : sf_B 0 4 (m727 13) := T730.2.2.1 13
            have B741 : sf_B 0 1 (m727 22) := T730.2.2.1 22
            show pm_R _ 192 107 [.ref 41, .long a0, pm_no, .int a1, .int 3] [] _ _
            have R742 : (m 10).toInt ≤ (m727 10).toInt := (sf_aux51 _ _ X733)
            refine pm_R_lo pm_M192 (pc_q := 108) rfl rfl rfl ?_
            refine pm_R_cv pm_M192 (pc_q := 111) (a := 41) (ra := []) (rest := []) (ls_q := [.ref 41, pm_no]) rfl rfl (Or.inl rfl) pm_M190 T730.2.1 rfl (by decide) (Nat.lt_of_lt_of_le (by decide) T730.1) rfl rfl (Nat.le_of_ble_eq_true rfl) rfl rfl ?_
            refine pm_R_op pm_M190 (pc_q := 1) (st_q := [.int 0]) rfl rfl rfl ?_
            refine pm_R_lo pm_M190 (pc_q := 2) (ls_q := [.ref 41, .int 0]) (st_q := []) rfl rfl rfl ?_
            refine pm_R_lo pm_M190 (pc_q := 3) rfl rfl rfl ?_
            refine pm_R_op pm_M190 (pc_q := 4) (st_q := [.int 4, .int 0]) rfl rfl rfl ?_
            refine pm_R_br pm_M190 (pc_q := 7) (st_q := []) rfl rfl ?_
            refine pm_R_lo pm_M190 (pc_q := 8) rfl rfl rfl ?_
            refine rf_R_get pm_M190 T730 (pc_q := 11) (v := .ref 52) rfl rfl rfl rfl ?_
            refine pm_R_lo pm_M190 (pc_q := 12) rfl rfl rfl ?_
            refine pm_R_op pm_M190 (pc_q := 13) (st_q := [.int (-1), .int 0, .ref 52]) rfl rfl rfl ?_
            obtain ⟨f743, e744, b745⟩ := T730.2.2.2.1 52 (by decide) (by decide)
            refine rf_R_ist pm_M190 T730 (pc_q := 14) rfl e744 (by decide) (by decide) rfl ⟨_, rfl, sf_upd b745 (sf_weak sf_kn1 (by decide) (by decide)) _⟩ rfl (fun h746 T747 F748 e749 => ?_)
            have F750 := F735.trans F748 (by decide)
            refine pm_R_lo pm_M190 (pc_q := 17) (ls_q := [.ref 41, .int 1]) (st_q := []) rfl rfl rfl ?_
            refine pm_R_br pm_M190 (pc_q := 2) rfl rfl ?_
            refine pm_R_lo pm_M190 (pc_q := 3) rfl rfl rfl ?_
            refine pm_R_op pm_M190 (pc_q := 4) (st_q := [.int 4, .int 1]) rfl rfl rfl ?_
            refine pm_R_br pm_M190 (pc_q := 7) (st_q := []) rfl rfl ?_
            refine pm_R_lo pm_M190 (pc_q := 8) rfl rfl rfl ?_
            refine rf_R_get pm_M190 T747 (pc_q := 11) (v := .ref 52) rfl rfl rfl rfl ?_
            refine pm_R_lo pm_M190 (pc_q := 12) rfl rfl rfl ?_
            refine pm_R_op pm_M190 (pc_q := 13) (st_q := [.int (-1), .int 1, .ref 52]) rfl rfl rfl ?_
            refine rf_R_ist pm_M190 T747 (pc_q := 14) rfl e749 (by decide) (by decide) rfl ⟨_, rfl, sf_upd (sf_upd b745 (sf_weak sf_kn1 (by decide) (by decide)) _) (sf_weak sf_kn1 (by decide) (by decide)) _⟩ rfl (fun h751 T752 F753 e754 => ?_)
            have F755 := F750.trans F753 (by decide)
            refine pm_R_lo pm_M190 (pc_q := 17) (ls_q := [.ref 41, .int 2]) (st_q := []) rfl rfl rfl ?_
            refine pm_R_br pm_M190 (pc_q := 2) rfl rfl ?_
            refine pm_R_lo pm_M190 (pc_q := 3) rfl rfl rfl ?_
            refine pm_R_op pm_M190 (pc_q := 4) (st_q := [.int 4, .int 2]) rfl rfl rfl ?_
            refine pm_R_br pm_M190 (pc_q := 7) (st_q := []) rfl rfl ?_
            refine pm_R_lo pm_M190 (pc_q := 8) rfl rfl rfl ?_
            refine rf_R_get pm_M190 T752 (pc_q := 11) (v := .ref 52) rfl rfl rfl rfl ?_
            refine pm_R_lo pm_M190 (pc_q := 12) rfl rfl rfl ?_
            refine pm_R_op pm_M190 (pc_q := 13) (st_q := [.int (-1), .int 2, .ref 52]) rfl rfl rfl ?_
            refine rf_R_ist pm_M190 T752 (pc_q := 14) rfl e754 (by decide) (by decide) rfl ⟨_, rfl, sf_upd (sf_upd (sf_upd b745 (sf_weak sf_kn1 (by decide) (by decide)) _) (sf_weak sf_kn1 (by decide) (by decide)) _) (sf_weak sf_kn1 (by decide) (by decide)) _⟩ rfl (fun h756 T757 F758 e759 => ?_)
            have F760 := F755.trans F758 (by decide)
            refine pm_R_lo pm_M190 (pc_q := 17) (ls_q := [.ref 41, .int 3]) (st_q := []) rfl rfl rfl ?_
            refine pm_R_br pm_M190 (pc_q := 2) rfl rfl ?_
            refine pm_R_lo pm_M190 (pc_q := 3) rfl rfl rfl ?_
            refine pm_R_op pm_M190 (pc_q := 4) (st_q := [.int 4, .int 3]) rfl rfl rfl ?_
            refine pm_R_br pm_M190 (pc_q := 7) (st_q := []) rfl rfl ?_
            refine pm_R_lo pm_M190 (pc_q := 8) rfl rfl rfl ?_
            refine rf_R_get pm_M190 T757 (pc_q := 11) (v := .ref 52) rfl rfl rfl rfl ?_
            refine pm_R_lo pm_M190 (pc_q := 12) rfl rfl rfl ?_
            refine pm_R_op pm_M190 (pc_q := 13) (st_q := [.int (-1), .int 3, .ref 52]) rfl rfl rfl ?_
            refine rf_R_ist pm_M190 T757 (pc_q := 14) rfl e759 (by decide) (by decide) rfl ⟨_, rfl, sf_upd (sf_upd (sf_upd (sf_upd b745 (sf_weak sf_kn1 (by decide) (by decide)) _) (sf_weak sf_kn1 (by decide) (by decide)) _) (sf_weak sf_kn1 (by decide) (by decide)) _) (sf_weak sf_kn1 (by decide) (by decide)) _⟩ rfl (fun h761 T762 F763 e764 => ?_)
            have F765 := F760.trans F763 (by decide)
            refine pm_R_lo pm_M190 (pc_q := 17) (ls_q := [.ref 41, .int 4]) (st_q := []) rfl rfl rfl ?_
            refine pm_R_br pm_M190 (pc_q := 2) rfl rfl ?_
            refine pm_R_lo pm_M190 (pc_q := 3) rfl rfl rfl ?_
            refine pm_R_op pm_M190 (pc_q := 4) (st_q := [.int 4, .int 4]) rfl rfl rfl ?_
            refine pm_R_br pm_M190 (pc_q := 20) (st_q := []) rfl rfl ?_
            refine pm_R_ret pm_M190 (r := none) rfl rfl ?_
            show pm_R _ 192 111 [.ref 41, .long a0, pm_no, .int a1, .int 3] [] _ _
            refine pm_R_lo pm_M192 (pc_q := 112) rfl rfl rfl ?_
            refine rf_R_get pm_M192 T762 (pc_q := 115) (v := .ref 52) rfl rfl rfl rfl ?_
            refine pm_R_op pm_M192 (pc_q := 116) (st_q := [.int 0, .ref 52]) (pm_q192_1 (Nat.le_of_ble_eq_true rfl)) rfl rfl ?_
            refine pm_R_lo pm_M192 (pc_q := 118) (pm_q192_1 (Nat.le_of_ble_eq_true rfl)) rfl rfl ?_
            refine rf_R_ist pm_M192 T762 (pc_q := 119) (pm_q192_1 (Nat.le_of_ble_eq_true rfl)) e764 (by decide) (by decide) rfl ⟨_, rfl, sf_upd (sf_upd (sf_upd (sf_upd (sf_upd b745 (sf_weak sf_kn1 (by decide) (by decide)) _) (sf_weak sf_kn1 (by decide) (by decide)) _) (sf_weak sf_kn1 (by decide) (by decide)) _) (sf_weak sf_kn1 (by decide) (by decide)) _) (sf_weak sf_k3 (by decide) (by decide)) _⟩ rfl (fun h766 T767 F768 e769 => ?_)
            have F770 := F765.trans F768 (by decide)
            refine pm_R_lo pm_M192 (pc_q := 120) (pm_q192_1 (Nat.le_of_ble_eq_true rfl)) rfl rfl ?_
            refine pm_R_op pm_M192 (pc_q := 121) (st_q := [.int 1, .ref 41]) (pm_q192_1 (Nat.le_of_ble_eq_true rfl)) rfl rfl ?_
            refine pm_R_op pm_M192 (pc_q := 123) (st_q := [.int 9, .int 1, .ref 41]) (pm_q192_1 (Nat.le_of_ble_eq_true rfl)) rfl rfl ?_
            refine pm_R_op pm_M192 (pc_q := 124) (st_q := [.int (-1), .int 9, .int 1, .ref 41]) (pm_q192_1 (Nat.le_of_ble_eq_true rfl)) rfl rfl ?_
            refine pm_R_cv pm_M192 (pc_q := 127) (a := 41) (ra := [.int (-1), .int 9, .int 1]) (rest := []) (ls_q := [.ref 41, .int 1, .int 9, .int (-1)]) (pm_q192_1 (Nat.le_of_ble_eq_true rfl)) rfl (Or.inl rfl) pm_M183 T767.2.1 rfl (by decide) (Nat.lt_of_lt_of_le (by decide) T767.1) rfl rfl (Nat.le_of_ble_eq_true rfl) rfl rfl ?_
            refine rf_c183_1_9 (d := d + 0) T767  (fun m773 w774 h775 T776 F777 W778 X779 => ?_) (fun m782 w783 h784 T785 F786 W787 X788 X789 X790 X791 X792 => ?_) (fun m795 w796 h797 T798 F799 W800 X801 X802 X803 B804 B805 => ?_)
            · have F806 := F770.trans F777 (by decide)
              have W807 : rf_W [10, 12, 13, 14, 16, 17, 18, 22] m m773 := W738.trans W778 (by decide)
              have B808 : sf_B 0 600 (m773 10) := T776.2.2.1 10
              have B809 : sf_B 0 4 (m773 13) := T776.2.2.1 13
              have B810 : sf_B 0 4 (m773 17) := T776.2.2.1 17
              have B811 : sf_B 0 1 (m773 22) := T776.2.2.1 22
              show pm_R _ 192 127 [.ref 41, .long a0, pm_no, .int a1, .int 3] [.int 0] _ _
              have R812 : (m 10).toInt ≤ (m773 10).toInt := (sf_aux70 _ _ _ R742 X779)
              refine pm_R_br pm_M192 (pc_q := 130) (st_q := []) (pm_q192_1 (Nat.le_of_ble_eq_true rfl)) rfl ?_
              refine pm_R_op pm_M192 (pc_q := 131) (st_q := [.int 0]) (pm_q192_1 (Nat.le_of_ble_eq_true rfl)) rfl rfl ?_
              exact pm_R_ret pm_M192 (r := some (.int 0)) (pm_q192_1 (Nat.le_of_ble_eq_true rfl)) rfl (K0 m773 w774 h775 T776 F806 W807 (sf_aux51 _ _ R812))
            · have F813 := F770.trans F786 (by decide)
              have W814 : rf_W [10, 12, 13, 14, 16, 17, 18, 22] m m782 := W738.trans W787 (by decide)
              have B815 : sf_B 0 600 (m782 10) := T785.2.2.1 10
              have B816 : sf_B 0 4 (m782 13) := T785.2.2.1 13
              have B817 : sf_B 0 4 (m782 17) := T785.2.2.1 17
              have B818 : sf_B 0 1 (m782 22) := T785.2.2.1 22
              show pm_R _ 192 127 [.ref 41, .long a0, pm_no, .int a1, .int 3] [.int 1] _ _
              have R819 : (m 10).toInt ≤ (m782 10).toInt := (sf_aux70 _ _ _ R742 X792)
              obtain ⟨v820, B821, e822⟩ := X788 _ e769
              refine pm_R_br pm_M192 (pc_q := 132) (st_q := []) (pm_q192_1 (Nat.le_of_ble_eq_true rfl)) rfl ?_
              refine pm_R_lo pm_M192 (pc_q := 134) (pm_q192_1 (Nat.le_of_ble_eq_true rfl)) rfl rfl ?_
              refine pm_R_op pm_M192 (pc_q := 135) (st_q := [.int 1, .int 3]) (pm_q192_1 (Nat.le_of_ble_eq_true rfl)) rfl rfl ?_
              refine pm_R_br pm_M192 (pc_q := 138) (st_q := []) (pm_q192_1 (Nat.le_of_ble_eq_true rfl)) rfl ?_
              refine pm_R_lo pm_M192 (pc_q := 140) (pm_q192_1 (Nat.le_of_ble_eq_true rfl)) rfl rfl ?_
              refine pm_R_op pm_M192 (pc_q := 141) (st_q := [.int 2, .int 3]) (pm_q192_1 (Nat.le_of_ble_eq_true rfl)) rfl rfl ?_
              refine pm_R_br pm_M192 (pc_q := 144) (st_q := []) (pm_q192_1 (Nat.le_of_ble_eq_true rfl)) rfl ?_
              refine pm_R_lo pm_M192 (pc_q := 146) (pm_q192_1 (Nat.le_of_ble_eq_true rfl)) rfl rfl ?_
              refine pm_R_op pm_M192 (pc_q := 147) (st_q := [.int 3, .int 3]) (pm_q192_1 (Nat.le_of_ble_eq_true rfl)) rfl rfl ?_
              refine pm_R_br pm_M192 (pc_q := 150) (st_q := []) (pm_q192_1 (Nat.le_of_ble_eq_true rfl)) rfl ?_
              refine pm_R_lo pm_M192 (pc_q := 151) (pm_q192_1 (Nat.le_of_ble_eq_true rfl)) rfl rfl ?_
              refine pm_R_op pm_M192 (pc_q := 152) (st_q := [.int 2, .ref 41]) (pm_q192_1 (Nat.le_of_ble_eq_true rfl)) rfl rfl ?_
              refine pm_R_op pm_M192 (pc_q := 154) (st_q := [.int 9, .int 2, .ref 41]) (pm_q192_1 (Nat.le_of_ble_eq_true rfl)) rfl rfl ?_
              refine pm_R_op pm_M192 (pc_q := 155) (st_q := [.int (-1), .int 9, .int 2, .ref 41]) (pm_q192_1 (Nat.le_of_ble_eq_true rfl)) rfl rfl ?_
              refine pm_R_cv pm_M192 (pc_q := 158) (a := 41) (ra := [.int (-1), .int 9, .int 2]) (rest := []) (ls_q := [.ref 41, .int 2, .int 9, .int (-1)]) (pm_q192_1 (Nat.le_of_ble_eq_true rfl)) rfl (Or.inl rfl) pm_M183 T785.2.1 rfl (by decide) (Nat.lt_of_lt_of_le (by decide) T785.1) rfl rfl (Nat.le_of_ble_eq_true rfl) rfl rfl ?_
              refine rf_c183_2_9 (d := d + 0) T785  (fun m825 w826 h827 T828 F829 W830 X831 => ?_) (fun m834 w835 h836 T837 F838 W839 X840 X841 X842 X843 X844 => ?_) (fun m847 w848 h849 T850 F851 W852 X853 X854 X855 B856 B857 => ?_)
              · have F858 := F813.trans F829 (by decide)
                have W859 : rf_W [10, 12, 13, 14, 16, 17, 18, 22] m m825 := W814.trans W830 (by decide)
                have B860 : sf_B 0 600 (m825 10) := T828.2.2.1 10
                have B861 : sf_B 0 4 (m825 13) := T828.2.2.1 13
                have B862 : sf_B 0 4 (m825 17) := T828.2.2.1 17
                have B863 : sf_B 0 1 (m825 22) := T828.2.2.1 22
                show pm_R _ 192 158 [.ref 41, .long a0, pm_no, .int a1, .int 3] [.int 0] _ _
                have R864 : (m 10).toInt ≤ (m825 10).toInt := (sf_aux70 _ _ _ R819 X831)
                refine pm_R_br pm_M192 (pc_q := 161) (st_q := []) (pm_q192_1 (Nat.le_of_ble_eq_true rfl)) rfl ?_
                refine pm_R_op pm_M192 (pc_q := 162) (st_q := [.int 0]) (pm_q192_1 (Nat.le_of_ble_eq_true rfl)) rfl rfl ?_
                exact pm_R_ret pm_M192 (r := some (.int 0)) (pm_q192_1 (Nat.le_of_ble_eq_true rfl)) rfl (K0 m825 w826 h827 T828 F858 W859 (sf_aux51 _ _ R864))
              · have F865 := F813.trans F838 (by decide)
                have W866 : rf_W [10, 12, 13, 14, 16, 17, 18, 22] m m834 := W814.trans W839 (by decide)
                have B867 : sf_B 0 600 (m834 10) := T837.2.2.1 10
                have B868 : sf_B 0 4 (m834 13) := T837.2.2.1 13
                have B869 : sf_B 0 4 (m834 17) := T837.2.2.1 17
                have B870 : sf_B 0 1 (m834 22) := T837.2.2.1 22
                show pm_R _ 192 158 [.ref 41, .long a0, pm_no, .int a1, .int 3] [.int 1] _ _
                have R871 : (m 10).toInt ≤ (m834 10).toInt := (sf_aux70 _ _ _ R819 X844)
                obtain ⟨v872, B873, e874⟩ := X840 _ e822
                refine pm_R_br pm_M192 (pc_q := 163) (st_q := []) (pm_q192_1 (Nat.le_of_ble_eq_true rfl)) rfl ?_
                refine pm_R_lo pm_M192 (pc_q := 164) (pm_q192_1 (Nat.le_of_ble_eq_true rfl)) rfl rfl ?_
                refine pm_R_op pm_M192 (pc_q := 165) (st_q := [.int 0, .ref 41]) (pm_q192_1 (Nat.le_of_ble_eq_true rfl)) rfl rfl ?_
                refine pm_R_op pm_M192 (pc_q := 166) (st_q := [.int 1, .int 0, .ref 41]) (pm_q192_1 (Nat.le_of_ble_eq_true rfl)) rfl rfl ?_
                refine pm_R_op pm_M192 (pc_q := 167) (st_q := [.int 3, .int 1, .int 0, .ref 41]) (pm_q192_1 (Nat.le_of_ble_eq_true rfl)) rfl rfl ?_
                refine pm_R_op pm_M192 (pc_q := 169) (st_q := [.int 8, .int 3, .int 1, .int 0, .ref 41]) (pm_q192_1 (Nat.le_of_ble_eq_true rfl)) rfl rfl ?_
                refine pm_R_op pm_M192 (pc_q := 170) (st_q := [.int 0, .int 8, .int 3, .int 1, .int 0, .ref 41]) (pm_q192_1 (Nat.le_of_ble_eq_true rfl)) rfl rfl ?_
                refine pm_R_cv pm_M192 (pc_q := 173) (a := 41) (ra := [.int 0, .int 8, .int 3, .int 1, .int 0]) (rest := []) (ls_q := [.ref 41, .int 0, .int 1, .int 3, .int 8, .int 0, pm_no, pm_no]) (pm_q192_1 (Nat.le_of_ble_eq_true rfl)) rfl (Or.inl rfl) pm_M185 T837.2.1 rfl (by decide) (Nat.lt_of_lt_of_le (by decide) T837.1) rfl rfl (Nat.le_of_ble_eq_true rfl) rfl rfl ?_
                have e875 := (F838.cell (by decide) (F786.cell (by decide) (F768.cell (by decide) (F763.cell (by decide) (F758.cell (by decide) (F753.cell (by decide) (F748.cell (by decide) (F731.cell (by decide) e3))))))))
                refine rf_c185_l (d := d + 2) T837 (⟨f2, e875, ct4, fun z => (bd5 (sf_aux73 _ _ _ _ ek737 X789 X841 z))⟩) (fun _ g eg => by rw [e874] at eg; cases eg; exact ⟨sf_eqL (Eq.trans (sf_upd_nec (k := Int32.toNatClampNeg 2) (j := Int32.toNatClampNeg 0) (by decide)) (Eq.trans (sf_upd_nec (k := Int32.toNatClampNeg 1) (j := Int32.toNatClampNeg 0) (by decide)) sf_upd_eq)) (sf_weak sf_k3 (by decide) (by decide)), sf_eqL (Eq.trans (sf_upd_nec (k := Int32.toNatClampNeg 2) (j := Int32.toNatClampNeg 1) (by decide)) sf_upd_eq) B821, sf_eqL sf_upd_eq (sf_weak B873 (by decide) (by decide))⟩) (fun m878 w879 h880 T881 F882 W883 X884 => ?_)
                have F885 := F865.trans F882 (by decide)
                have B886 : sf_B 0 600 (m878 10) := by rw [W883 10 (by decide)]; exact B867
                have ek887 : (m878 10).toInt = ((m834 10)).toInt := by rw [W883 10 (by decide)]
                have B888 : sf_B 0 4 (m878 13) := by rw [W883 13 (by decide)]; exact B868
                have ek889 : (m878 13).toInt = ((m834 13)).toInt := by rw [W883 13 (by decide)]
                have B890 : sf_B 0 4 (m878 17) := by rw [W883 17 (by decide)]; exact (sf_eqT X841 (sf_eqT X789 B736))
                have ek891 : (m878 17).toInt = ((m782 17)).toInt := by rw [W883 17 (by decide)]; exact X841
                have B892 : sf_B 0 1 (m878 22) := by rw [W883 22 (by decide)]; exact (sf_eqT X842 (sf_eqT X790 B741))
                have ek893 : (m878 22).toInt = ((m782 22)).toInt := by rw [W883 22 (by decide)]; exact X842
                have W894 : rf_W [10, 12, 13, 14, 16, 17, 18, 22] m m878 := W866.trans W883 (by decide)
                show pm_R _ 192 173 [.ref 41, .long a0, pm_no, .int a1, .int 3] [] _ _
                obtain ⟨f895, e896, ct897, bd898⟩ := X884
                refine pm_R_op pm_M192 (pc_q := 174) (st_q := [.int 1]) (pm_q192_1 (Nat.le_of_ble_eq_true rfl)) rfl rfl ?_
                exact pm_R_ret pm_M192 (r := some (.int 1)) (pm_q192_1 (Nat.le_of_ble_eq_true rfl)) rfl (K1 m878 w879 h880 T881 F885 W894 (⟨f895, e896, ct897, fun z => (bd898 z)⟩) (sf_aux39 _ _ _ ek887 R871))
              · have F899 := F813.trans F851 (by decide)
                have W900 : rf_W [10, 12, 13, 14, 16, 17, 18, 22] m m847 := W814.trans W852 (by decide)
                have B901 : sf_B 0 600 (m847 10) := T850.2.2.1 10
                have B902 : sf_B 0 4 (m847 13) := T850.2.2.1 13
                have B903 : sf_B 0 4 (m847 17) := T850.2.2.1 17
                have B904 : sf_B 0 1 (m847 22) := T850.2.2.1 22
                show pm_R _ 192 158 [.ref 41, .long a0, pm_no, .int a1, .int 3] [.int 1] _ _
                have R905 : (m 10).toInt ≤ (m847 10).toInt := (sf_aux70 _ _ _ R819 X855)
                obtain ⟨v906, B907, e908⟩ := X853 _ e822
                refine pm_R_br pm_M192 (pc_q := 163) (st_q := []) (pm_q192_1 (Nat.le_of_ble_eq_true rfl)) rfl ?_
                refine pm_R_lo pm_M192 (pc_q := 164) (pm_q192_1 (Nat.le_of_ble_eq_true rfl)) rfl rfl ?_
                refine pm_R_op pm_M192 (pc_q := 165) (st_q := [.int 0, .ref 41]) (pm_q192_1 (Nat.le_of_ble_eq_true rfl)) rfl rfl ?_
                refine pm_R_op pm_M192 (pc_q := 166) (st_q := [.int 1, .int 0, .ref 41]) (pm_q192_1 (Nat.le_of_ble_eq_true rfl)) rfl rfl ?_
                refine pm_R_op pm_M192 (pc_q := 167) (st_q := [.int 3, .int 1, .int 0, .ref 41]) (pm_q192_1 (Nat.le_of_ble_eq_true rfl)) rfl rfl ?_
                refine pm_R_op pm_M192 (pc_q := 169) (st_q := [.int 8, .int 3, .int 1, .int 0, .ref 41]) (pm_q192_1 (Nat.le_of_ble_eq_true rfl)) rfl rfl ?_
                refine pm_R_op pm_M192 (pc_q := 170) (st_q := [.int 0, .int 8, .int 3, .int 1, .int 0, .ref 41]) (pm_q192_1 (Nat.le_of_ble_eq_true rfl)) rfl rfl ?_
                refine pm_R_cv pm_M192 (pc_q := 173) (a := 41) (ra := [.int 0, .int 8, .int 3, .int 1, .int 0]) (rest := []) (ls_q := [.ref 41, .int 0, .int 1, .int 3, .int 8, .int 0, pm_no, pm_no]) (pm_q192_1 (Nat.le_of_ble_eq_true rfl)) rfl (Or.inl rfl) pm_M185 T850.2.1 rfl (by decide) (Nat.lt_of_lt_of_le (by decide) T850.1) rfl rfl (Nat.le_of_ble_eq_true rfl) rfl rfl ?_
                have e909 := (F851.cell (by decide) (F786.cell (by decide) (F768.cell (by decide) (F763.cell (by decide) (F758.cell (by decide) (F753.cell (by decide) (F748.cell (by decide) (F731.cell (by decide) e3))))))))
                refine rf_c185_l (d := d + 2) T850 (⟨f2, e909, ct4, fun z => (sf_pos B856 (by decide) z)⟩) (fun z => sf_pos B856 (by decide) z) (fun m912 w913 h914 T915 F916 W917 X918 => ?_)
                have F919 := F899.trans F916 (by decide)
                have B920 : sf_B 0 600 (m912 10) := by rw [W917 10 (by decide)]; exact B901
                have ek921 : (m912 10).toInt = ((m847 10)).toInt := by rw [W917 10 (by decide)]
                have B922 : sf_B 0 4 (m912 13) := by rw [W917 13 (by decide)]; exact B902
                have ek923 : (m912 13).toInt = ((m847 13)).toInt := by rw [W917 13 (by decide)]
                have B924 : sf_B 1 4 (m912 17) := by rw [W917 17 (by decide)]; exact B856
                have ek925 : (m912 17).toInt = ((m847 17)).toInt := by rw [W917 17 (by decide)]
                have B926 : sf_B 0 0 (m912 22) := by rw [W917 22 (by decide)]; exact B857
                have ek927 : (m912 22).toInt = ((m847 22)).toInt := by rw [W917 22 (by decide)]
                have W928 : rf_W [10, 12, 13, 14, 16, 17, 18, 22] m m912 := W900.trans W917 (by decide)
                show pm_R _ 192 173 [.ref 41, .long a0, pm_no, .int a1, .int 3] [] _ _
                obtain ⟨f929, e930, ct931, bd932⟩ := X918
                refine pm_R_op pm_M192 (pc_q := 174) (st_q := [.int 1]) (pm_q192_1 (Nat.le_of_ble_eq_true rfl)) rfl rfl ?_
                exact pm_R_ret pm_M192 (r := some (.int 1)) (pm_q192_1 (Nat.le_of_ble_eq_true rfl)) rfl (K1 m912 w913 h914 T915 F919 W928 (⟨f929, e930, ct931, fun z => (sf_pos B924 (by decide) z)⟩) (sf_aux39 _ _ _ ek921 R905))
            · have F933 := F770.trans F799 (by decide)
              have W934 : rf_W [10, 12, 13, 14, 16, 17, 18, 22] m m795 := W738.trans W800 (by decide)
              have B935 : sf_B 0 600 (m795 10) := T798.2.2.1 10
              have B936 : sf_B 0 4 (m795 13) := T798.2.2.1 13
              have B937 : sf_B 0 4 (m795 17) := T798.2.2.1 17
              have B938 : sf_B 0 1 (m795 22) := T798.2.2.1 22
              show pm_R _ 192 127 [.ref 41, .long a0, pm_no, .int a1, .int 3] [.int 1] _ _
              have R939 : (m 10).toInt ≤ (m795 10).toInt := (sf_aux70 _ _ _ R742 X803)
              obtain ⟨v940, B941, e942⟩ := X801 _ e769
              refine pm_R_br pm_M192 (pc_q := 132) (st_q := []) (pm_q192_1 (Nat.le_of_ble_eq_true rfl)) rfl ?_
              refine pm_R_lo pm_M192 (pc_q := 134) (pm_q192_1 (Nat.le_of_ble_eq_true rfl)) rfl rfl ?_
              refine pm_R_op pm_M192 (pc_q := 135) (st_q := [.int 1, .int 3]) (pm_q192_1 (Nat.le_of_ble_eq_true rfl)) rfl rfl ?_
              refine pm_R_br pm_M192 (pc_q := 138) (st_q := []) (pm_q192_1 (Nat.le_of_ble_eq_true rfl)) rfl ?_
              refine pm_R_lo pm_M192 (pc_q := 140) (pm_q192_1 (Nat.le_of_ble_eq_true rfl)) rfl rfl ?_
              refine pm_R_op pm_M192 (pc_q := 141) (st_q := [.int 2, .int 3]) (pm_q192_1 (Nat.le_of_ble_eq_true rfl)) rfl rfl ?_
              refine pm_R_br pm_M192 (pc_q := 144) (st_q := []) (pm_q192_1 (Nat.le_of_ble_eq_true rfl)) rfl ?_
              refine pm_R_lo pm_M192 (pc_q := 146) (pm_q192_1 (Nat.le_of_ble_eq_true rfl)) rfl rfl ?_
              refine pm_R_op pm_M192 (pc_q := 147) (st_q := [.int 3, .int 3]) (pm_q192_1 (Nat.le_of_ble_eq_true rfl)) rfl rfl ?_
              refine pm_R_br pm_M192 (pc_q := 150) (st_q := []) (pm_q192_1 (Nat.le_of_ble_eq_true rfl)) rfl ?_
              refine pm_R_lo pm_M192 (pc_q := 151) (pm_q192_1 (Nat.le_of_ble_eq_true rfl)) rfl rfl ?_
              refine pm_R_op pm_M192 (pc_q := 152) (st_q := [.int 2, .ref 41]) (pm_q192_1 (Nat.le_of_ble_eq_true rfl)) rfl rfl ?_
              refine pm_R_op pm_M192 (pc_q := 154) (st_q := [.int 9, .int 2, .ref 41]) (pm_q192_1 (Nat.le_of_ble_eq_true rfl)) rfl rfl ?_
              refine pm_R_op pm_M192 (pc_q := 155) (st_q := [.int (-1), .int 9, .int 2, .ref 41]) (pm_q192_1 (Nat.le_of_ble_eq_true rfl)) rfl rfl ?_
              refine pm_R_cv pm_M192 (pc_q := 158) (a := 41) (ra := [.int (-1), .int 9, .int 2]) (rest := []) (ls_q := [.ref 41, .int 2, .int 9, .int (-1)]) (pm_q192_1 (Nat.le_of_ble_eq_true rfl)) rfl (Or.inl rfl) pm_M183 T798.2.1 rfl (by decide) (Nat.lt_of_lt_of_le (by decide) T798.1) rfl rfl (Nat.le_of_ble_eq_true rfl) rfl rfl ?_
              refine rf_c183_2_9 (d := d + 0) T798  (fun m945 w946 h947 T948 F949 W950 X951 => ?_) (fun m954 w955 h956 T957 F958 W959 X960 X961 X962 X963 X964 => ?_) (fun m967 w968 h969 T970 F971 W972 X973 X974 X975 B976 B977 => ?_)
              · have F978 := F933.trans F949 (by decide)
                have W979 : rf_W [10, 12, 13, 14, 16, 17, 18, 22] m m945 := W934.trans W950 (by decide)
                have B980 : sf_B 0 600 (m945 10) := T948.2.2.1 10
                have B981 : sf_B 0 4 (m945 13) := T948.2.2.1 13
                have B982 : sf_B 0 4 (m945 17) := T948.2.2.1 17
                have B983 : sf_B 0 1 (m945 22) := T948.2.2.1 22
                show pm_R _ 192 158 [.ref 41, .long a0, pm_no, .int a1, .int 3] [.int 0] _ _
                have R984 : (m 10).toInt ≤ (m945 10).toInt := (sf_aux70 _ _ _ R939 X951)
                refine pm_R_br pm_M192 (pc_q := 161) (st_q := []) (pm_q192_1 (Nat.le_of_ble_eq_true rfl)) rfl ?_
                refine pm_R_op pm_M192 (pc_q := 162) (st_q := [.int 0]) (pm_q192_1 (Nat.le_of_ble_eq_true rfl)) rfl rfl ?_
                exact pm_R_ret pm_M192 (r := some (.int 0)) (pm_q192_1 (Nat.le_of_ble_eq_true rfl)) rfl (K0 m945 w946 h947 T948 F978 W979 (sf_aux51 _ _ R984))
              · have F985 := F933.trans F958 (by decide)
                have W986 : rf_W [10, 12, 13, 14, 16, 17, 18, 22] m m954 := W934.trans W959 (by decide)
                have B987 : sf_B 0 600 (m954 10) := T957.2.2.1 10
                have B988 : sf_B 0 4 (m954 13) := T957.2.2.1 13
                have B989 : sf_B 0 4 (m954 17) := T957.2.2.1 17
                have B990 : sf_B 0 1 (m954 22) := T957.2.2.1 22
                show pm_R _ 192 158 [.ref 41, .long a0, pm_no, .int a1, .int 3] [.int 1] _ _
                have R991 : (m 10).toInt ≤ (m954 10).toInt := (sf_aux70 _ _ _ R939 X964)
                obtain ⟨v992, B993, e994⟩ := X960 _ e942
                refine pm_R_br pm_M192 (pc_q := 163) (st_q := []) (pm_q192_1 (Nat.le_of_ble_eq_true rfl)) rfl ?_
                refine pm_R_lo pm_M192 (pc_q := 164) (pm_q192_1 (Nat.le_of_ble_eq_true rfl)) rfl rfl ?_
                refine pm_R_op pm_M192 (pc_q := 165) (st_q := [.int 0, .ref 41]) (pm_q192_1 (Nat.le_of_ble_eq_true rfl)) rfl rfl ?_
                refine pm_R_op pm_M192 (pc_q := 166) (st_q := [.int 1, .int 0, .ref 41]) (pm_q192_1 (Nat.le_of_ble_eq_true rfl)) rfl rfl ?_
                refine pm_R_op pm_M192 (pc_q := 167) (st_q := [.int 3, .int 1, .int 0, .ref 41]) (pm_q192_1 (Nat.le_of_ble_eq_true rfl)) rfl rfl ?_
                refine pm_R_op pm_M192 (pc_q := 169) (st_q := [.int 8, .int 3, .int 1, .int 0, .ref 41]) (pm_q192_1 (Nat.le_of_ble_eq_true rfl)) rfl rfl ?_
                refine pm_R_op pm_M192 (pc_q := 170) (st_q := [.int 0, .int 8, .int 3, .int 1, .int 0, .ref 41]) (pm_q192_1 (Nat.le_of_ble_eq_true rfl)) rfl rfl ?_
                refine pm_R_cv pm_M192 (pc_q := 173) (a := 41) (ra := [.int 0, .int 8, .int 3, .int 1, .int 0]) (rest := []) (ls_q := [.ref 41, .int 0, .int 1, .int 3, .int 8, .int 0, pm_no, pm_no]) (pm_q192_1 (Nat.le_of_ble_eq_true rfl)) rfl (Or.inl rfl) pm_M185 T957.2.1 rfl (by decide) (Nat.lt_of_lt_of_le (by decide) T957.1) rfl rfl (Nat.le_of_ble_eq_true rfl) rfl rfl ?_
                have e995 := (F958.cell (by decide) (F799.cell (by decide) (F768.cell (by decide) (F763.cell (by decide) (F758.cell (by decide) (F753.cell (by decide) (F748.cell (by decide) (F731.cell (by decide) e3))))))))
                refine rf_c185_l (d := d + 2) T957 (⟨f2, e995, ct4, fun z => (sf_pos (sf_eqT X961 B804) (by decide) z)⟩) (fun z => sf_pos (sf_eqT X961 B804) (by decide) z) (fun m998 w999 h1000 T1001 F1002 W1003 X1004 => ?_)
                have F1005 := F985.trans F1002 (by decide)
                have B1006 : sf_B 0 600 (m998 10) := by rw [W1003 10 (by decide)]; exact B987
                have ek1007 : (m998 10).toInt = ((m954 10)).toInt := by rw [W1003 10 (by decide)]
                have B1008 : sf_B 0 4 (m998 13) := by rw [W1003 13 (by decide)]; exact B988
                have ek1009 : (m998 13).toInt = ((m954 13)).toInt := by rw [W1003 13 (by decide)]
                have B1010 : sf_B 1 4 (m998 17) := by rw [W1003 17 (by decide)]; exact (sf_eqT X961 B804)
                have ek1011 : (m998 17).toInt = ((m795 17)).toInt := by rw [W1003 17 (by decide)]; exact X961
                have B1012 : sf_B 0 0 (m998 22) := by rw [W1003 22 (by decide)]; exact (sf_eqT X962 B805)
                have ek1013 : (m998 22).toInt = ((m795 22)).toInt := by rw [W1003 22 (by decide)]; exact X962
                have W1014 : rf_W [10, 12, 13, 14, 16, 17, 18, 22] m m998 := W986.trans W1003 (by decide)
                show pm_R _ 192 173 [.ref 41, .long a0, pm_no, .int a1, .int 3] [] _ _
                obtain ⟨f1015, e1016, ct1017, bd1018⟩ := X1004
                refine pm_R_op pm_M192 (pc_q := 174) (st_q := [.int 1]) (pm_q192_1 (Nat.le_of_ble_eq_true rfl)) rfl rfl ?_
                exact pm_R_ret pm_M192 (r := some (.int 1)) (pm_q192_1 (Nat.le_of_ble_eq_true rfl)) rfl (K1 m998 w999 h1000 T1001 F1005 W1014 (⟨f1015, e1016, ct1017, fun z => (sf_pos B1010 (by decide) z)⟩) (sf_aux39 _ _ _ ek1007 R991))
              · have F1019 := F933.trans F971 (by decide)
                have W1020 : rf_W [10, 12, 13, 14, 16, 17, 18, 22] m m967 := W934.trans W972 (by decide)
                have B1021 : sf_B 0 600 (m967 10) := T970.2.2.1 10
                have B1022 : sf_B 0 4 (m967 13) := T970.2.2.1 13
                have B1023 : sf_B 0 4 (m967 17) := T970.2.2.1 17
                have B1024 : sf_B 0 1 (m967 22) := T970.2.2.1 22
                show pm_R _ 192 158 [.ref 41, .long a0, pm_no, .int a1, .int 3] [.int 1] _ _
                have R1025 : (m 10).toInt ≤ (m967 10).toInt := (sf_aux70 _ _ _ R939 X975)
                obtain ⟨v1026, B1027, e1028⟩ := X973 _ e942
                refine pm_R_br pm_M192 (pc_q := 163) (st_q := []) (pm_q192_1 (Nat.le_of_ble_eq_true rfl)) rfl ?_
                refine pm_R_lo pm_M192 (pc_q := 164) (pm_q192_1 (Nat.le_of_ble_eq_true rfl)) rfl rfl ?_
                refine pm_R_op pm_M192 (pc_q := 165) (st_q := [.int 0, .ref 41]) (pm_q192_1 (Nat.le_of_ble_eq_true rfl)) rfl rfl ?_
                refine pm_R_op pm_M192 (pc_q := 166) (st_q := [.int 1, .int 0, .ref 41]) (pm_q192_1 (Nat.le_of_ble_eq_true rfl)) rfl rfl ?_
                refine pm_R_op pm_M192 (pc_q := 167) (st_q := [.int 3, .int 1, .int 0, .ref 41]) (pm_q192_1 (Nat.le_of_ble_eq_true rfl)) rfl rfl ?_
                refine pm_R_op pm_M192 (pc_q := 169) (st_q := [.int 8, .int 3, .int 1, .int 0, .ref 41]) (pm_q192_1 (Nat.le_of_ble_eq_true rfl)) rfl rfl ?_
                refine pm_R_op pm_M192 (pc_q := 170) (st_q := [.int 0, .int 8, .int 3, .int 1, .int 0, .ref 41]) (pm_q192_1 (Nat.le_of_ble_eq_true rfl)) rfl rfl ?_
                refine pm_R_cv pm_M192 (pc_q := 173) (a := 41) (ra := [.int 0, .int 8, .int 3, .int 1, .int 0]) (rest := []) (ls_q := [.ref 41, .int 0, .int 1, .int 3, .int 8, .int 0, pm_no, pm_no]) (pm_q192_1 (Nat.le_of_ble_eq_true rfl)) rfl (Or.inl rfl) pm_M185 T970.2.1 rfl (by decide) (Nat.lt_of_lt_of_le (by decide) T970.1) rfl rfl (Nat.le_of_ble_eq_true rfl) rfl rfl ?_
                have e1029 := (F971.cell (by decide) (F799.cell (by decide) (F768.cell (by decide) (F763.cell (by decide) (F758.cell (by decide) (F753.cell (by decide) (F748.cell (by decide) (F731.cell (by decide) e3))))))))
                refine rf_c185_l (d := d + 2) T970 (⟨f2, e1029, ct4, fun z => (sf_pos B976 (by decide) z)⟩) (fun z => sf_pos B976 (by decide) z) (fun m1032 w1033 h1034 T1035 F1036 W1037 X1038 => ?_)
                have F1039 := F1019.trans F1036 (by decide)
                have B1040 : sf_B 0 600 (m1032 10) := by rw [W1037 10 (by decide)]; exact B1021
                have ek1041 : (m1032 10).toInt = ((m967 10)).toInt := by rw [W1037 10 (by decide)]
                have B1042 : sf_B 0 4 (m1032 13) := by rw [W1037 13 (by decide)]; exact B1022
                have ek1043 : (m1032 13).toInt = ((m967 13)).toInt := by rw [W1037 13 (by decide)]
                have B1044 : sf_B 1 4 (m1032 17) := by rw [W1037 17 (by decide)]; exact B976
                have ek1045 : (m1032 17).toInt = ((m967 17)).toInt := by rw [W1037 17 (by decide)]
                have B1046 : sf_B 0 0 (m1032 22) := by rw [W1037 22 (by decide)]; exact B977
                have ek1047 : (m1032 22).toInt = ((m967 22)).toInt := by rw [W1037 22 (by decide)]
                have W1048 : rf_W [10, 12, 13, 14, 16, 17, 18, 22] m m1032 := W1020.trans W1037 (by decide)
                show pm_R _ 192 173 [.ref 41, .long a0, pm_no, .int a1, .int 3] [] _ _
                obtain ⟨f1049, e1050, ct1051, bd1052⟩ := X1038
                refine pm_R_op pm_M192 (pc_q := 174) (st_q := [.int 1]) (pm_q192_1 (Nat.le_of_ble_eq_true rfl)) rfl rfl ?_
                exact pm_R_ret pm_M192 (r := some (.int 1)) (pm_q192_1 (Nat.le_of_ble_eq_true rfl)) rfl (K1 m1032 w1033 h1034 T1035 F1039 W1048 (⟨f1049, e1050, ct1051, fun z => (sf_pos B1044 (by decide) z)⟩) (sf_aux39 _ _ _ ek1041 R1025))
          · have B1053 : sf_B 8 8 (f2 0) := sf_eqL (Classical.not_not.mp c723) sf_k8
            refine pm_R_lo pm_M192 (pc_q := 98) rfl rfl rfl ?_
            refine pm_R_op pm_M192 (pc_q := 99) (st_q := [.int 3, .ref 41]) rfl rfl rfl ?_
            refine pm_R_lo pm_M192 (pc_q := 100) rfl rfl rfl ?_
            refine pm_R_cv pm_M192 (pc_q := 103) (a := 41) (ra := [.int a1, .int 3]) (rest := []) (ls_q := [.ref 41, .int 3, .int a1]) rfl rfl (Or.inl rfl) pm_M182 T.2.1 rfl (by decide) (Nat.lt_of_lt_of_le (by decide) T.1) rfl rfl (Nat.le_of_ble_eq_true rfl) rfl rfl ?_
            refine rf_c182 (d := d + 2) T (sf_weak sf_k3 (by decide) (by decide)) Ba1 (fun m1056 w1057 h1058 T1059 F1060 W1061 B1062 => ?_)
            have F1063 := (rf_G.refl [41, 51, 52] h).trans F1060 (by decide)
            have B1064 : sf_B 0 600 (m1056 10) := by rw [W1061 10 (by decide)]; exact B1
            have ek1065 : (m1056 10).toInt = ((m 10)).toInt := by rw [W1061 10 (by decide)]
            have W1066 : rf_W [10, 12, 13, 14, 16, 17, 18, 22] m m1056 := (rf_W.refl [10, 12, 13, 14, 16, 17, 18, 22] m).trans W1061 (by decide)
            have B1067 : sf_B 0 4 (m1056 13) := T1059.2.2.1 13
            have B1068 : sf_B 0 4 (m1056 17) := T1059.2.2.1 17
            have B1069 : sf_B 0 1 (m1056 22) := T1059.2.2.1 22
            show pm_R _ 192 103 [.ref 41, .long a0, pm_no, .int a1, .int 3] [] _ _
            refine pm_R_lo pm_M192 (pc_q := 104) rfl rfl rfl ?_
            refine pm_R_cv pm_M192 (pc_q := 107) (a := 41) (ra := []) (rest := []) (ls_q := [.ref 41, pm_no, pm_no]) rfl rfl (Or.inl rfl) pm_M179 T1059.2.1 rfl (by decide) (Nat.lt_of_lt_of_le (by decide) T1059.1) rfl rfl (Nat.le_of_ble_eq_true rfl) rfl rfl ?_
            refine rf_c179 (d := d + 1) T1059  (fun m1072 w1073 h1074 T1075 F1076 W1077 X1078 X1079 => ?_)
            have F1080 := F1063.trans F1076 (by decide)
            have B1081 : sf_B 1 4 (m1072 17) := by rw [W1077 17 (by decide)]; exact B1062
            have ek1082 : (m1072 17).toInt = ((m1056 17)).toInt := by rw [W1077 17 (by decide)]
            have B1083 : sf_B 0 1 (m1072 22) := by rw [W1077 22 (by decide)]; exact B1069
            have ek1084 : (m1072 22).toInt = ((m1056 22)).toInt := by rw [W1077 22 (by decide)]
            have W1085 : rf_W [10, 12, 13, 14, 16, 17, 18, 22] m m1072 := W1066.trans W1077 (by decide)
            have B1086 : sf_B 0 600 (m1072 10) := T1075.2.2.1 10
            have B1087 : sf_B 0 4 (m1072 13) := T1075.2.2.1 13
            show pm_R _ 192 107 [.ref 41, .long a0, pm_no, .int a1, .int 3] [] _ _
            have R1088 : (m 10).toInt ≤ (m1072 10).toInt := (sf_aux53 _ _ _ ek1065 X1078)
            refine pm_R_lo pm_M192 (pc_q := 108) rfl rfl rfl ?_
            refine pm_R_cv pm_M192 (pc_q := 111) (a := 41) (ra := []) (rest := []) (ls_q := [.ref 41, pm_no]) rfl rfl (Or.inl rfl) pm_M190 T1075.2.1 rfl (by decide) (Nat.lt_of_lt_of_le (by decide) T1075.1) rfl rfl (Nat.le_of_ble_eq_true rfl) rfl rfl ?_
            refine pm_R_op pm_M190 (pc_q := 1) (st_q := [.int 0]) rfl rfl rfl ?_
            refine pm_R_lo pm_M190 (pc_q := 2) (ls_q := [.ref 41, .int 0]) (st_q := []) rfl rfl rfl ?_
            refine pm_R_lo pm_M190 (pc_q := 3) rfl rfl rfl ?_
            refine pm_R_op pm_M190 (pc_q := 4) (st_q := [.int 4, .int 0]) rfl rfl rfl ?_
            refine pm_R_br pm_M190 (pc_q := 7) (st_q := []) rfl rfl ?_
            refine pm_R_lo pm_M190 (pc_q := 8) rfl rfl rfl ?_
            refine rf_R_get pm_M190 T1075 (pc_q := 11) (v := .ref 52) rfl rfl rfl rfl ?_
            refine pm_R_lo pm_M190 (pc_q := 12) rfl rfl rfl ?_
            refine pm_R_op pm_M190 (pc_q := 13) (st_q := [.int (-1), .int 0, .ref 52]) rfl rfl rfl ?_
            obtain ⟨f1089, e1090, b1091⟩ := T1075.2.2.2.1 52 (by decide) (by decide)
            refine rf_R_ist pm_M190 T1075 (pc_q := 14) rfl e1090 (by decide) (by decide) rfl ⟨_, rfl, sf_upd b1091 (sf_weak sf_kn1 (by decide) (by decide)) _⟩ rfl (fun h1092 T1093 F1094 e1095 => ?_)
            have F1096 := F1080.trans F1094 (by decide)
            refine pm_R_lo pm_M190 (pc_q := 17) (ls_q := [.ref 41, .int 1]) (st_q := []) rfl rfl rfl ?_
            refine pm_R_br pm_M190 (pc_q := 2) rfl rfl ?_
            refine pm_R_lo pm_M190 (pc_q := 3) rfl rfl rfl ?_
            refine pm_R_op pm_M190 (pc_q := 4) (st_q := [.int 4, .int 1]) rfl rfl rfl ?_
            refine pm_R_br pm_M190 (pc_q := 7) (st_q := []) rfl rfl ?_
            refine pm_R_lo pm_M190 (pc_q := 8) rfl rfl rfl ?_
            refine rf_R_get pm_M190 T1093 (pc_q := 11) (v := .ref 52) rfl rfl rfl rfl ?_
            refine pm_R_lo pm_M190 (pc_q := 12) rfl rfl rfl ?_
            refine pm_R_op pm_M190 (pc_q := 13) (st_q := [.int (-1), .int 1, .ref 52]) rfl rfl rfl ?_
            refine rf_R_ist pm_M190 T1093 (pc_q := 14) rfl e1095 (by decide) (by decide) rfl ⟨_, rfl, sf_upd (sf_upd b1091 (sf_weak sf_kn1 (by decide) (by decide)) _) (sf_weak sf_kn1 (by decide) (by decide)) _⟩ rfl (fun h1097 T1098 F1099 e1100 => ?_)
            have F1101 := F1096.trans F1099 (by decide)
            refine pm_R_lo pm_M190 (pc_q := 17) (ls_q := [.ref 41, .int 2]) (st_q := []) rfl rfl rfl ?_
            refine pm_R_br pm_M190 (pc_q := 2) rfl rfl ?_
            refine pm_R_lo pm_M190 (pc_q := 3) rfl rfl rfl ?_
            refine pm_R_op pm_M190 (pc_q := 4) (st_q := [.int 4, .int 2]) rfl rfl rfl ?_
            refine pm_R_br pm_M190 (pc_q := 7) (st_q := []) rfl rfl ?_
            refine pm_R_lo pm_M190 (pc_q := 8) rfl rfl rfl ?_
            refine rf_R_get pm_M190 T1098 (pc_q := 11) (v := .ref 52) rfl rfl rfl rfl ?_
            refine pm_R_lo pm_M190 (pc_q := 12) rfl rfl rfl ?_
            refine pm_R_op pm_M190 (pc_q := 13) (st_q := [.int (-1), .int 2, .ref 52]) rfl rfl rfl ?_
            refine rf_R_ist pm_M190 T1098 (pc_q := 14) rfl e1100 (by decide) (by decide) rfl ⟨_, rfl, sf_upd (sf_upd (sf_upd b1091 (sf_weak sf_kn1 (by decide) (by decide)) _) (sf_weak sf_kn1 (by decide) (by decide)) _) (sf_weak sf_kn1 (by decide) (by decide)) _⟩ rfl (fun h1102 T1103 F1104 e1105 => ?_)
            have F1106 := F1101.trans F1104 (by decide)
            refine pm_R_lo pm_M190 (pc_q := 17) (ls_q := [.ref 41, .int 3]) (st_q := []) rfl rfl rfl ?_
            refine pm_R_br pm_M190 (pc_q := 2) rfl rfl ?_
            refine pm_R_lo pm_M190 (pc_q := 3) rfl rfl rfl ?_
            refine pm_R_op pm_M190 (pc_q := 4) (st_q := [.int 4, .int 3]) rfl rfl rfl ?_
            refine pm_R_br pm_M190 (pc_q := 7) (st_q := []) rfl rfl ?_
            refine pm_R_lo pm_M190 (pc_q := 8) rfl rfl rfl ?_
            refine rf_R_get pm_M190 T1103 (pc_q := 11) (v := .ref 52) rfl rfl rfl rfl ?_
            refine pm_R_lo pm_M190 (pc_q := 12) rfl rfl rfl ?_
            refine pm_R_op pm_M190 (pc_q := 13) (st_q := [.int (-1), .int 3, .ref 52]) rfl rfl rfl ?_
            refine rf_R_ist pm_M190 T1103 (pc_q := 14) rfl e1105 (by decide) (by decide) rfl ⟨_, rfl, sf_upd (sf_upd (sf_upd (sf_upd b1091 (sf_weak sf_kn1 (by decide) (by decide)) _) (sf_weak sf_kn1 (by decide) (by decide)) _) (sf_weak sf_kn1 (by decide) (by decide)) _) (sf_weak sf_kn1 (by decide) (by decide)) _⟩ rfl (fun h1107 T1108 F1109 e1110 => ?_)
            have F1111 := F1106.trans F1109 (by decide)
            refine pm_R_lo pm_M190 (pc_q := 17) (ls_q := [.ref 41, .int 4]) (st_q := []) rfl rfl rfl ?_
            refine pm_R_br pm_M190 (pc_q := 2) rfl rfl ?_
            refine pm_R_lo pm_M190 (pc_q := 3) rfl rfl rfl ?_
            refine pm_R_op pm_M190 (pc_q := 4) (st_q := [.int 4, .int 4]) rfl rfl rfl ?_
            refine pm_R_br pm_M190 (pc_q := 20) (st_q := []) rfl rfl ?_
            refine pm_R_ret pm_M190 (r := none) rfl rfl ?_
            show pm_R _ 192 111 [.ref 41, .long a0, pm_no, .int a1, .int 3] [] _ _
            refine pm_R_lo pm_M192 (pc_q := 112) rfl rfl rfl ?_
            refine rf_R_get pm_M192 T1108 (pc_q := 115) (v := .ref 52) rfl rfl rfl rfl ?_
            refine pm_R_op pm_M192 (pc_q := 116) (st_q := [.int 0, .ref 52]) (pm_q192_1 (Nat.le_of_ble_eq_true rfl)) rfl rfl ?_
            refine pm_R_lo pm_M192 (pc_q := 118) (pm_q192_1 (Nat.le_of_ble_eq_true rfl)) rfl rfl ?_
            refine rf_R_ist pm_M192 T1108 (pc_q := 119) (pm_q192_1 (Nat.le_of_ble_eq_true rfl)) e1110 (by decide) (by decide) rfl ⟨_, rfl, sf_upd (sf_upd (sf_upd (sf_upd (sf_upd b1091 (sf_weak sf_kn1 (by decide) (by decide)) _) (sf_weak sf_kn1 (by decide) (by decide)) _) (sf_weak sf_kn1 (by decide) (by decide)) _) (sf_weak sf_kn1 (by decide) (by decide)) _) (sf_weak sf_k3 (by decide) (by decide)) _⟩ rfl (fun h1112 T1113 F1114 e1115 => ?_)
            have F1116 := F1111.trans F1114 (by decide)
            refine pm_R_lo pm_M192 (pc_q := 120) (pm_q192_1 (Nat.le_of_ble_eq_true rfl)) rfl rfl ?_
            refine pm_R_op pm_M192 (pc_q := 121) (st_q := [.int 1, .ref 41]) (pm_q192_1 (Nat.le_of_ble_eq_true rfl)) rfl rfl ?_
            refine pm_R_op pm_M192 (pc_q := 123) (st_q := [.int 9, .int 1, .ref 41]) (pm_q192_1 (Nat.le_of_ble_eq_true rfl)) rfl rfl ?_
            refine pm_R_op pm_M192 (pc_q := 124) (st_q := [.int (-1), .int 9, .int 1, .ref 41]) (pm_q192_1 (Nat.le_of_ble_eq_true rfl)) rfl rfl ?_
            refine pm_R_cv pm_M192 (pc_q := 127) (a := 41) (ra := [.int (-1), .int 9, .int 1]) (rest := []) (ls_q := [.ref 41, .int 1, .int 9, .int (-1)]) (pm_q192_1 (Nat.le_of_ble_eq_true rfl)) rfl (Or.inl rfl) pm_M183 T1113.2.1 rfl (by decide) (Nat.lt_of_lt_of_le (by decide) T1113.1) rfl rfl (Nat.le_of_ble_eq_true rfl) rfl rfl ?_
            refine rf_c183_1_9 (d := d + 0) T1113  (fun m1119 w1120 h1121 T1122 F1123 W1124 X1125 => ?_) (fun m1128 w1129 h1130 T1131 F1132 W1133 X1134 X1135 X1136 X1137 X1138 => ?_) (fun m1141 w1142 h1143 T1144 F1145 W1146 X1147 X1148 X1149 B1150 B1151 => ?_)
            · have F1152 := F1116.trans F1123 (by decide)
              have W1153 : rf_W [10, 12, 13, 14, 16, 17, 18, 22] m m1119 := W1085.trans W1124 (by decide)
              have B1154 : sf_B 0 600 (m1119 10) := T1122.2.2.1 10
              have B1155 : sf_B 0 4 (m1119 13) := T1122.2.2.1 13
              have B1156 : sf_B 0 4 (m1119 17) := T1122.2.2.1 17
              have B1157 : sf_B 0 1 (m1119 22) := T1122.2.2.1 22
              show pm_R _ 192 127 [.ref 41, .long a0, pm_no, .int a1, .int 3] [.int 0] _ _
              have R1158 : (m 10).toInt ≤ (m1119 10).toInt := (sf_aux70 _ _ _ R1088 X1125)
              refine pm_R_br pm_M192 (pc_q := 130) (st_q := []) (pm_q192_1 (Nat.le_of_ble_eq_true rfl)) rfl ?_
              refine pm_R_op pm_M192 (pc_q := 131) (st_q := [.int 0]) (pm_q192_1 (Nat.le_of_ble_eq_true rfl)) rfl rfl ?_
              exact pm_R_ret pm_M192 (r := some (.int 0)) (pm_q192_1 (Nat.le_of_ble_eq_true rfl)) rfl (K0 m1119 w1120 h1121 T1122 F1152 W1153 (sf_aux51 _ _ R1158))
            · have F1159 := F1116.trans F1132 (by decide)
              have W1160 : rf_W [10, 12, 13, 14, 16, 17, 18, 22] m m1128 := W1085.trans W1133 (by decide)
              have B1161 : sf_B 0 600 (m1128 10) := T1131.2.2.1 10
              have B1162 : sf_B 0 4 (m1128 13) := T1131.2.2.1 13
              have B1163 : sf_B 0 4 (m1128 17) := T1131.2.2.1 17
              have B1164 : sf_B 0 1 (m1128 22) := T1131.2.2.1 22
              show pm_R _ 192 127 [.ref 41, .long a0, pm_no, .int a1, .int 3] [.int 1] _ _
              have R1165 : (m 10).toInt ≤ (m1128 10).toInt := (sf_aux70 _ _ _ R1088 X1138)
              obtain ⟨v1166, B1167, e1168⟩ := X1134 _ e1115
              refine pm_R_br pm_M192 (pc_q := 132) (st_q := []) (pm_q192_1 (Nat.le_of_ble_eq_true rfl)) rfl ?_
              refine pm_R_lo pm_M192 (pc_q := 134) (pm_q192_1 (Nat.le_of_ble_eq_true rfl)) rfl rfl ?_
              refine pm_R_op pm_M192 (pc_q := 135) (st_q := [.int 1, .int 3]) (pm_q192_1 (Nat.le_of_ble_eq_true rfl)) rfl rfl ?_
              refine pm_R_br pm_M192 (pc_q := 138) (st_q := []) (pm_q192_1 (Nat.le_of_ble_eq_true rfl)) rfl ?_
              refine pm_R_lo pm_M192 (pc_q := 140) (pm_q192_1 (Nat.le_of_ble_eq_true rfl)) rfl rfl ?_
              refine pm_R_op pm_M192 (pc_q := 141) (st_q := [.int 2, .int 3]) (pm_q192_1 (Nat.le_of_ble_eq_true rfl)) rfl rfl ?_
              refine pm_R_br pm_M192 (pc_q := 144) (st_q := []) (pm_q192_1 (Nat.le_of_ble_eq_true rfl)) rfl ?_
              refine pm_R_lo pm_M192 (pc_q := 146) (pm_q192_1 (Nat.le_of_ble_eq_true rfl)) rfl rfl ?_
              refine pm_R_op pm_M192 (pc_q := 147) (st_q := [.int 3, .int 3]) (pm_q192_1 (Nat.le_of_ble_eq_true rfl)) rfl rfl ?_
              refine pm_R_br pm_M192 (pc_q := 150) (st_q := []) (pm_q192_1 (Nat.le_of_ble_eq_true rfl)) rfl ?_
              refine pm_R_lo pm_M192 (pc_q := 151) (pm_q192_1 (Nat.le_of_ble_eq_true rfl)) rfl rfl ?_
              refine pm_R_op pm_M192 (pc_q := 152) (st_q := [.int 2, .ref 41]) (pm_q192_1 (Nat.le_of_ble_eq_true rfl)) rfl rfl ?_
              refine pm_R_op pm_M192 (pc_q := 154) (st_q := [.int 9, .int 2, .ref 41]) (pm_q192_1 (Nat.le_of_ble_eq_true rfl)) rfl rfl ?_
              refine pm_R_op pm_M192 (pc_q := 155) (st_q := [.int (-1), .int 9, .int 2, .ref 41]) (pm_q192_1 (Nat.le_of_ble_eq_true rfl)) rfl rfl ?_
              refine pm_R_cv pm_M192 (pc_q := 158) (a := 41) (ra := [.int (-1), .int 9, .int 2]) (rest := []) (ls_q := [.ref 41, .int 2, .int 9, .int (-1)]) (pm_q192_1 (Nat.le_of_ble_eq_true rfl)) rfl (Or.inl rfl) pm_M183 T1131.2.1 rfl (by decide) (Nat.lt_of_lt_of_le (by decide) T1131.1) rfl rfl (Nat.le_of_ble_eq_true rfl) rfl rfl ?_
              refine rf_c183_2_9 (d := d + 0) T1131  (fun m1171 w1172 h1173 T1174 F1175 W1176 X1177 => ?_) (fun m1180 w1181 h1182 T1183 F1184 W1185 X1186 X1187 X1188 X1189 X1190 => ?_) (fun m1193 w1194 h1195 T1196 F1197 W1198 X1199 X1200 X1201 B1202 B1203 => ?_)
              · have F1204 := F1159.trans F1175 (by decide)
                have W1205 : rf_W [10, 12, 13, 14, 16, 17, 18, 22] m m1171 := W1160.trans W1176 (by decide)
                have B1206 : sf_B 0 600 (m1171 10) := T1174.2.2.1 10
                have B1207 : sf_B 0 4 (m1171 13) := T1174.2.2.1 13
                have B1208 : sf_B 0 4 (m1171 17) := T1174.2.2.1 17
                have B1209 : sf_B 0 1 (m1171 22) := T1174.2.2.1 22
                show pm_R _ 192 158 [.ref 41, .long a0, pm_no, .int a1, .int 3] [.int 0] _ _
                have R1210 : (m 10).toInt ≤ (m1171 10).toInt := (sf_aux70 _ _ _ R1165 X1177)
                refine pm_R_br pm_M192 (pc_q := 161) (st_q := []) (pm_q192_1 (Nat.le_of_ble_eq_true rfl)) rfl ?_
                refine pm_R_op pm_M192 (pc_q := 162) (st_q := [.int 0]) (pm_q192_1 (Nat.le_of_ble_eq_true rfl)) rfl rfl ?_
                exact pm_R_ret pm_M192 (r := some (.int 0)) (pm_q192_1 (Nat.le_of_ble_eq_true rfl)) rfl (K0 m1171 w1172 h1173 T1174 F1204 W1205 (sf_aux51 _ _ R1210))
              · have F1211 := F1159.trans F1184 (by decide)
                have W1212 : rf_W [10, 12, 13, 14, 16, 17, 18, 22] m m1180 := W1160.trans W1185 (by decide)
                have B1213 : sf_B 0 600 (m1180 10) := T1183.2.2.1 10
                have B1214 : sf_B 0 4 (m1180 13) := T1183.2.2.1 13
                have B1215 : sf_B 0 4 (m1180 17) := T1183.2.2.1 17
                have B1216 : sf_B 0 1 (m1180 22) := T1183.2.2.1 22
                show pm_R _ 192 158 [.ref 41, .long a0, pm_no, .int a1, .int 3] [.int 1] _ _
                have R1217 : (m 10).toInt ≤ (m1180 10).toInt := (sf_aux70 _ _ _ R1165 X1190)
                obtain ⟨v1218, B1219, e1220⟩ := X1186 _ e1168
                refine pm_R_br pm_M192 (pc_q := 163) (st_q := []) (pm_q192_1 (Nat.le_of_ble_eq_true rfl)) rfl ?_
                refine pm_R_lo pm_M192 (pc_q := 164) (pm_q192_1 (Nat.le_of_ble_eq_true rfl)) rfl rfl ?_
                refine pm_R_op pm_M192 (pc_q := 165) (st_q := [.int 0, .ref 41]) (pm_q192_1 (Nat.le_of_ble_eq_true rfl)) rfl rfl ?_
                refine pm_R_op pm_M192 (pc_q := 166) (st_q := [.int 1, .int 0, .ref 41]) (pm_q192_1 (Nat.le_of_ble_eq_true rfl)) rfl rfl ?_
                refine pm_R_op pm_M192 (pc_q := 167) (st_q := [.int 3, .int 1, .int 0, .ref 41]) (pm_q192_1 (Nat.le_of_ble_eq_true rfl)) rfl rfl ?_
                refine pm_R_op pm_M192 (pc_q := 169) (st_q := [.int 8, .int 3, .int 1, .int 0, .ref 41]) (pm_q192_1 (Nat.le_of_ble_eq_true rfl)) rfl rfl ?_
                refine pm_R_op pm_M192 (pc_q := 170) (st_q := [.int 0, .int 8, .int 3, .int 1, .int 0, .ref 41]) (pm_q192_1 (Nat.le_of_ble_eq_true rfl)) rfl rfl ?_
                refine pm_R_cv pm_M192 (pc_q := 173) (a := 41) (ra := [.int 0, .int 8, .int 3, .int 1, .int 0]) (rest := []) (ls_q := [.ref 41, .int 0, .int 1, .int 3, .int 8, .int 0, pm_no, pm_no]) (pm_q192_1 (Nat.le_of_ble_eq_true rfl)) rfl (Or.inl rfl) pm_M185 T1183.2.1 rfl (by decide) (Nat.lt_of_lt_of_le (by decide) T1183.1) rfl rfl (Nat.le_of_ble_eq_true rfl) rfl rfl ?_
                have e1221 := (F1184.cell (by decide) (F1132.cell (by decide) (F1114.cell (by decide) (F1109.cell (by decide) (F1104.cell (by decide) (F1099.cell (by decide) (F1094.cell (by decide) (F1076.cell (by decide) (F1060.cell (by decide) e3)))))))))
                refine rf_c185_l (d := d + 2) T1183 (⟨f2, e1221, ct4, fun z => (sf_pos (sf_eqT X1187 (sf_eqT X1135 B1081)) (by decide) z)⟩) (fun z => sf_pos (sf_eqT X1187 (sf_eqT X1135 B1081)) (by decide) z) (fun m1224 w1225 h1226 T1227 F1228 W1229 X1230 => ?_)
                have F1231 := F1211.trans F1228 (by decide)
                have B1232 : sf_B 0 600 (m1224 10) := by rw [W1229 10 (by decide)]; exact B1213
                have ek1233 : (m1224 10).toInt = ((m1180 10)).toInt := by rw [W1229 10 (by decide)]
                have B1234 : sf_B 0 4 (m1224 13) := by rw [W1229 13 (by decide)]; exact B1214
                have ek1235 : (m1224 13).toInt = ((m1180 13)).toInt := by rw [W1229 13 (by decide)]
                have B1236 : sf_B 1 4 (m1224 17) := by rw [W1229 17 (by decide)]; exact (sf_eqT X1187 (sf_eqT X1135 B1081))
                have ek1237 : (m1224 17).toInt = ((m1128 17)).toInt := by rw [W1229 17 (by decide)]; exact X1187
                have B1238 : sf_B 0 1 (m1224 22) := by rw [W1229 22 (by decide)]; exact (sf_eqT X1188 (sf_eqT X1136 B1083))
                have ek1239 : (m1224 22).toInt = ((m1128 22)).toInt := by rw [W1229 22 (by decide)]; exact X1188
                have W1240 : rf_W [10, 12, 13, 14, 16, 17, 18, 22] m m1224 := W1212.trans W1229 (by decide)
                show pm_R _ 192 173 [.ref 41, .long a0, pm_no, .int a1, .int 3] [] _ _
                obtain ⟨f1241, e1242, ct1243, bd1244⟩ := X1230
                refine pm_R_op pm_M192 (pc_q := 174) (st_q := [.int 1]) (pm_q192_1 (Nat.le_of_ble_eq_true rfl)) rfl rfl ?_
                exact pm_R_ret pm_M192 (r := some (.int 1)) (pm_q192_1 (Nat.le_of_ble_eq_true rfl)) rfl (K1 m1224 w1225 h1226 T1227 F1231 W1240 (⟨f1241, e1242, ct1243, fun z => (sf_pos B1236 (by decide) z)⟩) (sf_aux39 _ _ _ ek1233 R1217))
              · have F1245 := F1159.trans F1197 (by decide)
                have W1246 : rf_W [10, 12, 13, 14, 16, 17, 18, 22] m m1193 := W1160.trans W1198 (by decide)
                have B1247 : sf_B 0 600 (m1193 10) := T1196.2.2.1 10
                have B1248 : sf_B 0 4 (m1193 13) := T1196.2.2.1 13
                have B1249 : sf_B 0 4 (m1193 17) := T1196.2.2.1 17
                have B1250 : sf_B 0 1 (m1193 22) := T1196.2.2.1 22
                show pm_R _ 192 158 [.ref 41, .long a0, pm_no, .int a1, .int 3] [.int 1] _ _
                have R1251 : (m 10).toInt ≤ (m1193 10).toInt := (sf_aux70 _ _ _ R1165 X1201)
                obtain ⟨v1252, B1253, e1254⟩ := X1199 _ e1168
                refine pm_R_br pm_M192 (pc_q := 163) (st_q := []) (pm_q192_1 (Nat.le_of_ble_eq_true rfl)) rfl ?_
                refine pm_R_lo pm_M192 (pc_q := 164) (pm_q192_1 (Nat.le_of_ble_eq_true rfl)) rfl rfl ?_
                refine pm_R_op pm_M192 (pc_q := 165) (st_q := [.int 0, .ref 41]) (pm_q192_1 (Nat.le_of_ble_eq_true rfl)) rfl rfl ?_
                refine pm_R_op pm_M192 (pc_q := 166) (st_q := [.int 1, .int 0, .ref 41]) (pm_q192_1 (Nat.le_of_ble_eq_true rfl)) rfl rfl ?_
                refine pm_R_op pm_M192 (pc_q := 167) (st_q := [.int 3, .int 1, .int 0, .ref 41]) (pm_q192_1 (Nat.le_of_ble_eq_true rfl)) rfl rfl ?_
                refine pm_R_op pm_M192 (pc_q := 169) (st_q := [.int 8, .int 3, .int 1, .int 0, .ref 41]) (pm_q192_1 (Nat.le_of_ble_eq_true rfl)) rfl rfl ?_
                refine pm_R_op pm_M192 (pc_q := 170) (st_q := [.int 0, .int 8, .int 3, .int 1, .int 0, .ref 41]) (pm_q192_1 (Nat.le_of_ble_eq_true rfl)) rfl rfl ?_
                refine pm_R_cv pm_M192 (pc_q := 173) (a := 41) (ra := [.int 0, .int 8, .int 3, .int 1, .int 0]) (rest := []) (ls_q := [.ref 41, .int 0, .int 1, .int 3, .int 8, .int 0, pm_no, pm_no]) (pm_q192_1 (Nat.le_of_ble_eq_true rfl)) rfl (Or.inl rfl) pm_M185 T1196.2.1 rfl (by decide) (Nat.lt_of_lt_of_le (by decide) T1196.1) rfl rfl (Nat.le_of_ble_eq_true rfl) rfl rfl ?_
                have e1255 := (F1197.cell (by decide) (F1132.cell (by decide) (F1114.cell (by decide) (F1109.cell (by decide) (F1104.cell (by decide) (F1099.cell (by decide) (F1094.cell (by decide) (F1076.cell (by decide) (F1060.cell (by decide) e3)))))))))
                refine rf_c185_l (d := d + 2) T1196 (⟨f2, e1255, ct4, fun z => (sf_pos B1202 (by decide) z)⟩) (fun z => sf_pos B1202 (by decide) z) (fun m1258 w1259 h1260 T1261 F1262 W1263 X1264 => ?_)
                have F1265 := F1245.trans F1262 (by decide)
                have B1266 : sf_B 0 600 (m1258 10) := by rw [W1263 10 (by decide)]; exact B1247
                have ek1267 : (m1258 10).toInt = ((m1193 10)).toInt := by rw [W1263 10 (by decide)]
                have B1268 : sf_B 0 4 (m1258 13) := by rw [W1263 13 (by decide)]; exact B1248
                have ek1269 : (m1258 13).toInt = ((m1193 13)).toInt := by rw [W1263 13 (by decide)]
                have B1270 : sf_B 1 4 (m1258 17) := by rw [W1263 17 (by decide)]; exact B1202
                have ek1271 : (m1258 17).toInt = ((m1193 17)).toInt := by rw [W1263 17 (by decide)]
                have B1272 : sf_B 0 0 (m1258 22) := by rw [W1263 22 (by decide)]; exact B1203
                have ek1273 : (m1258 22).toInt = ((m1193 22)).toInt := by rw [W1263 22 (by decide)]
                have W1274 : rf_W [10, 12, 13, 14, 16, 17, 18, 22] m m1258 := W1246.trans W1263 (by decide)
                show pm_R _ 192 173 [.ref 41, .long a0, pm_no, .int a1, .int 3] [] _ _
                obtain ⟨f1275, e1276, ct1277, bd1278⟩ := X1264
                refine pm_R_op pm_M192 (pc_q := 174) (st_q := [.int 1]) (pm_q192_1 (Nat.le_of_ble_eq_true rfl)) rfl rfl ?_
                exact pm_R_ret pm_M192 (r := some (.int 1)) (pm_q192_1 (Nat.le_of_ble_eq_true rfl)) rfl (K1 m1258 w1259 h1260 T1261 F1265 W1274 (⟨f1275, e1276, ct1277, fun z => (sf_pos B1270 (by decide) z)⟩) (sf_aux39 _ _ _ ek1267 R1251))
            · have F1279 := F1116.trans F1145 (by decide)
              have W1280 : rf_W [10, 12, 13, 14, 16, 17, 18, 22] m m1141 := W1085.trans W1146 (by decide)
              have B1281 : sf_B 0 600 (m1141 10) := T1144.2.2.1 10
              have B1282 : sf_B 0 4 (m1141 13) := T1144.2.2.1 13
              have B1283 : sf_B 0 4 (m1141 17) := T1144.2.2.1 17
              have B1284 : sf_B 0 1 (m1141 22) := T1144.2.2.1 22
              show pm_R _ 192 127 [.ref 41, .long a0, pm_no, .int a1, .int 3] [.int 1] _ _
              have R1285 : (m 10).toInt ≤ (m1141 10).toInt := (sf_aux70 _ _ _ R1088 X1149)
              obtain ⟨v1286, B1287, e1288⟩ := X1147 _ e1115
              refine pm_R_br pm_M192 (pc_q := 132) (st_q := []) (pm_q192_1 (Nat.le_of_ble_eq_true rfl)) rfl ?_
              refine pm_R_lo pm_M192 (pc_q := 134) (pm_q192_1 (Nat.le_of_ble_eq_true rfl)) rfl rfl ?_
              refine pm_R_op pm_M192 (pc_q := 135) (st_q := [.int 1, .int 3]) (pm_q192_1 (Nat.le_of_ble_eq_true rfl)) rfl rfl ?_
              refine pm_R_br pm_M192 (pc_q := 138) (st_q := []) (pm_q192_1 (Nat.le_of_ble_eq_true rfl)) rfl ?_
              refine pm_R_lo pm_M192 (pc_q := 140) (pm_q192_1 (Nat.le_of_ble_eq_true rfl)) rfl rfl ?_
              refine pm_R_op pm_M192 (pc_q := 141) (st_q := [.int 2, .int 3]) (pm_q192_1 (Nat.le_of_ble_eq_true rfl)) rfl rfl ?_
              refine pm_R_br pm_M192 (pc_q := 144) (st_q := []) (pm_q192_1 (Nat.le_of_ble_eq_true rfl)) rfl ?_
              refine pm_R_lo pm_M192 (pc_q := 146) (pm_q192_1 (Nat.le_of_ble_eq_true rfl)) rfl rfl ?_
              refine pm_R_op pm_M192 (pc_q := 147) (st_q := [.int 3, .int 3]) (pm_q192_1 (Nat.le_of_ble_eq_true rfl)) rfl rfl ?_
              refine pm_R_br pm_M192 (pc_q := 150) (st_q := []) (pm_q192_1 (Nat.le_of_ble_eq_true rfl)) rfl ?_
              refine pm_R_lo pm_M192 (pc_q := 151) (pm_q192_1 (Nat.le_of_ble_eq_true rfl)) rfl rfl ?_
              refine pm_R_op pm_M192 (pc_q := 152) (st_q := [.int 2, .ref 41]) (pm_q192_1 (Nat.le_of_ble_eq_true rfl)) rfl rfl ?_
              refine pm_R_op pm_M192 (pc_q := 154) (st_q := [.int 9, .int 2, .ref 41]) (pm_q192_1 (Nat.le_of_ble_eq_true rfl)) rfl rfl ?_
              refine pm_R_op pm_M192 (pc_q := 155) (st_q := [.int (-1), .int 9, .int 2, .ref 41]) (pm_q192_1 (Nat.le_of_ble_eq_true rfl)) rfl rfl ?_
              refine pm_R_cv pm_M192 (pc_q := 158) (a := 41) (ra := [.int (-1), .int 9, .int 2]) (rest := []) (ls_q := [.ref 41, .int 2, .int 9, .int (-1)]) (pm_q192_1 (Nat.le_of_ble_eq_true rfl)) rfl (Or.inl rfl) pm_M183 T1144.2.1 rfl (by decide) (Nat.lt_of_lt_of_le (by decide) T1144.1) rfl rfl (Nat.le_of_ble_eq_true rfl) rfl rfl ?_
              refine rf_c183_2_9 (d := d + 0) T1144  (fun m1291 w1292 h1293 T1294 F1295 W1296 X1297 => ?_) (fun m1300 w1301 h1302 T1303 F1304 W1305 X1306 X1307 X1308 X1309 X1310 => ?_) (fun m1313 w1314 h1315 T1316 F1317 W1318 X1319 X1320 X1321 B1322 B1323 => ?_)
              · have F1324 := F1279.trans F1295 (by decide)
                have W1325 : rf_W [10, 12, 13, 14, 16, 17, 18, 22] m m1291 := W1280.trans W1296 (by decide)
                have B1326 : sf_B 0 600 (m1291 10) := T1294.2.2.1 10
                have B1327 : sf_B 0 4 (m1291 13) := T1294.2.2.1 13
                have B1328 : sf_B 0 4 (m1291 17) := T1294.2.2.1 17
                have B1329 : sf_B 0 1 (m1291 22) := T1294.2.2.1 22
                show pm_R _ 192 158 [.ref 41, .long a0, pm_no, .int a1, .int 3] [.int 0] _ _
                have R1330 : (m 10).toInt ≤ (m1291 10).toInt := (sf_aux70 _ _ _ R1285 X1297)
                refine pm_R_br pm_M192 (pc_q := 161) (st_q := []) (pm_q192_1 (Nat.le_of_ble_eq_true rfl)) rfl ?_
                refine pm_R_op pm_M192 (pc_q := 162) (st_q := [.int 0]) (pm_q192_1 (Nat.le_of_ble_eq_true rfl)) rfl rfl ?_
                exact pm_R_ret pm_M192 (r := some (.int 0)) (pm_q192_1 (Nat.le_of_ble_eq_true rfl)) rfl (K0 m1291 w1292 h1293 T1294 F1324 W1325 (sf_aux51 _ _ R1330))
              · have F1331 := F1279.trans F1304 (by decide)
                have W1332 : rf_W [10, 12, 13, 14, 16, 17, 18, 22] m m1300 := W1280.trans W1305 (by decide)
                have B1333 : sf_B 0 600 (m1300 10) := T1303.2.2.1 10
                have B1334 : sf_B 0 4 (m1300 13) := T1303.2.2.1 13
                have B1335 : sf_B 0 4 (m1300 17) := T1303.2.2.1 17
                have B1336 : sf_B 0 1 (m1300 22) := T1303.2.2.1 22
                show pm_R _ 192 158 [.ref 41, .long a0, pm_no, .int a1, .int 3] [.int 1] _ _
                have R1337 : (m 10).toInt ≤ (m1300 10).toInt := (sf_aux70 _ _ _ R1285 X1310)
                obtain ⟨v1338, B1339, e1340⟩ := X1306 _ e1288
                refine pm_R_br pm_M192 (pc_q := 163) (st_q := []) (pm_q192_1 (Nat.le_of_ble_eq_true rfl)) rfl ?_
                refine pm_R_lo pm_M192 (pc_q := 164) (pm_q192_1 (Nat.le_of_ble_eq_true rfl)) rfl rfl ?_
                refine pm_R_op pm_M192 (pc_q := 165) (st_q := [.int 0, .ref 41]) (pm_q192_1 (Nat.le_of_ble_eq_true rfl)) rfl rfl ?_
                refine pm_R_op pm_M192 (pc_q := 166) (st_q := [.int 1, .int 0, .ref 41]) (pm_q192_1 (Nat.le_of_ble_eq_true rfl)) rfl rfl ?_
                refine pm_R_op pm_M192 (pc_q := 167) (st_q := [.int 3, .int 1, .int 0, .ref 41]) (pm_q192_1 (Nat.le_of_ble_eq_true rfl)) rfl rfl ?_
                refine pm_R_op pm_M192 (pc_q := 169) (st_q := [.int 8, .int 3, .int 1, .int 0, .ref 41]) (pm_q192_1 (Nat.le_of_ble_eq_true rfl)) rfl rfl ?_
                refine pm_R_op pm_M192 (pc_q := 170) (st_q := [.int 0, .int 8, .int 3, .int 1, .int 0, .ref 41]) (pm_q192_1 (Nat.le_of_ble_eq_true rfl)) rfl rfl ?_
                refine pm_R_cv pm_M192 (pc_q := 173) (a := 41) (ra := [.int 0, .int 8, .int 3, .int 1, .int 0]) (rest := []) (ls_q := [.ref 41, .int 0, .int 1, .int 3, .int 8, .int 0, pm_no, pm_no]) (pm_q192_1 (Nat.le_of_ble_eq_true rfl)) rfl (Or.inl rfl) pm_M185 T1303.2.1 rfl (by decide) (Nat.lt_of_lt_of_le (by decide) T1303.1) rfl rfl (Nat.le_of_ble_eq_true rfl) rfl rfl ?_
                have e1341 := (F1304.cell (by decide) (F1145.cell (by decide) (F1114.cell (by decide) (F1109.cell (by decide) (F1104.cell (by decide) (F1099.cell (by decide) (F1094.cell (by decide) (F1076.cell (by decide) (F1060.cell (by decide) e3)))))))))
                refine rf_c185_l (d := d + 2) T1303 (⟨f2, e1341, ct4, fun z => (sf_pos (sf_eqT X1307 B1150) (by decide) z)⟩) (fun z => sf_pos (sf_eqT X1307 B1150) (by decide) z) (fun m1344 w1345 h1346 T1347 F1348 W1349 X1350 => ?_)
                have F1351 := F1331.trans F1348 (by decide)
                have B1352 : sf_B 0 600 (m1344 10) := by rw [W1349 10 (by decide)]; exact B1333
                have ek1353 : (m1344 10).toInt = ((m1300 10)).toInt := by rw [W1349 10 (by decide)]
                have B1354 : sf_B 0 4 (m1344 13) := by rw [W1349 13 (by decide)]; exact B1334
                have ek1355 : (m1344 13).toInt = ((m1300 13)).toInt := by rw [W1349 13 (by decide)]
                have B1356 : sf_B 1 4 (m1344 17) := by rw [W1349 17 (by decide)]; exact (sf_eqT X1307 B1150)
                have ek1357 : (m1344 17).toInt = ((m1141 17)).toInt := by rw [W1349 17 (by decide)]; exact X1307
                have B1358 : sf_B 0 0 (m1344 22) := by rw [W1349 22 (by decide)]; exact (sf_eqT X1308 B1151)
                have ek1359 : (m1344 22).toInt = ((m1141 22)).toInt := by rw [W1349 22 (by decide)]; exact X1308
                have W1360 : rf_W [10, 12, 13, 14, 16, 17, 18, 22] m m1344 := W1332.trans W1349 (by decide)
                show pm_R _ 192 173 [.ref 41, .long a0, pm_no, .int a1, .int 3] [] _ _
                obtain ⟨f1361, e1362, ct1363, bd1364⟩ := X1350
                refine pm_R_op pm_M192 (pc_q := 174) (st_q := [.int 1]) (pm_q192_1 (Nat.le_of_ble_eq_true rfl)) rfl rfl ?_
                exact pm_R_ret pm_M192 (r := some (.int 1)) (pm_q192_1 (Nat.le_of_ble_eq_true rfl)) rfl (K1 m1344 w1345 h1346 T1347 F1351 W1360 (⟨f1361, e1362, ct1363, fun z => (sf_pos B1356 (by decide) z)⟩) (sf_aux39 _ _ _ ek1353 R1337))
              · have F1365 := F1279.trans F1317 (by decide)
                have W1366 : rf_W [10, 12, 13, 14, 16, 17, 18, 22] m m1313 := W1280.trans W1318 (by decide)
                have B1367 : sf_B 0 600 (m1313 10) := T1316.2.2.1 10
                have B1368 : sf_B 0 4 (m1313 13) := T1316.2.2.1 13
                have B1369 : sf_B 0 4 (m1313 17) := T1316.2.2.1 17
                have B1370 : sf_B 0 1 (m1313 22) := T1316.2.2.1 22
                show pm_R _ 192 158 [.ref 41, .long a0, pm_no, .int a1, .int 3] [.int 1] _ _
                have R1371 : (m 10).toInt ≤ (m1313 10).toInt := (sf_aux70 _ _ _ R1285 X1321)
                obtain ⟨v1372, B1373, e1374⟩ := X1319 _ e1288
                refine pm_R_br pm_M192 (pc_q := 163) (st_q := []) (pm_q192_1 (Nat.le_of_ble_eq_true rfl)) rfl ?_
                refine pm_R_lo pm_M192 (pc_q := 164) (pm_q192_1 (Nat.le_of_ble_eq_true rfl)) rfl rfl ?_
                refine pm_R_op pm_M192 (pc_q := 165) (st_q := [.int 0, .ref 41]) (pm_q192_1 (Nat.le_of_ble_eq_true rfl)) rfl rfl ?_
                refine pm_R_op pm_M192 (pc_q := 166) (st_q := [.int 1, .int 0, .ref 41]) (pm_q192_1 (Nat.le_of_ble_eq_true rfl)) rfl rfl ?_
                refine pm_R_op pm_M192 (pc_q := 167) (st_q := [.int 3, .int 1, .int 0, .ref 41]) (pm_q192_1 (Nat.le_of_ble_eq_true rfl)) rfl rfl ?_
                refine pm_R_op pm_M192 (pc_q := 169) (st_q := [.int 8, .int 3, .int 1, .int 0, .ref 41]) (pm_q192_1 (Nat.le_of_ble_eq_true rfl)) rfl rfl ?_
                refine pm_R_op pm_M192 (pc_q := 170) (st_q := [.int 0, .int 8, .int 3, .int 1, .int 0, .ref 41]) (pm_q192_1 (Nat.le_of_ble_eq_true rfl)) rfl rfl ?_
                refine pm_R_cv pm_M192 (pc_q := 173) (a := 41) (ra := [.int 0, .int 8, .int 3, .int 1, .int 0]) (rest := []) (ls_q := [.ref 41, .int 0, .int 1, .int 3, .int 8, .int 0, pm_no, pm_no]) (pm_q192_1 (Nat.le_of_ble_eq_true rfl)) rfl (Or.inl rfl) pm_M185 T1316.2.1 rfl (by decide) (Nat.lt_of_lt_of_le (by decide) T1316.1) rfl rfl (Nat.le_of_ble_eq_true rfl) rfl rfl ?_
                have e1375 := (F1317.cell (by decide) (F1145.cell (by decide) (F1114.cell (by decide) (F1109.cell (by decide) (F1104.cell (by decide) (F1099.cell (by decide) (F1094.cell (by decide) (F1076.cell (by decide) (F1060.cell (by decide) e3)))))))))
                refine rf_c185_l (d := d + 2) T1316 (⟨f2, e1375, ct4, fun z => (sf_pos B1322 (by decide) z)⟩) (fun z => sf_pos B1322 (by decide) z) (fun m1378 w1379 h1380 T1381 F1382 W1383 X1384 => ?_)
                have F1385 := F1365.trans F1382 (by decide)
                have B1386 : sf_B 0 600 (m1378 10) := by rw [W1383 10 (by decide)]; exact B1367
                have ek1387 : (m1378 10).toInt = ((m1313 10)).toInt := by rw [W1383 10 (by decide)]
                have B1388 : sf_B 0 4 (m1378 13) := by rw [W1383 13 (by decide)]; exact B1368
                have ek1389 : (m1378 13).toInt = ((m1313 13)).toInt := by rw [W1383 13 (by decide)]
                have B1390 : sf_B 1 4 (m1378 17) := by rw [W1383 17 (by decide)]; exact B1322
                have ek1391 : (m1378 17).toInt = ((m1313 17)).toInt := by rw [W1383 17 (by decide)]
                have B1392 : sf_B 0 0 (m1378 22) := by rw [W1383 22 (by decide)]; exact B1323
                have ek1393 : (m1378 22).toInt = ((m1313 22)).toInt := by rw [W1383 22 (by decide)]
                have W1394 : rf_W [10, 12, 13, 14, 16, 17, 18, 22] m m1378 := W1366.trans W1383 (by decide)
                show pm_R _ 192 173 [.ref 41, .long a0, pm_no, .int a1, .int 3] [] _ _
                obtain ⟨f1395, e1396, ct1397, bd1398⟩ := X1384
                refine pm_R_op pm_M192 (pc_q := 174) (st_q := [.int 1]) (pm_q192_1 (Nat.le_of_ble_eq_true rfl)) rfl rfl ?_
                exact pm_R_ret pm_M192 (r := some (.int 1)) (pm_q192_1 (Nat.le_of_ble_eq_true rfl)) rfl (K1 m1378 w1379 h1380 T1381 F1385 W1394 (⟨f1395, e1396, ct1397, fun z => (sf_pos B1390 (by decide) z)⟩) (sf_aux39 _ _ _ ek1387 R1371))
      · have B1399 : sf_B 0 0 z15 := sf_eqL (Classical.not_not.mp c17) sf_k0
        have B1400 : lf_B 478660552050 478660552050 a0 := lf_eqB e16 B1399 (⟨by decide, by decide⟩ : lf_B 478660552050 478660552050 478660552050)
        refine pm_R_op pm_M192 (pc_q := 33) (st_q := [.int 2]) rfl rfl rfl ?_
        refine pm_R_br pm_M192 (pc_q := 73) rfl rfl ?_
        refine pm_R_lo pm_M192 (pc_q := 75) (ls_q := [.ref 41, .long a0, pm_no, .int a1, .int 2]) (st_q := []) rfl rfl rfl ?_
        refine pm_R_lo pm_M192 (pc_q := 77) rfl rfl rfl ?_
        refine pm_R_op pm_M192 (pc_q := 78) (st_q := [.int (-1), .int 2]) rfl rfl rfl ?_
        refine pm_R_br pm_M192 (pc_q := 86) (st_q := []) rfl rfl ?_
        refine pm_R_lo pm_M192 (pc_q := 87) rfl rfl rfl ?_
        refine rf_R_get pm_M192 T (pc_q := 90) (v := .ref 51) rfl rfl rfl rfl ?_
        refine pm_R_op pm_M192 (pc_q := 91) (st_q := [.int 0, .ref 51]) rfl rfl rfl ?_
        refine pm_R_iald pm_M192 (pc_q := 92) (v := (f2 0)) rfl e3 (Nat.lt_of_lt_of_le (by decide) T.1) rfl rfl rfl ?_
        refine pm_R_op pm_M192 (pc_q := 94) (st_q := [.int 8, .int (f2 0)]) rfl rfl rfl ?_
        refine pm_R_icmp pm_M192 (t := 103) (pc_q := 97) rfl rfl rfl (fun c1403 => ?_) (fun c1403 => ?_)
        · have B1404 : sf_B 0 7 (f2 0) := sf_neH0 c1403 sf_k8 ct4
          refine pm_R_lo pm_M192 (pc_q := 104) rfl rfl rfl ?_
          refine pm_R_cv pm_M192 (pc_q := 107) (a := 41) (ra := []) (rest := []) (ls_q := [.ref 41, pm_no, pm_no]) rfl rfl (Or.inl rfl) pm_M179 T.2.1 rfl (by decide) (Nat.lt_of_lt_of_le (by decide) T.1) rfl rfl (Nat.le_of_ble_eq_true rfl) rfl rfl ?_
          refine rf_c179 (d := d + 1) T  (fun m1407 w1408 h1409 T1410 F1411 W1412 X1413 X1414 => ?_)
          have F1415 := (rf_G.refl [41, 51, 52] h).trans F1411 (by decide)
          have B1416 : sf_B 0 4 (m1407 17) := by rw [W1412 17 (by decide)]; exact B6
          have ek1417 : (m1407 17).toInt = ((m 17)).toInt := by rw [W1412 17 (by decide)]
          have W1418 : rf_W [10, 12, 13, 14, 16, 17, 18, 22] m m1407 := (rf_W.refl [10, 12, 13, 14, 16, 17, 18, 22] m).trans W1412 (by decide)
          have B1419 : sf_B 0 600 (m1407 10) := T1410.2.2.1 10
          have B1420 : sf_B 0 4 (m1407 13) := T1410.2.2.1 13
          have B1421 : sf_B 0 1 (m1407 22) := T1410.2.2.1 22
          show pm_R _ 192 107 [.ref 41, .long a0, pm_no, .int a1, .int 2] [] _ _
          have R1422 : (m 10).toInt ≤ (m1407 10).toInt := (sf_aux51 _ _ X1413)
          refine pm_R_lo pm_M192 (pc_q := 108) rfl rfl rfl ?_
          refine pm_R_cv pm_M192 (pc_q := 111) (a := 41) (ra := []) (rest := []) (ls_q := [.ref 41, pm_no]) rfl rfl (Or.inl rfl) pm_M190 T1410.2.1 rfl (by decide) (Nat.lt_of_lt_of_le (by decide) T1410.1) rfl rfl (Nat.le_of_ble_eq_true rfl) rfl rfl ?_
          refine pm_R_op pm_M190 (pc_q := 1) (st_q := [.int 0]) rfl rfl rfl ?_
          refine pm_R_lo pm_M190 (pc_q := 2) (ls_q := [.ref 41, .int 0]) (st_q := []) rfl rfl rfl ?_
          refine pm_R_lo pm_M190 (pc_q := 3) rfl rfl rfl ?_
          refine pm_R_op pm_M190 (pc_q := 4) (st_q := [.int 4, .int 0]) rfl rfl rfl ?_
          refine pm_R_br pm_M190 (pc_q := 7) (st_q := []) rfl rfl ?_
          refine pm_R_lo pm_M190 (pc_q := 8) rfl rfl rfl ?_
          refine rf_R_get pm_M190 T1410 (pc_q := 11) (v := .ref 52) rfl rfl rfl rfl ?_
          refine pm_R_lo pm_M190 (pc_q := 12) rfl rfl rfl ?_
          refine pm_R_op pm_M190 (pc_q := 13) (st_q := [.int (-1), .int 0, .ref 52]) rfl rfl rfl ?_
          obtain ⟨f1423, e1424, b1425⟩ := T1410.2.2.2.1 52 (by decide) (by decide)
          refine rf_R_ist pm_M190 T1410 (pc_q := 14) rfl e1424 (by decide) (by decide) rfl ⟨_, rfl, sf_upd b1425 (sf_weak sf_kn1 (by decide) (by decide)) _⟩ rfl (fun h1426 T1427 F1428 e1429 => ?_)
          have F1430 := F1415.trans F1428 (by decide)
          refine pm_R_lo pm_M190 (pc_q := 17) (ls_q := [.ref 41, .int 1]) (st_q := []) rfl rfl rfl ?_
          refine pm_R_br pm_M190 (pc_q := 2) rfl rfl ?_
          refine pm_R_lo pm_M190 (pc_q := 3) rfl rfl rfl ?_
          refine pm_R_op pm_M190 (pc_q := 4) (st_q := [.int 4, .int 1]) rfl rfl rfl ?_
          refine pm_R_br pm_M190 (pc_q := 7) (st_q := []) rfl rfl ?_
          refine pm_R_lo pm_M190 (pc_q := 8) rfl rfl rfl ?_
          refine rf_R_get pm_M190 T1427 (pc_q := 11) (v := .ref 52) rfl rfl rfl rfl ?_
          refine pm_R_lo pm_M190 (pc_q := 12) rfl rfl rfl ?_
          refine pm_R_op pm_M190 (pc_q := 13) (st_q := [.int (-1), .int 1, .ref 52]) rfl rfl rfl ?_
          refine rf_R_ist pm_M190 T1427 (pc_q := 14) rfl e1429 (by decide) (by decide) rfl ⟨_, rfl, sf_upd (sf_upd b1425 (sf_weak sf_kn1 (by decide) (by decide)) _) (sf_weak sf_kn1 (by decide) (by decide)) _⟩ rfl (fun h1431 T1432 F1433 e1434 => ?_)
          have F1435 := F1430.trans F1433 (by decide)
          refine pm_R_lo pm_M190 (pc_q := 17) (ls_q := [.ref 41, .int 2]) (st_q := []) rfl rfl rfl ?_
          refine pm_R_br pm_M190 (pc_q := 2) rfl rfl ?_
          refine pm_R_lo pm_M190 (pc_q := 3) rfl rfl rfl ?_
          refine pm_R_op pm_M190 (pc_q := 4) (st_q := [.int 4, .int 2]) rfl rfl rfl ?_
          refine pm_R_br pm_M190 (pc_q := 7) (st_q := []) rfl rfl ?_
          refine pm_R_lo pm_M190 (pc_q := 8) rfl rfl rfl ?_
          refine rf_R_get pm_M190 T1432 (pc_q := 11) (v := .ref 52) rfl rfl rfl rfl ?_
          refine pm_R_lo pm_M190 (pc_q := 12) rfl rfl rfl ?_
          refine pm_R_op pm_M190 (pc_q := 13) (st_q := [.int (-1), .int 2, .ref 52]) rfl rfl rfl ?_
          refine rf_R_ist pm_M190 T1432 (pc_q := 14) rfl e1434 (by decide) (by decide) rfl ⟨_, rfl, sf_upd (sf_upd (sf_upd b1425 (sf_weak sf_kn1 (by decide) (by decide)) _) (sf_weak sf_kn1 (by decide) (by decide)) _) (sf_weak sf_kn1 (by decide) (by decide)) _⟩ rfl (fun h1436 T1437 F1438 e1439 => ?_)
          have F1440 := F1435.trans F1438 (by decide)
          refine pm_R_lo pm_M190 (pc_q := 17) (ls_q := [.ref 41, .int 3]) (st_q := []) rfl rfl rfl ?_
          refine pm_R_br pm_M190 (pc_q := 2) rfl rfl ?_
          refine pm_R_lo pm_M190 (pc_q := 3) rfl rfl rfl ?_
          refine pm_R_op pm_M190 (pc_q := 4) (st_q := [.int 4, .int 3]) rfl rfl rfl ?_
          refine pm_R_br pm_M190 (pc_q := 7) (st_q := []) rfl rfl ?_
          refine pm_R_lo pm_M190 (pc_q := 8) rfl rfl rfl ?_
          refine rf_R_get pm_M190 T1437 (pc_q := 11) (v := .ref 52) rfl rfl rfl rfl ?_
          refine pm_R_lo pm_M190 (pc_q := 12) rfl rfl rfl ?_
          refine pm_R_op pm_M190 (pc_q := 13) (st_q := [.int (-1), .int 3, .ref 52]) rfl rfl rfl ?_
          refine rf_R_ist pm_M190 T1437 (pc_q := 14) rfl e1439 (by decide) (by decide) rfl ⟨_, rfl, sf_upd (sf_upd (sf_upd (sf_upd b1425 (sf_weak sf_kn1 (by decide) (by decide)) _) (sf_weak sf_kn1 (by decide) (by decide)) _) (sf_weak sf_kn1 (by decide) (by decide)) _) (sf_weak sf_kn1 (by decide) (by decide)) _⟩ rfl (fun h1441 T1442 F1443 e1444 => ?_)
          have F1445 := F1440.trans F1443 (by decide)
          refine pm_R_lo pm_M190 (pc_q := 17) (ls_q := [.ref 41, .int 4]) (st_q := []) rfl rfl rfl ?_
          refine pm_R_br pm_M190 (pc_q := 2) rfl rfl ?_
          refine pm_R_lo pm_M190 (pc_q := 3) rfl rfl rfl ?_
          refine pm_R_op pm_M190 (pc_q := 4) (st_q := [.int 4, .int 4]) rfl rfl rfl ?_
          refine pm_R_br pm_M190 (pc_q := 20) (st_q := []) rfl rfl ?_
          refine pm_R_ret pm_M190 (r := none) rfl rfl ?_
          show pm_R _ 192 111 [.ref 41, .long a0, pm_no, .int a1, .int 2] [] _ _
          refine pm_R_lo pm_M192 (pc_q := 112) rfl rfl rfl ?_
          refine rf_R_get pm_M192 T1442 (pc_q := 115) (v := .ref 52) rfl rfl rfl rfl ?_
          refine pm_R_op pm_M192 (pc_q := 116) (st_q := [.int 0, .ref 52]) (pm_q192_1 (Nat.le_of_ble_eq_true rfl)) rfl rfl ?_
          refine pm_R_lo pm_M192 (pc_q := 118) (pm_q192_1 (Nat.le_of_ble_eq_true rfl)) rfl rfl ?_
          refine rf_R_ist pm_M192 T1442 (pc_q := 119) (pm_q192_1 (Nat.le_of_ble_eq_true rfl)) e1444 (by decide) (by decide) rfl ⟨_, rfl, sf_upd (sf_upd (sf_upd (sf_upd (sf_upd b1425 (sf_weak sf_kn1 (by decide) (by decide)) _) (sf_weak sf_kn1 (by decide) (by decide)) _) (sf_weak sf_kn1 (by decide) (by decide)) _) (sf_weak sf_kn1 (by decide) (by decide)) _) (sf_weak sf_k2 (by decide) (by decide)) _⟩ rfl (fun h1446 T1447 F1448 e1449 => ?_)
          have F1450 := F1445.trans F1448 (by decide)
          refine pm_R_lo pm_M192 (pc_q := 120) (pm_q192_1 (Nat.le_of_ble_eq_true rfl)) rfl rfl ?_
          refine pm_R_op pm_M192 (pc_q := 121) (st_q := [.int 1, .ref 41]) (pm_q192_1 (Nat.le_of_ble_eq_true rfl)) rfl rfl ?_
          refine pm_R_op pm_M192 (pc_q := 123) (st_q := [.int 9, .int 1, .ref 41]) (pm_q192_1 (Nat.le_of_ble_eq_true rfl)) rfl rfl ?_
          refine pm_R_op pm_M192 (pc_q := 124) (st_q := [.int (-1), .int 9, .int 1, .ref 41]) (pm_q192_1 (Nat.le_of_ble_eq_true rfl)) rfl rfl ?_
          refine pm_R_cv pm_M192 (pc_q := 127) (a := 41) (ra := [.int (-1), .int 9, .int 1]) (rest := []) (ls_q := [.ref 41, .int 1, .int 9, .int (-1)]) (pm_q192_1 (Nat.le_of_ble_eq_true rfl)) rfl (Or.inl rfl) pm_M183 T1447.2.1 rfl (by decide) (Nat.lt_of_lt_of_le (by decide) T1447.1) rfl rfl (Nat.le_of_ble_eq_true rfl) rfl rfl ?_
          refine rf_c183_1_9 (d := d + 0) T1447  (fun m1453 w1454 h1455 T1456 F1457 W1458 X1459 => ?_) (fun m1462 w1463 h1464 T1465 F1466 W1467 X1468 X1469 X1470 X1471 X1472 => ?_) (fun m1475 w1476 h1477 T1478 F1479 W1480 X1481 X1482 X1483 B1484 B1485 => ?_)
          · have F1486 := F1450.trans F1457 (by decide)
            have W1487 : rf_W [10, 12, 13, 14, 16, 17, 18, 22] m m1453 := W1418.trans W1458 (by decide)
            have B1488 : sf_B 0 600 (m1453 10) := T1456.2.2.1 10
            have B1489 : sf_B 0 4 (m1453 13) := T1456.2.2.1 13
            have B1490 : sf_B 0 4 (m1453 17) := T1456.2.2.1 17
            have B1491 : sf_B 0 1 (m1453 22) := T1456.2.2.1 22
            show pm_R _ 192 127 [.ref 41, .long a0, pm_no, .int a1, .int 2] [.int 0] _ _
            have R1492 : (m 10).toInt ≤ (m1453 10).toInt := (sf_aux70 _ _ _ R1422 X1459)
            refine pm_R_br pm_M192 (pc_q := 130) (st_q := []) (pm_q192_1 (Nat.le_of_ble_eq_true rfl)) rfl ?_
            refine pm_R_op pm_M192 (pc_q := 131) (st_q := [.int 0]) (pm_q192_1 (Nat.le_of_ble_eq_true rfl)) rfl rfl ?_
            exact pm_R_ret pm_M192 (r := some (.int 0)) (pm_q192_1 (Nat.le_of_ble_eq_true rfl)) rfl (K0 m1453 w1454 h1455 T1456 F1486 W1487 (sf_aux51 _ _ R1492))
          · have F1493 := F1450.trans F1466 (by decide)
            have W1494 : rf_W [10, 12, 13, 14, 16, 17, 18, 22] m m1462 := W1418.trans W1467 (by decide)
            have B1495 : sf_B 0 600 (m1462 10) := T1465.2.2.1 10
            have B1496 : sf_B 0 4 (m1462 13) := T1465.2.2.1 13
            have B1497 : sf_B 0 4 (m1462 17) := T1465.2.2.1 17
            have B1498 : sf_B 0 1 (m1462 22) := T1465.2.2.1 22
            show pm_R _ 192 127 [.ref 41, .long a0, pm_no, .int a1, .int 2] [.int 1] _ _
            have R1499 : (m 10).toInt ≤ (m1462 10).toInt := (sf_aux70 _ _ _ R1422 X1472)
            obtain ⟨v1500, B1501, e1502⟩ := X1468 _ e1449
            refine pm_R_br pm_M192 (pc_q := 132) (st_q := []) (pm_q192_1 (Nat.le_of_ble_eq_true rfl)) rfl ?_
            refine pm_R_lo pm_M192 (pc_q := 134) (pm_q192_1 (Nat.le_of_ble_eq_true rfl)) rfl rfl ?_
            refine pm_R_op pm_M192 (pc_q := 135) (st_q := [.int 1, .int 2]) (pm_q192_1 (Nat.le_of_ble_eq_true rfl)) rfl rfl ?_
            refine pm_R_br pm_M192 (pc_q := 138) (st_q := []) (pm_q192_1 (Nat.le_of_ble_eq_true rfl)) rfl ?_
            refine pm_R_lo pm_M192 (pc_q := 140) (pm_q192_1 (Nat.le_of_ble_eq_true rfl)) rfl rfl ?_
            refine pm_R_op pm_M192 (pc_q := 141) (st_q := [.int 2, .int 2]) (pm_q192_1 (Nat.le_of_ble_eq_true rfl)) rfl rfl ?_
            refine pm_R_br pm_M192 (pc_q := 150) (st_q := []) (pm_q192_1 (Nat.le_of_ble_eq_true rfl)) rfl ?_
            refine pm_R_lo pm_M192 (pc_q := 151) (pm_q192_1 (Nat.le_of_ble_eq_true rfl)) rfl rfl ?_
            refine pm_R_op pm_M192 (pc_q := 152) (st_q := [.int 2, .ref 41]) (pm_q192_1 (Nat.le_of_ble_eq_true rfl)) rfl rfl ?_
            refine pm_R_op pm_M192 (pc_q := 154) (st_q := [.int 9, .int 2, .ref 41]) (pm_q192_1 (Nat.le_of_ble_eq_true rfl)) rfl rfl ?_
            refine pm_R_op pm_M192 (pc_q := 155) (st_q := [.int (-1), .int 9, .int 2, .ref 41]) (pm_q192_1 (Nat.le_of_ble_eq_true rfl)) rfl rfl ?_
            refine pm_R_cv pm_M192 (pc_q := 158) (a := 41) (ra := [.int (-1), .int 9, .int 2]) (rest := []) (ls_q := [.ref 41, .int 2, .int 9, .int (-1)]) (pm_q192_1 (Nat.le_of_ble_eq_true rfl)) rfl (Or.inl rfl) pm_M183 T1465.2.1 rfl (by decide) (Nat.lt_of_lt_of_le (by decide) T1465.1) rfl rfl (Nat.le_of_ble_eq_true rfl) rfl rfl ?_
            refine rf_c183_2_9 (d := d + 0) T1465  (fun m1505 w1506 h1507 T1508 F1509 W1510 X1511 => ?_) (fun m1514 w1515 h1516 T1517 F1518 W1519 X1520 X1521 X1522 X1523 X1524 => ?_) (fun m1527 w1528 h1529 T1530 F1531 W1532 X1533 X1534 X1535 B1536 B1537 => ?_)
            · have F1538 := F1493.trans F1509 (by decide)
              have W1539 : rf_W [10, 12, 13, 14, 16, 17, 18, 22] m m1505 := W1494.trans W1510 (by decide)
              have B1540 : sf_B 0 600 (m1505 10) := T1508.2.2.1 10
              have B1541 : sf_B 0 4 (m1505 13) := T1508.2.2.1 13
              have B1542 : sf_B 0 4 (m1505 17) := T1508.2.2.1 17
              have B1543 : sf_B 0 1 (m1505 22) := T1508.2.2.1 22
              show pm_R _ 192 158 [.ref 41, .long a0, pm_no, .int a1, .int 2] [.int 0] _ _
              have R1544 : (m 10).toInt ≤ (m1505 10).toInt := (sf_aux70 _ _ _ R1499 X1511)
              refine pm_R_br pm_M192 (pc_q := 161) (st_q := []) (pm_q192_1 (Nat.le_of_ble_eq_true rfl)) rfl ?_
              refine pm_R_op pm_M192 (pc_q := 162) (st_q := [.int 0]) (pm_q192_1 (Nat.le_of_ble_eq_true rfl)) rfl rfl ?_
              exact pm_R_ret pm_M192 (r := some (.int 0)) (pm_q192_1 (Nat.le_of_ble_eq_true rfl)) rfl (K0 m1505 w1506 h1507 T1508 F1538 W1539 (sf_aux51 _ _ R1544))
            · have F1545 := F1493.trans F1518 (by decide)
              have W1546 : rf_W [10, 12, 13, 14, 16, 17, 18, 22] m m1514 := W1494.trans W1519 (by decide)
              have B1547 : sf_B 0 600 (m1514 10) := T1517.2.2.1 10
              have B1548 : sf_B 0 4 (m1514 13) := T1517.2.2.1 13
              have B1549 : sf_B 0 4 (m1514 17) := T1517.2.2.1 17
              have B1550 : sf_B 0 1 (m1514 22) := T1517.2.2.1 22
              show pm_R _ 192 158 [.ref 41, .long a0, pm_no, .int a1, .int 2] [.int 1] _ _
              have R1551 : (m 10).toInt ≤ (m1514 10).toInt := (sf_aux70 _ _ _ R1499 X1524)
              obtain ⟨v1552, B1553, e1554⟩ := X1520 _ e1502
              refine pm_R_br pm_M192 (pc_q := 163) (st_q := []) (pm_q192_1 (Nat.le_of_ble_eq_true rfl)) rfl ?_
              refine pm_R_lo pm_M192 (pc_q := 164) (pm_q192_1 (Nat.le_of_ble_eq_true rfl)) rfl rfl ?_
              refine pm_R_op pm_M192 (pc_q := 165) (st_q := [.int 0, .ref 41]) (pm_q192_1 (Nat.le_of_ble_eq_true rfl)) rfl rfl ?_
              refine pm_R_op pm_M192 (pc_q := 166) (st_q := [.int 1, .int 0, .ref 41]) (pm_q192_1 (Nat.le_of_ble_eq_true rfl)) rfl rfl ?_
              refine pm_R_op pm_M192 (pc_q := 167) (st_q := [.int 3, .int 1, .int 0, .ref 41]) (pm_q192_1 (Nat.le_of_ble_eq_true rfl)) rfl rfl ?_
              refine pm_R_op pm_M192 (pc_q := 169) (st_q := [.int 8, .int 3, .int 1, .int 0, .ref 41]) (pm_q192_1 (Nat.le_of_ble_eq_true rfl)) rfl rfl ?_
              refine pm_R_op pm_M192 (pc_q := 170) (st_q := [.int 0, .int 8, .int 3, .int 1, .int 0, .ref 41]) (pm_q192_1 (Nat.le_of_ble_eq_true rfl)) rfl rfl ?_
              refine pm_R_cv pm_M192 (pc_q := 173) (a := 41) (ra := [.int 0, .int 8, .int 3, .int 1, .int 0]) (rest := []) (ls_q := [.ref 41, .int 0, .int 1, .int 3, .int 8, .int 0, pm_no, pm_no]) (pm_q192_1 (Nat.le_of_ble_eq_true rfl)) rfl (Or.inl rfl) pm_M185 T1517.2.1 rfl (by decide) (Nat.lt_of_lt_of_le (by decide) T1517.1) rfl rfl (Nat.le_of_ble_eq_true rfl) rfl rfl ?_
              have e1555 := (F1518.cell (by decide) (F1466.cell (by decide) (F1448.cell (by decide) (F1443.cell (by decide) (F1438.cell (by decide) (F1433.cell (by decide) (F1428.cell (by decide) (F1411.cell (by decide) e3))))))))
              refine rf_c185_l (d := d + 2) T1517 (⟨f2, e1555, ct4, fun z => (bd5 (sf_aux73 _ _ _ _ ek1417 X1469 X1521 z))⟩) (fun _ g eg => by rw [e1554] at eg; cases eg; exact ⟨sf_eqL (Eq.trans (sf_upd_nec (k := Int32.toNatClampNeg 2) (j := Int32.toNatClampNeg 0) (by decide)) (Eq.trans (sf_upd_nec (k := Int32.toNatClampNeg 1) (j := Int32.toNatClampNeg 0) (by decide)) sf_upd_eq)) (sf_weak sf_k2 (by decide) (by decide)), sf_eqL (Eq.trans (sf_upd_nec (k := Int32.toNatClampNeg 2) (j := Int32.toNatClampNeg 1) (by decide)) sf_upd_eq) B1501, sf_eqL sf_upd_eq (sf_weak B1553 (by decide) (by decide))⟩) (fun m1558 w1559 h1560 T1561 F1562 W1563 X1564 => ?_)
              have F1565 := F1545.trans F1562 (by decide)
              have B1566 : sf_B 0 600 (m1558 10) := by rw [W1563 10 (by decide)]; exact B1547
              have ek1567 : (m1558 10).toInt = ((m1514 10)).toInt := by rw [W1563 10 (by decide)]
              have B1568 : sf_B 0 4 (m1558 13) := by rw [W1563 13 (by decide)]; exact B1548
              have ek1569 : (m1558 13).toInt = ((m1514 13)).toInt := by rw [W1563 13 (by decide)]
              have B1570 : sf_B 0 4 (m1558 17) := by rw [W1563 17 (by decide)]; exact (sf_eqT X1521 (sf_eqT X1469 B1416))
              have ek1571 : (m1558 17).toInt = ((m1462 17)).toInt := by rw [W1563 17 (by decide)]; exact X1521
              have B1572 : sf_B 0 1 (m1558 22) := by rw [W1563 22 (by decide)]; exact (sf_eqT X1522 (sf_eqT X1470 B1421))
              have ek1573 : (m1558 22).toInt = ((m1462 22)).toInt := by rw [W1563 22 (by decide)]; exact X1522
              have W1574 : rf_W [10, 12, 13, 14, 16, 17, 18, 22] m m1558 := W1546.trans W1563 (by decide)
              show pm_R _ 192 173 [.ref 41, .long a0, pm_no, .int a1, .int 2] [] _ _
              obtain ⟨f1575, e1576, ct1577, bd1578⟩ := X1564
              refine pm_R_op pm_M192 (pc_q := 174) (st_q := [.int 1]) (pm_q192_1 (Nat.le_of_ble_eq_true rfl)) rfl rfl ?_
              exact pm_R_ret pm_M192 (r := some (.int 1)) (pm_q192_1 (Nat.le_of_ble_eq_true rfl)) rfl (K1 m1558 w1559 h1560 T1561 F1565 W1574 (⟨f1575, e1576, ct1577, fun z => (bd1578 z)⟩) (sf_aux39 _ _ _ ek1567 R1551))
            · have F1579 := F1493.trans F1531 (by decide)
              have W1580 : rf_W [10, 12, 13, 14, 16, 17, 18, 22] m m1527 := W1494.trans W1532 (by decide)
              have B1581 : sf_B 0 600 (m1527 10) := T1530.2.2.1 10
              have B1582 : sf_B 0 4 (m1527 13) := T1530.2.2.1 13
              have B1583 : sf_B 0 4 (m1527 17) := T1530.2.2.1 17
              have B1584 : sf_B 0 1 (m1527 22) := T1530.2.2.1 22
              show pm_R _ 192 158 [.ref 41, .long a0, pm_no, .int a1, .int 2] [.int 1] _ _
              have R1585 : (m 10).toInt ≤ (m1527 10).toInt := (sf_aux70 _ _ _ R1499 X1535)
              obtain ⟨v1586, B1587, e1588⟩ := X1533 _ e1502
              refine pm_R_br pm_M192 (pc_q := 163) (st_q := []) (pm_q192_1 (Nat.le_of_ble_eq_true rfl)) rfl ?_
              refine pm_R_lo pm_M192 (pc_q := 164) (pm_q192_1 (Nat.le_of_ble_eq_true rfl)) rfl rfl ?_
              refine pm_R_op pm_M192 (pc_q := 165) (st_q := [.int 0, .ref 41]) (pm_q192_1 (Nat.le_of_ble_eq_true rfl)) rfl rfl ?_
              refine pm_R_op pm_M192 (pc_q := 166) (st_q := [.int 1, .int 0, .ref 41]) (pm_q192_1 (Nat.le_of_ble_eq_true rfl)) rfl rfl ?_
              refine pm_R_op pm_M192 (pc_q := 167) (st_q := [.int 3, .int 1, .int 0, .ref 41]) (pm_q192_1 (Nat.le_of_ble_eq_true rfl)) rfl rfl ?_
              refine pm_R_op pm_M192 (pc_q := 169) (st_q := [.int 8, .int 3, .int 1, .int 0, .ref 41]) (pm_q192_1 (Nat.le_of_ble_eq_true rfl)) rfl rfl ?_
              refine pm_R_op pm_M192 (pc_q := 170) (st_q := [.int 0, .int 8, .int 3, .int 1, .int 0, .ref 41]) (pm_q192_1 (Nat.le_of_ble_eq_true rfl)) rfl rfl ?_
              refine pm_R_cv pm_M192 (pc_q := 173) (a := 41) (ra := [.int 0, .int 8, .int 3, .int 1, .int 0]) (rest := []) (ls_q := [.ref 41, .int 0, .int 1, .int 3, .int 8, .int 0, pm_no, pm_no]) (pm_q192_1 (Nat.le_of_ble_eq_true rfl)) rfl (Or.inl rfl) pm_M185 T1530.2.1 rfl (by decide) (Nat.lt_of_lt_of_le (by decide) T1530.1) rfl rfl (Nat.le_of_ble_eq_true rfl) rfl rfl ?_
              have e1589 := (F1531.cell (by decide) (F1466.cell (by decide) (F1448.cell (by decide) (F1443.cell (by decide) (F1438.cell (by decide) (F1433.cell (by decide) (F1428.cell (by decide) (F1411.cell (by decide) e3))))))))
              refine rf_c185_l (d := d + 2) T1530 (⟨f2, e1589, ct4, fun z => (sf_pos B1536 (by decide) z)⟩) (fun z => sf_pos B1536 (by decide) z) (fun m1592 w1593 h1594 T1595 F1596 W1597 X1598 => ?_)
              have F1599 := F1579.trans F1596 (by decide)
              have B1600 : sf_B 0 600 (m1592 10) := by rw [W1597 10 (by decide)]; exact B1581
              have ek1601 : (m1592 10).toInt = ((m1527 10)).toInt := by rw [W1597 10 (by decide)]
              have B1602 : sf_B 0 4 (m1592 13) := by rw [W1597 13 (by decide)]; exact B1582
              have ek1603 : (m1592 13).toInt = ((m1527 13)).toInt := by rw [W1597 13 (by decide)]
              have B1604 : sf_B 1 4 (m1592 17) := by rw [W1597 17 (by decide)]; exact B1536
              have ek1605 : (m1592 17).toInt = ((m1527 17)).toInt := by rw [W1597 17 (by decide)]
              have B1606 : sf_B 0 0 (m1592 22) := by rw [W1597 22 (by decide)]; exact B1537
              have ek1607 : (m1592 22).toInt = ((m1527 22)).toInt := by rw [W1597 22 (by decide)]
              have W1608 : rf_W [10, 12, 13, 14, 16, 17, 18, 22] m m1592 := W1580.trans W1597 (by decide)
              show pm_R _ 192 173 [.ref 41, .long a0, pm_no, .int a1, .int 2] [] _ _
              obtain ⟨f1609, e1610, ct1611, bd1612⟩ := X1598
              refine pm_R_op pm_M192 (pc_q := 174) (st_q := [.int 1]) (pm_q192_1 (Nat.le_of_ble_eq_true rfl)) rfl rfl ?_
              exact pm_R_ret pm_M192 (r := some (.int 1)) (pm_q192_1 (Nat.le_of_ble_eq_true rfl)) rfl (K1 m1592 w1593 h1594 T1595 F1599 W1608 (⟨f1609, e1610, ct1611, fun z => (sf_pos B1604 (by decide) z)⟩) (sf_aux39 _ _ _ ek1601 R1585))
          · have F1613 := F1450.trans F1479 (by decide)
            have W1614 : rf_W [10, 12, 13, 14, 16, 17, 18, 22] m m1475 := W1418.trans W1480 (by decide)
            have B1615 : sf_B 0 600 (m1475 10) := T1478.2.2.1 10
            have B1616 : sf_B 0 4 (m1475 13) := T1478.2.2.1 13
            have B1617 : sf_B 0 4 (m1475 17) := T1478.2.2.1 17
            have B1618 : sf_B 0 1 (m1475 22) := T1478.2.2.1 22
            show pm_R _ 192 127 [.ref 41, .long a0, pm_no, .int a1, .int 2] [.int 1] _ _
            have R1619 : (m 10).toInt ≤ (m1475 10).toInt := (sf_aux70 _ _ _ R1422 X1483)
            obtain ⟨v1620, B1621, e1622⟩ := X1481 _ e1449
            refine pm_R_br pm_M192 (pc_q := 132) (st_q := []) (pm_q192_1 (Nat.le_of_ble_eq_true rfl)) rfl ?_
            refine pm_R_lo pm_M192 (pc_q := 134) (pm_q192_1 (Nat.le_of_ble_eq_true rfl)) rfl rfl ?_
            refine pm_R_op pm_M192 (pc_q := 135) (st_q := [.int 1, .int 2]) (pm_q192_1 (Nat.le_of_ble_eq_true rfl)) rfl rfl ?_
            refine pm_R_br pm_M192 (pc_q := 138) (st_q := []) (pm_q192_1 (Nat.le_of_ble_eq_true rfl)) rfl ?_
            refine pm_R_lo pm_M192 (pc_q := 140) (pm_q192_1 (Nat.le_of_ble_eq_true rfl)) rfl rfl ?_
            refine pm_R_op pm_M192 (pc_q := 141) (st_q := [.int 2, .int 2]) (pm_q192_1 (Nat.le_of_ble_eq_true rfl)) rfl rfl ?_
            refine pm_R_br pm_M192 (pc_q := 150) (st_q := []) (pm_q192_1 (Nat.le_of_ble_eq_true rfl)) rfl ?_
            refine pm_R_lo pm_M192 (pc_q := 151) (pm_q192_1 (Nat.le_of_ble_eq_true rfl)) rfl rfl ?_
            refine pm_R_op pm_M192 (pc_q := 152) (st_q := [.int 2, .ref 41]) (pm_q192_1 (Nat.le_of_ble_eq_true rfl)) rfl rfl ?_
            refine pm_R_op pm_M192 (pc_q := 154) (st_q := [.int 9, .int 2, .ref 41]) (pm_q192_1 (Nat.le_of_ble_eq_true rfl)) rfl rfl ?_
            refine pm_R_op pm_M192 (pc_q := 155) (st_q := [.int (-1), .int 9, .int 2, .ref 41]) (pm_q192_1 (Nat.le_of_ble_eq_true rfl)) rfl rfl ?_
            refine pm_R_cv pm_M192 (pc_q := 158) (a := 41) (ra := [.int (-1), .int 9, .int 2]) (rest := []) (ls_q := [.ref 41, .int 2, .int 9, .int (-1)]) (pm_q192_1 (Nat.le_of_ble_eq_true rfl)) rfl (Or.inl rfl) pm_M183 T1478.2.1 rfl (by decide) (Nat.lt_of_lt_of_le (by decide) T1478.1) rfl rfl (Nat.le_of_ble_eq_true rfl) rfl rfl ?_
            refine rf_c183_2_9 (d := d + 0) T1478  (fun m1625 w1626 h1627 T1628 F1629 W1630 X1631 => ?_) (fun m1634 w1635 h1636 T1637 F1638 W1639 X1640 X1641 X1642 X1643 X1644 => ?_) (fun m1647 w1648 h1649 T1650 F1651 W1652 X1653 X1654 X1655 B1656 B1657 => ?_)
            · have F1658 := F1613.trans F1629 (by decide)
              have W1659 : rf_W [10, 12, 13, 14, 16, 17, 18, 22] m m1625 := W1614.trans W1630 (by decide)
              have B1660 : sf_B 0 600 (m1625 10) := T1628.2.2.1 10
              have B1661 : sf_B 0 4 (m1625 13) := T1628.2.2.1 13
              have B1662 : sf_B 0 4 (m1625 17) := T1628.2.2.1 17
              have B1663 : sf_B 0 1 (m1625 22) := T1628.2.2.1 22
              show pm_R _ 192 158 [.ref 41, .long a0, pm_no, .int a1, .int 2] [.int 0] _ _
              have R1664 : (m 10).toInt ≤ (m1625 10).toInt := (sf_aux70 _ _ _ R1619 X1631)
              refine pm_R_br pm_M192 (pc_q := 161) (st_q := []) (pm_q192_1 (Nat.le_of_ble_eq_true rfl)) rfl ?_
              refine pm_R_op pm_M192 (pc_q := 162) (st_q := [.int 0]) (pm_q192_1 (Nat.le_of_ble_eq_true rfl)) rfl rfl ?_
              exact pm_R_ret pm_M192 (r := some (.int 0)) (pm_q192_1 (Nat.le_of_ble_eq_true rfl)) rfl (K0 m1625 w1626 h1627 T1628 F1658 W1659 (sf_aux51 _ _ R1664))
            · have F1665 := F1613.trans F1638 (by decide)
              have W1666 : rf_W [10, 12, 13, 14, 16, 17, 18, 22] m m1634 := W1614.trans W1639 (by decide)
              have B1667 : sf_B 0 600 (m1634 10) := T1637.2.2.1 10
              have B1668 : sf_B 0 4 (m1634 13) := T1637.2.2.1 13
              have B1669 : sf_B 0 4 (m1634 17) := T1637.2.2.1 17
              have B1670 : sf_B 0 1 (m1634 22) := T1637.2.2.1 22
              show pm_R _ 192 158 [.ref 41, .long a0, pm_no, .int a1, .int 2] [.int 1] _ _
              have R1671 : (m 10).toInt ≤ (m1634 10).toInt := (sf_aux70 _ _ _ R1619 X1644)
              obtain ⟨v1672, B1673, e1674⟩ := X1640 _ e1622
              refine pm_R_br pm_M192 (pc_q := 163) (st_q := []) (pm_q192_1 (Nat.le_of_ble_eq_true rfl)) rfl ?_
              refine pm_R_lo pm_M192 (pc_q := 164) (pm_q192_1 (Nat.le_of_ble_eq_true rfl)) rfl rfl ?_
              refine pm_R_op pm_M192 (pc_q := 165) (st_q := [.int 0, .ref 41]) (pm_q192_1 (Nat.le_of_ble_eq_true rfl)) rfl rfl ?_
              refine pm_R_op pm_M192 (pc_q := 166) (st_q := [.int 1, .int 0, .ref 41]) (pm_q192_1 (Nat.le_of_ble_eq_true rfl)) rfl rfl ?_
              refine pm_R_op pm_M192 (pc_q := 167) (st_q := [.int 3, .int 1, .int 0, .ref 41]) (pm_q192_1 (Nat.le_of_ble_eq_true rfl)) rfl rfl ?_
              refine pm_R_op pm_M192 (pc_q := 169) (st_q := [.int 8, .int 3, .int 1, .int 0, .ref 41]) (pm_q192_1 (Nat.le_of_ble_eq_true rfl)) rfl rfl ?_
              refine pm_R_op pm_M192 (pc_q := 170) (st_q := [.int 0, .int 8, .int 3, .int 1, .int 0, .ref 41]) (pm_q192_1 (Nat.le_of_ble_eq_true rfl)) rfl rfl ?_
              refine pm_R_cv pm_M192 (pc_q := 173) (a := 41) (ra := [.int 0, .int 8, .int 3, .int 1, .int 0]) (rest := []) (ls_q := [.ref 41, .int 0, .int 1, .int 3, .int 8, .int 0, pm_no, pm_no]) (pm_q192_1 (Nat.le_of_ble_eq_true rfl)) rfl (Or.inl rfl) pm_M185 T1637.2.1 rfl (by decide) (Nat.lt_of_lt_of_le (by decide) T1637.1) rfl rfl (Nat.le_of_ble_eq_true rfl) rfl rfl ?_
              have e1675 := (F1638.cell (by decide) (F1479.cell (by decide) (F1448.cell (by decide) (F1443.cell (by decide) (F1438.cell (by decide) (F1433.cell (by decide) (F1428.cell (by decide) (F1411.cell (by decide) e3))))))))
              refine rf_c185_l (d := d + 2) T1637 (⟨f2, e1675, ct4, fun z => (sf_pos (sf_eqT X1641 B1484) (by decide) z)⟩) (fun z => sf_pos (sf_eqT X1641 B1484) (by decide) z) (fun m1678 w1679 h1680 T1681 F1682 W1683 X1684 => ?_)
              have F1685 := F1665.trans F1682 (by decide)
              have B1686 : sf_B 0 600 (m1678 10) := by rw [W1683 10 (by decide)]; exact B1667
              have ek1687 : (m1678 10).toInt = ((m1634 10)).toInt := by rw [W1683 10 (by decide)]
              have B1688 : sf_B 0 4 (m1678 13) := by rw [W1683 13 (by decide)]; exact B1668
              have ek1689 : (m1678 13).toInt = ((m1634 13)).toInt := by rw [W1683 13 (by decide)]
              have B1690 : sf_B 1 4 (m1678 17) := by rw [W1683 17 (by decide)]; exact (sf_eqT X1641 B1484)
              have ek1691 : (m1678 17).toInt = ((m1475 17)).toInt := by rw [W1683 17 (by decide)]; exact X1641
              have B1692 : sf_B 0 0 (m1678 22) := by rw [W1683 22 (by decide)]; exact (sf_eqT X1642 B1485)
              have ek1693 : (m1678 22).toInt = ((m1475 22)).toInt := by rw [W1683 22 (by decide)]; exact X1642
              have W1694 : rf_W [10, 12, 13, 14, 16, 17, 18, 22] m m1678 := W1666.trans W1683 (by decide)
              show pm_R _ 192 173 [.ref 41, .long a0, pm_no, .int a1, .int 2] [] _ _
              obtain ⟨f1695, e1696, ct1697, bd1698⟩ := X1684
              refine pm_R_op pm_M192 (pc_q := 174) (st_q := [.int 1]) (pm_q192_1 (Nat.le_of_ble_eq_true rfl)) rfl rfl ?_
              exact pm_R_ret pm_M192 (r := some (.int 1)) (pm_q192_1 (Nat.le_of_ble_eq_true rfl)) rfl (K1 m1678 w1679 h1680 T1681 F1685 W1694 (⟨f1695, e1696, ct1697, fun z => (sf_pos B1690 (by decide) z)⟩) (sf_aux39 _ _ _ ek1687 R1671))
            · have F1699 := F1613.trans F1651 (by decide)
              have W1700 : rf_W [10, 12, 13, 14, 16, 17, 18, 22] m m1647 := W1614.trans W1652 (by decide)
              have B1701 : sf_B 0 600 (m1647 10) := T1650.2.2.1 10
              have B1702 : sf_B 0 4 (m1647 13) := T1650.2.2.1 13
              have B1703 : sf_B 0 4 (m1647 17) := T1650.2.2.1 17
              have B1704 : sf_B 0 1 (m1647 22) := T1650.2.2.1 22
              show pm_R _ 192 158 [.ref 41, .long a0, pm_no, .int a1, .int 2] [.int 1] _ _
              have R1705 : (m 10).toInt ≤ (m1647 10).toInt := (sf_aux70 _ _ _ R1619 X1655)
              obtain ⟨v1706, B1707, e1708⟩ := X1653 _ e1622
              refine pm_R_br pm_M192 (pc_q := 163) (st_q := []) (pm_q192_1 (Nat.le_of_ble_eq_true rfl)) rfl ?_
              refine pm_R_lo pm_M192 (pc_q := 164) (pm_q192_1 (Nat.le_of_ble_eq_true rfl)) rfl rfl ?_
              refine pm_R_op pm_M192 (pc_q := 165) (st_q := [.int 0, .ref 41]) (pm_q192_1 (Nat.le_of_ble_eq_true rfl)) rfl rfl ?_
              refine pm_R_op pm_M192 (pc_q := 166) (st_q := [.int 1, .int 0, .ref 41]) (pm_q192_1 (Nat.le_of_ble_eq_true rfl)) rfl rfl ?_
              refine pm_R_op pm_M192 (pc_q := 167) (st_q := [.int 3, .int 1, .int 0, .ref 41]) (pm_q192_1 (Nat.le_of_ble_eq_true rfl)) rfl rfl ?_
              refine pm_R_op pm_M192 (pc_q := 169) (st_q := [.int 8, .int 3, .int 1, .int 0, .ref 41]) (pm_q192_1 (Nat.le_of_ble_eq_true rfl)) rfl rfl ?_
              refine pm_R_op pm_M192 (pc_q := 170) (st_q := [.int 0, .int 8, .int 3, .int 1, .int 0, .ref 41]) (pm_q192_1 (Nat.le_of_ble_eq_true rfl)) rfl rfl ?_
              refine pm_R_cv pm_M192 (pc_q := 173) (a := 41) (ra := [.int 0, .int 8, .int 3, .int 1, .int 0]) (rest := []) (ls_q := [.ref 41, .int 0, .int 1, .int 3, .int 8, .int 0, pm_no, pm_no]) (pm_q192_1 (Nat.le_of_ble_eq_true rfl)) rfl (Or.inl rfl) pm_M185 T1650.2.1 rfl (by decide) (Nat.lt_of_lt_of_le (by decide) T1650.1) rfl rfl (Nat.le_of_ble_eq_true rfl) rfl rfl ?_
              have e1709 := (F1651.cell (by decide) (F1479.cell (by decide) (F1448.cell (by decide) (F1443.cell (by decide) (F1438.cell (by decide) (F1433.cell (by decide) (F1428.cell (by decide) (F1411.cell (by decide) e3))))))))
              refine rf_c185_l (d := d + 2) T1650 (⟨f2, e1709, ct4, fun z => (sf_pos B1656 (by decide) z)⟩) (fun z => sf_pos B1656 (by decide) z) (fun m1712 w1713 h1714 T1715 F1716 W1717 X1718 => ?_)
              have F1719 := F1699.trans F1716 (by decide)
              have B1720 : sf_B 0 600 (m1712 10) := by rw [W1717 10 (by decide)]; exact B1701
              have ek1721 : (m1712 10).toInt = ((m1647 10)).toInt := by rw [W1717 10 (by decide)]
              have B1722 : sf_B 0 4 (m1712 13) := by rw [W1717 13 (by decide)]; exact B1702
              have ek1723 : (m1712 13).toInt = ((m1647 13)).toInt := by rw [W1717 13 (by decide)]
              have B1724 : sf_B 1 4 (m1712 17) := by rw [W1717 17 (by decide)]; exact B1656
              have ek1725 : (m1712 17).toInt = ((m1647 17)).toInt := by rw [W1717 17 (by decide)]
              have B1726 : sf_B 0 0 (m1712 22) := by rw [W1717 22 (by decide)]; exact B1657
              have ek1727 : (m1712 22).toInt = ((m1647 22)).toInt := by rw [W1717 22 (by decide)]
              have W1728 : rf_W [10, 12, 13, 14, 16, 17, 18, 22] m m1712 := W1700.trans W1717 (by decide)
              show pm_R _ 192 173 [.ref 41, .long a0, pm_no, .int a1, .int 2] [] _ _
              obtain ⟨f1729, e1730, ct1731, bd1732⟩ := X1718
              refine pm_R_op pm_M192 (pc_q := 174) (st_q := [.int 1]) (pm_q192_1 (Nat.le_of_ble_eq_true rfl)) rfl rfl ?_
              exact pm_R_ret pm_M192 (r := some (.int 1)) (pm_q192_1 (Nat.le_of_ble_eq_true rfl)) rfl (K1 m1712 w1713 h1714 T1715 F1719 W1728 (⟨f1729, e1730, ct1731, fun z => (sf_pos B1724 (by decide) z)⟩) (sf_aux39 _ _ _ ek1721 R1705))
        · have B1733 : sf_B 8 8 (f2 0) := sf_eqL (Classical.not_not.mp c1403) sf_k8
          refine pm_R_lo pm_M192 (pc_q := 98) rfl rfl rfl ?_
          refine pm_R_op pm_M192 (pc_q := 99) (st_q := [.int 3, .ref 41]) rfl rfl rfl ?_
          refine pm_R_lo pm_M192 (pc_q := 100) rfl rfl rfl ?_
          refine pm_R_cv pm_M192 (pc_q := 103) (a := 41) (ra := [.int a1, .int 3]) (rest := []) (ls_q := [.ref 41, .int 3, .int a1]) rfl rfl (Or.inl rfl) pm_M182 T.2.1 rfl (by decide) (Nat.lt_of_lt_of_le (by decide) T.1) rfl rfl (Nat.le_of_ble_eq_true rfl) rfl rfl ?_
          refine rf_c182 (d := d + 2) T (sf_weak sf_k3 (by decide) (by decide)) Ba1 (fun m1736 w1737 h1738 T1739 F1740 W1741 B1742 => ?_)
          have F1743 := (rf_G.refl [41, 51, 52] h).trans F1740 (by decide)
          have B1744 : sf_B 0 600 (m1736 10) := by rw [W1741 10 (by decide)]; exact B1
          have ek1745 : (m1736 10).toInt = ((m 10)).toInt := by rw [W1741 10 (by decide)]
          have W1746 : rf_W [10, 12, 13, 14, 16, 17, 18, 22] m m1736 := (rf_W.refl [10, 12, 13, 14, 16, 17, 18, 22] m).trans W1741 (by decide)
          have B1747 : sf_B 0 4 (m1736 13) := T1739.2.2.1 13
          have B1748 : sf_B 0 4 (m1736 17) := T1739.2.2.1 17
          have B1749 : sf_B 0 1 (m1736 22) := T1739.2.2.1 22
          show pm_R _ 192 103 [.ref 41, .long a0, pm_no, .int a1, .int 2] [] _ _
          refine pm_R_lo pm_M192 (pc_q := 104) rfl rfl rfl ?_
          refine pm_R_cv pm_M192 (pc_q := 107) (a := 41) (ra := []) (rest := []) (ls_q := [.ref 41, pm_no, pm_no]) rfl rfl (Or.inl rfl) pm_M179 T1739.2.1 rfl (by decide) (Nat.lt_of_lt_of_le (by decide) T1739.1) rfl rfl (Nat.le_of_ble_eq_true rfl) rfl rfl ?_
          refine rf_c179 (d := d + 1) T1739  (fun m1752 w1753 h1754 T1755 F1756 W1757 X1758 X1759 => ?_)
          have F1760 := F1743.trans F1756 (by decide)
          have B1761 : sf_B 1 4 (m1752 17) := by rw [W1757 17 (by decide)]; exact B1742
          have ek1762 : (m1752 17).toInt = ((m1736 17)).toInt := by rw [W1757 17 (by decide)]
          have B1763 : sf_B 0 1 (m1752 22) := by rw [W1757 22 (by decide)]; exact B1749
          have ek1764 : (m1752 22).toInt = ((m1736 22)).toInt := by rw [W1757 22 (by decide)]
          have W1765 : rf_W [10, 12, 13, 14, 16, 17, 18, 22] m m1752 := W1746.trans W1757 (by decide)
          have B1766 : sf_B 0 600 (m1752 10) := T1755.2.2.1 10
          have B1767 : sf_B 0 4 (m1752 13) := T1755.2.2.1 13
          show pm_R _ 192 107 [.ref 41, .long a0, pm_no, .int a1, .int 2] [] _ _
          have R1768 : (m 10).toInt ≤ (m1752 10).toInt := (sf_aux53 _ _ _ ek1745 X1758)
          refine pm_R_lo pm_M192 (pc_q := 108) rfl rfl rfl ?_
          refine pm_R_cv pm_M192 (pc_q := 111) (a := 41) (ra := []) (rest := []) (ls_q := [.ref 41, pm_no]) rfl rfl (Or.inl rfl) pm_M190 T1755.2.1 rfl (by decide) (Nat.lt_of_lt_of_le (by decide) T1755.1) rfl rfl (Nat.le_of_ble_eq_true rfl) rfl rfl ?_
          refine pm_R_op pm_M190 (pc_q := 1) (st_q := [.int 0]) rfl rfl rfl ?_
          refine pm_R_lo pm_M190 (pc_q := 2) (ls_q := [.ref 41, .int 0]) (st_q := []) rfl rfl rfl ?_
          refine pm_R_lo pm_M190 (pc_q := 3) rfl rfl rfl ?_
          refine pm_R_op pm_M190 (pc_q := 4) (st_q := [.int 4, .int 0]) rfl rfl rfl ?_
          refine pm_R_br pm_M190 (pc_q := 7) (st_q := []) rfl rfl ?_
          refine pm_R_lo pm_M190 (pc_q := 8) rfl rfl rfl ?_
          refine rf_R_get pm_M190 T1755 (pc_q := 11) (v := .ref 52) rfl rfl rfl rfl ?_
          refine pm_R_lo pm_M190 (pc_q := 12) rfl rfl rfl ?_
          refine pm_R_op pm_M190 (pc_q := 13) (st_q := [.int (-1), .int 0, .ref 52]) rfl rfl rfl ?_
          obtain ⟨f1769, e1770, b1771⟩ := T1755.2.2.2.1 52 (by decide) (by decide)
          refine rf_R_ist pm_M190 T1755 (pc_q := 14) rfl e1770 (by decide) (by decide) rfl ⟨_, rfl, sf_upd b1771 (sf_weak sf_kn1 (by decide) (by decide)) _⟩ rfl (fun h1772 T1773 F1774 e1775 => ?_)
          have F1776 := F1760.trans F1774 (by decide)
          refine pm_R_lo pm_M190 (pc_q := 17) (ls_q := [.ref 41, .int 1]) (st_q := []) rfl rfl rfl ?_
          refine pm_R_br pm_M190 (pc_q := 2) rfl rfl ?_
          refine pm_R_lo pm_M190 (pc_q := 3) rfl rfl rfl ?_
          refine pm_R_op pm_M190 (pc_q := 4) (st_q := [.int 4, .int 1]) rfl rfl rfl ?_
          refine pm_R_br pm_M190 (pc_q := 7) (st_q := []) rfl rfl ?_
          refine pm_R_lo pm_M190 (pc_q := 8) rfl rfl rfl ?_
          refine rf_R_get pm_M190 T1773 (pc_q := 11) (v := .ref 52) rfl rfl rfl rfl ?_
          refine pm_R_lo pm_M190 (pc_q := 12) rfl rfl rfl ?_
          refine pm_R_op pm_M190 (pc_q := 13) (st_q := [.int (-1), .int 1, .ref 52]) rfl rfl rfl ?_
          refine rf_R_ist pm_M190 T1773 (pc_q := 14) rfl e1775 (by decide) (by decide) rfl ⟨_, rfl, sf_upd (sf_upd b1771 (sf_weak sf_kn1 (by decide) (by decide)) _) (sf_weak sf_kn1 (by decide) (by decide)) _⟩ rfl (fun h1777 T1778 F1779 e1780 => ?_)
          have F1781 := F1776.trans F1779 (by decide)
          refine pm_R_lo pm_M190 (pc_q := 17) (ls_q := [.ref 41, .int 2]) (st_q := []) rfl rfl rfl ?_
          refine pm_R_br pm_M190 (pc_q := 2) rfl rfl ?_
          refine pm_R_lo pm_M190 (pc_q := 3) rfl rfl rfl ?_
          refine pm_R_op pm_M190 (pc_q := 4) (st_q := [.int 4, .int 2]) rfl rfl rfl ?_
          refine pm_R_br pm_M190 (pc_q := 7) (st_q := []) rfl rfl ?_
          refine pm_R_lo pm_M190 (pc_q := 8) rfl rfl rfl ?_
          refine rf_R_get pm_M190 T1778 (pc_q := 11) (v := .ref 52) rfl rfl rfl rfl ?_
          refine pm_R_lo pm_M190 (pc_q := 12) rfl rfl rfl ?_
          refine pm_R_op pm_M190 (pc_q := 13) (st_q := [.int (-1), .int 2, .ref 52]) rfl rfl rfl ?_
          refine rf_R_ist pm_M190 T1778 (pc_q := 14) rfl e1780 (by decide) (by decide) rfl ⟨_, rfl, sf_upd (sf_upd (sf_upd b1771 (sf_weak sf_kn1 (by decide) (by decide)) _) (sf_weak sf_kn1 (by decide) (by decide)) _) (sf_weak sf_kn1 (by decide) (by decide)) _⟩ rfl (fun h1782 T1783 F1784 e1785 => ?_)
          have F1786 := F1781.trans F1784 (by decide)
          refine pm_R_lo pm_M190 (pc_q := 17) (ls_q := [.ref 41, .int 3]) (st_q := []) rfl rfl rfl ?_
          refine pm_R_br pm_M190 (pc_q := 2) rfl rfl ?_
          refine pm_R_lo pm_M190 (pc_q := 3) rfl rfl rfl ?_
          refine pm_R_op pm_M190 (pc_q := 4) (st_q := [.int 4, .int 3]) rfl rfl rfl ?_
          refine pm_R_br pm_M190 (pc_q := 7) (st_q := []) rfl rfl ?_
          refine pm_R_lo pm_M190 (pc_q := 8) rfl rfl rfl ?_
          refine rf_R_get pm_M190 T1783 (pc_q := 11) (v := .ref 52) rfl rfl rfl rfl ?_
          refine pm_R_lo pm_M190 (pc_q := 12) rfl rfl rfl ?_
          refine pm_R_op pm_M190 (pc_q := 13) (st_q := [.int (-1), .int 3, .ref 52]) rfl rfl rfl ?_
          refine rf_R_ist pm_M190 T1783 (pc_q := 14) rfl e1785 (by decide) (by decide) rfl ⟨_, rfl, sf_upd (sf_upd (sf_upd (sf_upd b1771 (sf_weak sf_kn1 (by decide) (by decide)) _) (sf_weak sf_kn1 (by decide) (by decide)) _) (sf_weak sf_kn1 (by decide) (by decide)) _) (sf_weak sf_kn1 (by decide) (by decide)) _⟩ rfl (fun h1787 T1788 F1789 e1790 => ?_)
          have F1791 := F1786.trans F1789 (by decide)
          refine pm_R_lo pm_M190 (pc_q := 17) (ls_q := [.ref 41, .int 4]) (st_q := []) rfl rfl rfl ?_
          refine pm_R_br pm_M190 (pc_q := 2) rfl rfl ?_
          refine pm_R_lo pm_M190 (pc_q := 3) rfl rfl rfl ?_
          refine pm_R_op pm_M190 (pc_q := 4) (st_q := [.int 4, .int 4]) rfl rfl rfl ?_
          refine pm_R_br pm_M190 (pc_q := 20) (st_q := []) rfl rfl ?_
          refine pm_R_ret pm_M190 (r := none) rfl rfl ?_
          show pm_R _ 192 111 [.ref 41, .long a0, pm_no, .int a1, .int 2] [] _ _
          refine pm_R_lo pm_M192 (pc_q := 112) rfl rfl rfl ?_
          refine rf_R_get pm_M192 T1788 (pc_q := 115) (v := .ref 52) rfl rfl rfl rfl ?_
          refine pm_R_op pm_M192 (pc_q := 116) (st_q := [.int 0, .ref 52]) (pm_q192_1 (Nat.le_of_ble_eq_true rfl)) rfl rfl ?_
          refine pm_R_lo pm_M192 (pc_q := 118) (pm_q192_1 (Nat.le_of_ble_eq_true rfl)) rfl rfl ?_
          refine rf_R_ist pm_M192 T1788 (pc_q := 119) (pm_q192_1 (Nat.le_of_ble_eq_true rfl)) e1790 (by decide) (by decide) rfl ⟨_, rfl, sf_upd (sf_upd (sf_upd (sf_upd (sf_upd b1771 (sf_weak sf_kn1 (by decide) (by decide)) _) (sf_weak sf_kn1 (by decide) (by decide)) _) (sf_weak sf_kn1 (by decide) (by decide)) _) (sf_weak sf_kn1 (by decide) (by decide)) _) (sf_weak sf_k2 (by decide) (by decide)) _⟩ rfl (fun h1792 T1793 F1794 e1795 => ?_)
          have F1796 := F1791.trans F1794 (by decide)
          refine pm_R_lo pm_M192 (pc_q := 120) (pm_q192_1 (Nat.le_of_ble_eq_true rfl)) rfl rfl ?_
          refine pm_R_op pm_M192 (pc_q := 121) (st_q := [.int 1, .ref 41]) (pm_q192_1 (Nat.le_of_ble_eq_true rfl)) rfl rfl ?_
          refine pm_R_op pm_M192 (pc_q := 123) (st_q := [.int 9, .int 1, .ref 41]) (pm_q192_1 (Nat.le_of_ble_eq_true rfl)) rfl rfl ?_
          refine pm_R_op pm_M192 (pc_q := 124) (st_q := [.int (-1), .int 9, .int 1, .ref 41]) (pm_q192_1 (Nat.le_of_ble_eq_true rfl)) rfl rfl ?_
          refine pm_R_cv pm_M192 (pc_q := 127) (a := 41) (ra := [.int (-1), .int 9, .int 1]) (rest := []) (ls_q := [.ref 41, .int 1, .int 9, .int (-1)]) (pm_q192_1 (Nat.le_of_ble_eq_true rfl)) rfl (Or.inl rfl) pm_M183 T1793.2.1 rfl (by decide) (Nat.lt_of_lt_of_le (by decide) T1793.1) rfl rfl (Nat.le_of_ble_eq_true rfl) rfl rfl ?_
          refine rf_c183_1_9 (d := d + 0) T1793  (fun m1799 w1800 h1801 T1802 F1803 W1804 X1805 => ?_) (fun m1808 w1809 h1810 T1811 F1812 W1813 X1814 X1815 X1816 X1817 X1818 => ?_) (fun m1821 w1822 h1823 T1824 F1825 W1826 X1827 X1828 X1829 B1830 B1831 => ?_)
          · have F1832 := F1796.trans F1803 (by decide)
            have W1833 : rf_W [10, 12, 13, 14, 16, 17, 18, 22] m m1799 := W1765.trans W1804 (by decide)
            have B1834 : sf_B 0 600 (m1799 10) := T1802.2.2.1 10
            have B1835 : sf_B 0 4 (m1799 13) := T1802.2.2.1 13
            have B1836 : sf_B 0 4 (m1799 17) := T1802.2.2.1 17
            have B1837 : sf_B 0 1 (m1799 22) := T1802.2.2.1 22
            show pm_R _ 192 127 [.ref 41, .long a0, pm_no, .int a1, .int 2] [.int 0] _ _
            have R1838 : (m 10).toInt ≤ (m1799 10).toInt := (sf_aux70 _ _ _ R1768 X1805)
            refine pm_R_br pm_M192 (pc_q := 130) (st_q := []) (pm_q192_1 (Nat.le_of_ble_eq_true rfl)) rfl ?_
            refine pm_R_op pm_M192 (pc_q := 131) (st_q := [.int 0]) (pm_q192_1 (Nat.le_of_ble_eq_true rfl)) rfl rfl ?_
            exact pm_R_ret pm_M192 (r := some (.int 0)) (pm_q192_1 (Nat.le_of_ble_eq_true rfl)) rfl (K0 m1799 w1800 h1801 T1802 F1832 W1833 (sf_aux51 _ _ R1838))
          · have F1839 := F1796.trans F1812 (by decide)
            have W1840 : rf_W [10, 12, 13, 14, 16, 17, 18, 22] m m1808 := W1765.trans W1813 (by decide)
            have B1841 : sf_B 0 600 (m1808 10) := T1811.2.2.1 10
            have B1842 : sf_B 0 4 (m1808 13) := T1811.2.2.1 13
            have B1843 : sf_B 0 4 (m1808 17) := T1811.2.2.1 17
            have B1844 : sf_B 0 1 (m1808 22) := T1811.2.2.1 22
            show pm_R _ 192 127 [.ref 41, .long a0, pm_no, .int a1, .int 2] [.int 1] _ _
            have R1845 : (m 10).toInt ≤ (m1808 10).toInt := (sf_aux70 _ _ _ R1768 X1818)
            obtain ⟨v1846, B1847, e1848⟩ := X1814 _ e1795
            refine pm_R_br pm_M192 (pc_q := 132) (st_q := []) (pm_q192_1 (Nat.le_of_ble_eq_true rfl)) rfl ?_
            refine pm_R_lo pm_M192 (pc_q := 134) (pm_q192_1 (Nat.le_of_ble_eq_true rfl)) rfl rfl ?_
            refine pm_R_op pm_M192 (pc_q := 135) (st_q := [.int 1, .int 2]) (pm_q192_1 (Nat.le_of_ble_eq_true rfl)) rfl rfl ?_
            refine pm_R_br pm_M192 (pc_q := 138) (st_q := []) (pm_q192_1 (Nat.le_of_ble_eq_true rfl)) rfl ?_
            refine pm_R_lo pm_M192 (pc_q := 140) (pm_q192_1 (Nat.le_of_ble_eq_true rfl)) rfl rfl ?_
            refine pm_R_op pm_M192 (pc_q := 141) (st_q := [.int 2, .int 2]) (pm_q192_1 (Nat.le_of_ble_eq_true rfl)) rfl rfl ?_
            refine pm_R_br pm_M192 (pc_q := 150) (st_q := []) (pm_q192_1 (Nat.le_of_ble_eq_true rfl)) rfl ?_
            refine pm_R_lo pm_M192 (pc_q := 151) (pm_q192_1 (Nat.le_of_ble_eq_true rfl)) rfl rfl ?_
            refine pm_R_op pm_M192 (pc_q := 152) (st_q := [.int 2, .ref 41]) (pm_q192_1 (Nat.le_of_ble_eq_true rfl)) rfl rfl ?_
            refine pm_R_op pm_M192 (pc_q := 154) (st_q := [.int 9, .int 2, .ref 41]) (pm_q192_1 (Nat.le_of_ble_eq_true rfl)) rfl rfl ?_
            refine pm_R_op pm_M192 (pc_q := 155) (st_q := [.int (-1), .int 9, .int 2, .ref 41]) (pm_q192_1 (Nat.le_of_ble_eq_true rfl)) rfl rfl ?_
            refine pm_R_cv pm_M192 (pc_q := 158) (a := 41) (ra := [.int (-1), .int 9, .int 2]) (rest := []) (ls_q := [.ref 41, .int 2, .int 9, .int (-1)]) (pm_q192_1 (Nat.le_of_ble_eq_true rfl)) rfl (Or.inl rfl) pm_M183 T1811.2.1 rfl (by decide) (Nat.lt_of_lt_of_le (by decide) T1811.1) rfl rfl (Nat.le_of_ble_eq_true rfl) rfl rfl ?_
            refine rf_c183_2_9 (d := d + 0) T1811  (fun m1851 w1852 h1853 T1854 F1855 W1856 X1857 => ?_) (fun m1860 w1861 h1862 T1863 F1864 W1865 X1866 X1867 X1868 X1869 X1870 => ?_) (fun m1873 w1874 h1875 T1876 F1877 W1878 X1879 X1880 X1881 B1882 B1883 => ?_)
            · have F1884 := F1839.trans F1855 (by decide)
              have W1885 : rf_W [10, 12, 13, 14, 16, 17, 18, 22] m m1851 := W1840.trans W1856 (by decide)
              have B1886 : sf_B 0 600 (m1851 10) := T1854.2.2.1 10
              have B1887 : sf_B 0 4 (m1851 13) := T1854.2.2.1 13
              have B1888 : sf_B 0 4 (m1851 17) := T1854.2.2.1 17
              have B1889 : sf_B 0 1 (m1851 22) := T1854.2.2.1 22
              show pm_R _ 192 158 [.ref 41, .long a0, pm_no, .int a1, .int 2] [.int 0] _ _
              have R1890 : (m 10).toInt ≤ (m1851 10).toInt := (sf_aux70 _ _ _ R1845 X1857)
              refine pm_R_br pm_M192 (pc_q := 161) (st_q := []) (pm_q192_1 (Nat.le_of_ble_eq_true rfl)) rfl ?_
              refine pm_R_op pm_M192 (pc_q := 162) (st_q := [.int 0]) (pm_q192_1 (Nat.le_of_ble_eq_true rfl)) rfl rfl ?_
              exact pm_R_ret pm_M192 (r := some (.int 0)) (pm_q192_1 (Nat.le_of_ble_eq_true rfl)) rfl (K0 m1851 w1852 h1853 T1854 F1884 W1885 (sf_aux51 _ _ R1890))
            · have F1891 := F1839.trans F1864 (by decide)
              have W1892 : rf_W [10, 12, 13, 14, 16, 17, 18, 22] m m1860 := W1840.trans W1865 (by decide)
              have B1893 : sf_B 0 600 (m1860 10) := T1863.2.2.1 10
              have B1894 : sf_B 0 4 (m1860 13) := T1863.2.2.1 13
              have B1895 : sf_B 0 4 (m1860 17) := T1863.2.2.1 17
              have B1896 : sf_B 0 1 (m1860 22) := T1863.2.2.1 22
              show pm_R _ 192 158 [.ref 41, .long a0, pm_no, .int a1, .int 2] [.int 1] _ _
              have R1897 : (m 10).toInt ≤ (m1860 10).toInt := (sf_aux70 _ _ _ R1845 X1870)
              obtain ⟨v1898, B1899, e1900⟩ := X1866 _ e1848
              refine pm_R_br pm_M192 (pc_q := 163) (st_q := []) (pm_q192_1 (Nat.le_of_ble_eq_true rfl)) rfl ?_
              refine pm_R_lo pm_M192 (pc_q := 164) (pm_q192_1 (Nat.le_of_ble_eq_true rfl)) rfl rfl ?_
              refine pm_R_op pm_M192 (pc_q := 165) (st_q := [.int 0, .ref 41]) (pm_q192_1 (Nat.le_of_ble_eq_true rfl)) rfl rfl ?_
              refine pm_R_op pm_M192 (pc_q := 166) (st_q := [.int 1, .int 0, .ref 41]) (pm_q192_1 (Nat.le_of_ble_eq_true rfl)) rfl rfl ?_
              refine pm_R_op pm_M192 (pc_q := 167) (st_q := [.int 3, .int 1, .int 0, .ref 41]) (pm_q192_1 (Nat.le_of_ble_eq_true rfl)) rfl rfl ?_
              refine pm_R_op pm_M192 (pc_q := 169) (st_q := [.int 8, .int 3, .int 1, .int 0, .ref 41]) (pm_q192_1 (Nat.le_of_ble_eq_true rfl)) rfl rfl ?_
              refine pm_R_op pm_M192 (pc_q := 170) (st_q := [.int 0, .int 8, .int 3, .int 1, .int 0, .ref 41]) (pm_q192_1 (Nat.le_of_ble_eq_true rfl)) rfl rfl ?_
              refine pm_R_cv pm_M192 (pc_q := 173) (a := 41) (ra := [.int 0, .int 8, .int 3, .int 1, .int 0]) (rest := []) (ls_q := [.ref 41, .int 0, .int 1, .int 3, .int 8, .int 0, pm_no, pm_no]) (pm_q192_1 (Nat.le_of_ble_eq_true rfl)) rfl (Or.inl rfl) pm_M185 T1863.2.1 rfl (by decide) (Nat.lt_of_lt_of_le (by decide) T1863.1) rfl rfl (Nat.le_of_ble_eq_true rfl) rfl rfl ?_
              have e1901 := (F1864.cell (by decide) (F1812.cell (by decide) (F1794.cell (by decide) (F1789.cell (by decide) (F1784.cell (by decide) (F1779.cell (by decide) (F1774.cell (by decide) (F1756.cell (by decide) (F1740.cell (by decide) e3)))))))))
              refine rf_c185_l (d := d + 2) T1863 (⟨f2, e1901, ct4, fun z => (sf_pos (sf_eqT X1867 (sf_eqT X1815 B1761)) (by decide) z)⟩) (fun z => sf_pos (sf_eqT X1867 (sf_eqT X1815 B1761)) (by decide) z) (fun m1904 w1905 h1906 T1907 F1908 W1909 X1910 => ?_)
              have F1911 := F1891.trans F1908 (by decide)
              have B1912 : sf_B 0 600 (m1904 10) := by rw [W1909 10 (by decide)]; exact B1893
              have ek1913 : (m1904 10).toInt = ((m1860 10)).toInt := by rw [W1909 10 (by decide)]
              have B1914 : sf_B 0 4 (m1904 13) := by rw [W1909 13 (by decide)]; exact B1894
              have ek1915 : (m1904 13).toInt = ((m1860 13)).toInt := by rw [W1909 13 (by decide)]
              have B1916 : sf_B 1 4 (m1904 17) := by rw [W1909 17 (by decide)]; exact (sf_eqT X1867 (sf_eqT X1815 B1761))
              have ek1917 : (m1904 17).toInt = ((m1808 17)).toInt := by rw [W1909 17 (by decide)]; exact X1867
              have B1918 : sf_B 0 1 (m1904 22) := by rw [W1909 22 (by decide)]; exact (sf_eqT X1868 (sf_eqT X1816 B1763))
              have ek1919 : (m1904 22).toInt = ((m1808 22)).toInt := by rw [W1909 22 (by decide)]; exact X1868
              have W1920 : rf_W [10, 12, 13, 14, 16, 17, 18, 22] m m1904 := W1892.trans W1909 (by decide)
              show pm_R _ 192 173 [.ref 41, .long a0, pm_no, .int a1, .int 2] [] _ _
              obtain ⟨f1921, e1922, ct1923, bd1924⟩ := X1910
              refine pm_R_op pm_M192 (pc_q := 174) (st_q := [.int 1]) (pm_q192_1 (Nat.le_of_ble_eq_true rfl)) rfl rfl ?_
              exact pm_R_ret pm_M192 (r := some (.int 1)) (pm_q192_1 (Nat.le_of_ble_eq_true rfl)) rfl (K1 m1904 w1905 h1906 T1907 F1911 W1920 (⟨f1921, e1922, ct1923, fun z => (sf_pos B1916 (by decide) z)⟩) (sf_aux39 _ _ _ ek1913 R1897))
            · have F1925 := F1839.trans F1877 (by decide)
              have W1926 : rf_W [10, 12, 13, 14, 16, 17, 18, 22] m m1873 := W1840.trans W1878 (by decide)
              have B1927 : sf_B 0 600 (m1873 10) := T1876.2.2.1 10
              have B1928 : sf_B 0 4 (m1873 13) := T1876.2.2.1 13
              have B1929 : sf_B 0 4 (m1873 17) := T1876.2.2.1 17
              have B1930 : sf_B 0 1 (m1873 22) := T1876.2.2.1 22
              show pm_R _ 192 158 [.ref 41, .long a0, pm_no, .int a1, .int 2] [.int 1] _ _
              have R1931 : (m 10).toInt ≤ (m1873 10).toInt := (sf_aux70 _ _ _ R1845 X1881)
              obtain ⟨v1932, B1933, e1934⟩ := X1879 _ e1848
              refine pm_R_br pm_M192 (pc_q := 163) (st_q := []) (pm_q192_1 (Nat.le_of_ble_eq_true rfl)) rfl ?_
              refine pm_R_lo pm_M192 (pc_q := 164) (pm_q192_1 (Nat.le_of_ble_eq_true rfl)) rfl rfl ?_
              refine pm_R_op pm_M192 (pc_q := 165) (st_q := [.int 0, .ref 41]) (pm_q192_1 (Nat.le_of_ble_eq_true rfl)) rfl rfl ?_
              refine pm_R_op pm_M192 (pc_q := 166) (st_q := [.int 1, .int 0, .ref 41]) (pm_q192_1 (Nat.le_of_ble_eq_true rfl)) rfl rfl ?_
              refine pm_R_op pm_M192 (pc_q := 167) (st_q := [.int 3, .int 1, .int 0, .ref 41]) (pm_q192_1 (Nat.le_of_ble_eq_true rfl)) rfl rfl ?_
              refine pm_R_op pm_M192 (pc_q := 169) (st_q := [.int 8, .int 3, .int 1, .int 0, .ref 41]) (pm_q192_1 (Nat.le_of_ble_eq_true rfl)) rfl rfl ?_
              refine pm_R_op pm_M192 (pc_q := 170) (st_q := [.int 0, .int 8, .int 3, .int 1, .int 0, .ref 41]) (pm_q192_1 (Nat.le_of_ble_eq_true rfl)) rfl rfl ?_
              refine pm_R_cv pm_M192 (pc_q := 173) (a := 41) (ra := [.int 0, .int 8, .int 3, .int 1, .int 0]) (rest := []) (ls_q := [.ref 41, .int 0, .int 1, .int 3, .int 8, .int 0, pm_no, pm_no]) (pm_q192_1 (Nat.le_of_ble_eq_true rfl)) rfl (Or.inl rfl) pm_M185 T1876.2.1 rfl (by decide) (Nat.lt_of_lt_of_le (by decide) T1876.1) rfl rfl (Nat.le_of_ble_eq_true rfl) rfl rfl ?_
              have e1935 := (F1877.cell (by decide) (F1812.cell (by decide) (F1794.cell (by decide) (F1789.cell (by decide) (F1784.cell (by decide) (F1779.cell (by decide) (F1774.cell (by decide) (F1756.cell (by decide) (F1740.cell (by decide) e3)))))))))
              refine rf_c185_l (d := d + 2) T1876 (⟨f2, e1935, ct4, fun z => (sf_pos B1882 (by decide) z)⟩) (fun z => sf_pos B1882 (by decide) z) (fun m1938 w1939 h1940 T1941 F1942 W1943 X1944 => ?_)
              have F1945 := F1925.trans F1942 (by decide)
              have B1946 : sf_B 0 600 (m1938 10) := by rw [W1943 10 (by decide)]; exact B1927
              have ek1947 : (m1938 10).toInt = ((m1873 10)).toInt := by rw [W1943 10 (by decide)]
              have B1948 : sf_B 0 4 (m1938 13) := by rw [W1943 13 (by decide)]; exact B1928
              have ek1949 : (m1938 13).toInt = ((m1873 13)).toInt := by rw [W1943 13 (by decide)]
              have B1950 : sf_B 1 4 (m1938 17) := by rw [W1943 17 (by decide)]; exact B1882
              have ek1951 : (m1938 17).toInt = ((m1873 17)).toInt := by rw [W1943 17 (by decide)]
              have B1952 : sf_B 0 0 (m1938 22) := by rw [W1943 22 (by decide)]; exact B1883
              have ek1953 : (m1938 22).toInt = ((m1873 22)).toInt := by rw [W1943 22 (by decide)]
              have W1954 : rf_W [10, 12, 13, 14, 16, 17, 18, 22] m m1938 := W1926.trans W1943 (by decide)
              show pm_R _ 192 173 [.ref 41, .long a0, pm_no, .int a1, .int 2] [] _ _
              obtain ⟨f1955, e1956, ct1957, bd1958⟩ := X1944
              refine pm_R_op pm_M192 (pc_q := 174) (st_q := [.int 1]) (pm_q192_1 (Nat.le_of_ble_eq_true rfl)) rfl rfl ?_
              exact pm_R_ret pm_M192 (r := some (.int 1)) (pm_q192_1 (Nat.le_of_ble_eq_true rfl)) rfl (K1 m1938 w1939 h1940 T1941 F1945 W1954 (⟨f1955, e1956, ct1957, fun z => (sf_pos B1950 (by decide) z)⟩) (sf_aux39 _ _ _ ek1947 R1931))
          · have F1959 := F1796.trans F1825 (by decide)
            have W1960 : rf_W [10, 12, 13, 14, 16, 17, 18, 22] m m1821 := W1765.trans W1826 (by decide)
            have B1961 : sf_B 0 600 (m1821 10) := T1824.2.2.1 10
            have B1962 : sf_B 0 4 (m1821 13) := T1824.2.2.1 13
            have B1963 : sf_B 0 4 (m1821 17) := T1824.2.2.1 17
            have B1964 : sf_B 0 1 (m1821 22) := T1824.2.2.1 22
            show pm_R _ 192 127 [.ref 41, .long a0, pm_no, .int a1, .int 2] [.int 1] _ _
            have R1965 : (m 10).toInt ≤ (m1821 10).toInt := (sf_aux70 _ _ _ R1768 X1829)
            obtain ⟨v1966, B1967, e1968⟩ := X1827 _ e1795
            refine pm_R_br pm_M192 (pc_q := 132) (st_q := []) (pm_q192_1 (Nat.le_of_ble_eq_true rfl)) rfl ?_
            refine pm_R_lo pm_M192 (pc_q := 134) (pm_q192_1 (Nat.le_of_ble_eq_true rfl)) rfl rfl ?_
            refine pm_R_op pm_M192 (pc_q := 135) (st_q := [.int 1, .int 2]) (pm_q192_1 (Nat.le_of_ble_eq_true rfl)) rfl rfl ?_
            refine pm_R_br pm_M192 (pc_q := 138) (st_q := []) (pm_q192_1 (Nat.le_of_ble_eq_true rfl)) rfl ?_
            refine pm_R_lo pm_M192 (pc_q := 140) (pm_q192_1 (Nat.le_of_ble_eq_true rfl)) rfl rfl ?_
            refine pm_R_op pm_M192 (pc_q := 141) (st_q := [.int 2, .int 2]) (pm_q192_1 (Nat.le_of_ble_eq_true rfl)) rfl rfl ?_
            refine pm_R_br pm_M192 (pc_q := 150) (st_q := []) (pm_q192_1 (Nat.le_of_ble_eq_true rfl)) rfl ?_
            refine pm_R_lo pm_M192 (pc_q := 151) (pm_q192_1 (Nat.le_of_ble_eq_true rfl)) rfl rfl ?_
            refine pm_R_op pm_M192 (pc_q := 152) (st_q := [.int 2, .ref 41]) (pm_q192_1 (Nat.le_of_ble_eq_true rfl)) rfl rfl ?_
            refine pm_R_op pm_M192 (pc_q := 154) (st_q := [.int 9, .int 2, .ref 41]) (pm_q192_1 (Nat.le_of_ble_eq_true rfl)) rfl rfl ?_
            refine pm_R_op pm_M192 (pc_q := 155) (st_q := [.int (-1), .int 9, .int 2, .ref 41]) (pm_q192_1 (Nat.le_of_ble_eq_true rfl)) rfl rfl ?_
            refine pm_R_cv pm_M192 (pc_q := 158) (a := 41) (ra := [.int (-1), .int 9, .int 2]) (rest := []) (ls_q := [.ref 41, .int 2, .int 9, .int (-1)]) (pm_q192_1 (Nat.le_of_ble_eq_true rfl)) rfl (Or.inl rfl) pm_M183 T1824.2.1 rfl (by decide) (Nat.lt_of_lt_of_le (by decide) T1824.1) rfl rfl (Nat.le_of_ble_eq_true rfl) rfl rfl ?_
            refine rf_c183_2_9 (d := d + 0) T1824  (fun m1971 w1972 h1973 T1974 F1975 W1976 X1977 => ?_) (fun m1980 w1981 h1982 T1983 F1984 W1985 X1986 X1987 X1988 X1989 X1990 => ?_) (fun m1993 w1994 h1995 T1996 F1997 W1998 X1999 X2000 X2001 B2002 B2003 => ?_)
            · have F2004 := F1959.trans F1975 (by decide)
              have W2005 : rf_W [10, 12, 13, 14, 16, 17, 18, 22] m m1971 := W1960.trans W1976 (by decide)
              have B2006 : sf_B 0 600 (m1971 10) := T1974.2.2.1 10
              have B2007 : sf_B 0 4 (m1971 13) := T1974.2.2.1 13
              have B2008 : sf_B 0 4 (m1971 17) := T1974.2.2.1 17
              have B2009 : sf_B 0 1 (m1971 22) := T1974.2.2.1 22
              show pm_R _ 192 158 [.ref 41, .long a0, pm_no, .int a1, .int 2] [.int 0] _ _
              have R2010 : (m 10).toInt ≤ (m1971 10).toInt := (sf_aux70 _ _ _ R1965 X1977)
              refine pm_R_br pm_M192 (pc_q := 161) (st_q := []) (pm_q192_1 (Nat.le_of_ble_eq_true rfl)) rfl ?_
              refine pm_R_op pm_M192 (pc_q := 162) (st_q := [.int 0]) (pm_q192_1 (Nat.le_of_ble_eq_true rfl)) rfl rfl ?_
              exact pm_R_ret pm_M192 (r := some (.int 0)) (pm_q192_1 (Nat.le_of_ble_eq_true rfl)) rfl (K0 m1971 w1972 h1973 T1974 F2004 W2005 (sf_aux51 _ _ R2010))
            · have F2011 := F1959.trans F1984 (by decide)
              have W2012 : rf_W [10, 12, 13, 14, 16, 17, 18, 22] m m1980 := W1960.trans W1985 (by decide)
              have B2013 : sf_B 0 600 (m1980 10) := T1983.2.2.1 10
              have B2014 : sf_B 0 4 (m1980 13) := T1983.2.2.1 13
              have B2015 : sf_B 0 4 (m1980 17) := T1983.2.2.1 17
              have B2016 : sf_B 0 1 (m1980 22) := T1983.2.2.1 22
              show pm_R _ 192 158 [.ref 41, .long a0, pm_no, .int a1, .int 2] [.int 1] _ _
              have R2017 : (m 10).toInt ≤ (m1980 10).toInt := (sf_aux70 _ _ _ R1965 X1990)
              obtain ⟨v2018, B2019, e2020⟩ := X1986 _ e1968
              refine pm_R_br pm_M192 (pc_q := 163) (st_q := []) (pm_q192_1 (Nat.le_of_ble_eq_true rfl)) rfl ?_
              refine pm_R_lo pm_M192 (pc_q := 164) (pm_q192_1 (Nat.le_of_ble_eq_true rfl)) rfl rfl ?_
              refine pm_R_op pm_M192 (pc_q := 165) (st_q := [.int 0, .ref 41]) (pm_q192_1 (Nat.le_of_ble_eq_true rfl)) rfl rfl ?_
              refine pm_R_op pm_M192 (pc_q := 166) (st_q := [.int 1, .int 0, .ref 41]) (pm_q192_1 (Nat.le_of_ble_eq_true rfl)) rfl rfl ?_
              refine pm_R_op pm_M192 (pc_q := 167) (st_q := [.int 3, .int 1, .int 0, .ref 41]) (pm_q192_1 (Nat.le_of_ble_eq_true rfl)) rfl rfl ?_
              refine pm_R_op pm_M192 (pc_q := 169) (st_q := [.int 8, .int 3, .int 1, .int 0, .ref 41]) (pm_q192_1 (Nat.le_of_ble_eq_true rfl)) rfl rfl ?_
              refine pm_R_op pm_M192 (pc_q := 170) (st_q := [.int 0, .int 8, .int 3, .int 1, .int 0, .ref 41]) (pm_q192_1 (Nat.le_of_ble_eq_true rfl)) rfl rfl ?_
              refine pm_R_cv pm_M192 (pc_q := 173) (a := 41) (ra := [.int 0, .int 8, .int 3, .int 1, .int 0]) (rest := []) (ls_q := [.ref 41, .int 0, .int 1, .int 3, .int 8, .int 0, pm_no, pm_no]) (pm_q192_1 (Nat.le_of_ble_eq_true rfl)) rfl (Or.inl rfl) pm_M185 T1983.2.1 rfl (by decide) (Nat.lt_of_lt_of_le (by decide) T1983.1) rfl rfl (Nat.le_of_ble_eq_true rfl) rfl rfl ?_
              have e2021 := (F1984.cell (by decide) (F1825.cell (by decide) (F1794.cell (by decide) (F1789.cell (by decide) (F1784.cell (by decide) (F1779.cell (by decide) (F1774.cell (by decide) (F1756.cell (by decide) (F1740.cell (by decide) e3)))))))))
              refine rf_c185_l (d := d + 2) T1983 (⟨f2, e2021, ct4, fun z => (sf_pos (sf_eqT X1987 B1830) (by decide) z)⟩) (fun z => sf_pos (sf_eqT X1987 B1830) (by decide) z) (fun m2024 w2025 h2026 T2027 F2028 W2029 X2030 => ?_)
              have F2031 := F2011.trans F2028 (by decide)
              have B2032 : sf_B 0 600 (m2024 10) := by rw [W2029 10 (by decide)]; exact B2013
              have ek2033 : (m2024 10).toInt = ((m1980 10)).toInt := by rw [W2029 10 (by decide)]
              have B2034 : sf_B 0 4 (m2024 13) := by rw [W2029 13 (by decide)]; exact B2014
              have ek2035 : (m2024 13).toInt = ((m1980 13)).toInt := by rw [W2029 13 (by decide)]
              have B2036 : sf_B 1 4 (m2024 17) := by rw [W2029 17 (by decide)]; exact (sf_eqT X1987 B1830)
              have ek2037 : (m2024 17).toInt = ((m1821 17)).toInt := by rw [W2029 17 (by decide)]; exact X1987
              have B2038 : sf_B 0 0 (m2024 22) := by rw [W2029 22 (by decide)]; exact (sf_eqT X1988 B1831)
              have ek2039 : (m2024 22).toInt = ((m1821 22)).toInt := by rw [W2029 22 (by decide)]; exact X1988
              have W2040 : rf_W [10, 12, 13, 14, 16, 17, 18, 22] m m2024 := W2012.trans W2029 (by decide)
              show pm_R _ 192 173 [.ref 41, .long a0, pm_no, .int a1, .int 2] [] _ _
              obtain ⟨f2041, e2042, ct2043, bd2044⟩ := X2030
              refine pm_R_op pm_M192 (pc_q := 174) (st_q := [.int 1]) (pm_q192_1 (Nat.le_of_ble_eq_true rfl)) rfl rfl ?_
              exact pm_R_ret pm_M192 (r := some (.int 1)) (pm_q192_1 (Nat.le_of_ble_eq_true rfl)) rfl (K1 m2024 w2025 h2026 T2027 F2031 W2040 (⟨f2041, e2042, ct2043, fun z => (sf_pos B2036 (by decide) z)⟩) (sf_aux39 _ _ _ ek2033 R2017))
            · have F2045 := F1959.trans F1997 (by decide)
              have W2046 : rf_W [10, 12, 13, 14, 16, 17, 18, 22] m m1993 := W1960.trans W1998 (by decide)
              have B2047 : sf_B 0 600 (m1993 10) := T1996.2.2.1 10
              have B2048 : sf_B 0 4 (m1993 13) := T1996.2.2.1 13
              have B2049 : sf_B 0 4 (m1993 17) := T1996.2.2.1 17
              have B2050 : sf_B 0 1 (m1993 22) := T1996.2.2.1 22
              show pm_R _ 192 158 [.ref 41, .long a0, pm_no, .int a1, .int 2] [.int 1] _ _
              have R2051 : (m 10).toInt ≤ (m1993 10).toInt := (sf_aux70 _ _ _ R1965 X2001)
              obtain ⟨v2052, B2053, e2054⟩ := X1999 _ e1968
              refine pm_R_br pm_M192 (pc_q := 163) (st_q := []) (pm_q192_1 (Nat.le_of_ble_eq_true rfl)) rfl ?_
              refine pm_R_lo pm_M192 (pc_q := 164) (pm_q192_1 (Nat.le_of_ble_eq_true rfl)) rfl rfl ?_
              refine pm_R_op pm_M192 (pc_q := 165) (st_q := [.int 0, .ref 41]) (pm_q192_1 (Nat.le_of_ble_eq_true rfl)) rfl rfl ?_
              refine pm_R_op pm_M192 (pc_q := 166) (st_q := [.int 1, .int 0, .ref 41]) (pm_q192_1 (Nat.le_of_ble_eq_true rfl)) rfl rfl ?_
              refine pm_R_op pm_M192 (pc_q := 167) (st_q := [.int 3, .int 1, .int 0, .ref 41]) (pm_q192_1 (Nat.le_of_ble_eq_true rfl)) rfl rfl ?_
              refine pm_R_op pm_M192 (pc_q := 169) (st_q := [.int 8, .int 3, .int 1, .int 0, .ref 41]) (pm_q192_1 (Nat.le_of_ble_eq_true rfl)) rfl rfl ?_
              refine pm_R_op pm_M192 (pc_q := 170) (st_q := [.int 0, .int 8, .int 3, .int 1, .int 0, .ref 41]) (pm_q192_1 (Nat.le_of_ble_eq_true rfl)) rfl rfl ?_
              refine pm_R_cv pm_M192 (pc_q := 173) (a := 41) (ra := [.int 0, .int 8, .int 3, .int 1, .int 0]) (rest := []) (ls_q := [.ref 41, .int 0, .int 1, .int 3, .int 8, .int 0, pm_no, pm_no]) (pm_q192_1 (Nat.le_of_ble_eq_true rfl)) rfl (Or.inl rfl) pm_M185 T1996.2.1 rfl (by decide) (Nat.lt_of_lt_of_le (by decide) T1996.1) rfl rfl (Nat.le_of_ble_eq_true rfl) rfl rfl ?_
              have e2055 := (F1997.cell (by decide) (F1825.cell (by decide) (F1794.cell (by decide) (F1789.cell (by decide) (F1784.cell (by decide) (F1779.cell (by decide) (F1774.cell (by decide) (F1756.cell (by decide) (F1740.cell (by decide) e3)))))))))
              refine rf_c185_l (d := d + 2) T1996 (⟨f2, e2055, ct4, fun z => (sf_pos B2002 (by decide) z)⟩) (fun z => sf_pos B2002 (by decide) z) (fun m2058 w2059 h2060 T2061 F2062 W2063 X2064 => ?_)
              have F2065 := F2045.trans F2062 (by decide)
              have B2066 : sf_B 0 600 (m2058 10) := by rw [W2063 10 (by decide)]; exact B2047
              have ek2067 : (m2058 10).toInt = ((m1993 10)).toInt := by rw [W2063 10 (by decide)]
              have B2068 : sf_B 0 4 (m2058 13) := by rw [W2063 13 (by decide)]; exact B2048
              have ek2069 : (m2058 13).toInt = ((m1993 13)).toInt := by rw [W2063 13 (by decide)]
              have B2070 : sf_B 1 4 (m2058 17) := by rw [W2063 17 (by decide)]; exact B2002
              have ek2071 : (m2058 17).toInt = ((m1993 17)).toInt := by rw [W2063 17 (by decide)]
              have B2072 : sf_B 0 0 (m2058 22) := by rw [W2063 22 (by decide)]; exact B2003
              have ek2073 : (m2058 22).toInt = ((m1993 22)).toInt := by rw [W2063 22 (by decide)]
              have W2074 : rf_W [10, 12, 13, 14, 16, 17, 18, 22] m m2058 := W2046.trans W2063 (by decide)
              show pm_R _ 192 173 [.ref 41, .long a0, pm_no, .int a1, .int 2] [] _ _
              obtain ⟨f2075, e2076, ct2077, bd2078⟩ := X2064
              refine pm_R_op pm_M192 (pc_q := 174) (st_q := [.int 1]) (pm_q192_1 (Nat.le_of_ble_eq_true rfl)) rfl rfl ?_
              exact pm_R_ret pm_M192 (r := some (.int 1)) (pm_q192_1 (Nat.le_of_ble_eq_true rfl)) rfl (K1 m2058 w2059 h2060 T2061 F2065 W2074 (⟨f2075, e2076, ct2077, fun z => (sf_pos B2070 (by decide) z)⟩) (sf_aux39 _ _ _ ek2067 R2051))
    · have B2079 : sf_B 0 0 z11 := sf_eqL (Classical.not_not.mp c13) sf_k0
      have B2080 : lf_B 1836020596 1836020596 a0 := lf_eqB e12 B2079 (⟨by decide, by decide⟩ : lf_B 1836020596 1836020596 1836020596)
      refine pm_R_op pm_M192 (pc_q := 21) (st_q := [.int 1]) rfl rfl rfl ?_
      refine pm_R_br pm_M192 (pc_q := 73) rfl rfl ?_
      refine pm_R_lo pm_M192 (pc_q := 75) (ls_q := [.ref 41, .long a0, pm_no, .int a1, .int 1]) (st_q := []) rfl rfl rfl ?_
      refine pm_R_lo pm_M192 (pc_q := 77) rfl rfl rfl ?_
      refine pm_R_op pm_M192 (pc_q := 78) (st_q := [.int (-1), .int 1]) rfl rfl rfl ?_
      refine pm_R_br pm_M192 (pc_q := 86) (st_q := []) rfl rfl ?_
      refine pm_R_lo pm_M192 (pc_q := 87) rfl rfl rfl ?_
      refine rf_R_get pm_M192 T (pc_q := 90) (v := .ref 51) rfl rfl rfl rfl ?_
      refine pm_R_op pm_M192 (pc_q := 91) (st_q := [.int 0, .ref 51]) rfl rfl rfl ?_
      refine pm_R_iald pm_M192 (pc_q := 92) (v := (f2 0)) rfl e3 (Nat.lt_of_lt_of_le (by decide) T.1) rfl rfl rfl ?_
      refine pm_R_op pm_M192 (pc_q := 94) (st_q := [.int 8, .int (f2 0)]) rfl rfl rfl ?_
      refine pm_R_icmp pm_M192 (t := 103) (pc_q := 97) rfl rfl rfl (fun c2083 => ?_) (fun c2083 => ?_)
      · have B2084 : sf_B 0 7 (f2 0) := sf_neH0 c2083 sf_k8 ct4
        refine pm_R_lo pm_M192 (pc_q := 104) rfl rfl rfl ?_
        refine pm_R_cv pm_M192 (pc_q := 107) (a := 41) (ra := []) (rest := []) (ls_q := [.ref 41, pm_no, pm_no]) rfl rfl (Or.inl rfl) pm_M179 T.2.1 rfl (by decide) (Nat.lt_of_lt_of_le (by decide) T.1) rfl rfl (Nat.le_of_ble_eq_true rfl) rfl rfl ?_
        refine rf_c179 (d := d + 1) T  (fun m2087 w2088 h2089 T2090 F2091 W2092 X2093 X2094 => ?_)
        have F2095 := (rf_G.refl [41, 51, 52] h).trans F2091 (by decide)
        have B2096 : sf_B 0 4 (m2087 17) := by rw [W2092 17 (by decide)]; exact B6
        have ek2097 : (m2087 17).toInt = ((m 17)).toInt := by rw [W2092 17 (by decide)]
        have W2098 : rf_W [10, 12, 13, 14, 16, 17, 18, 22] m m2087 := (rf_W.refl [10, 12, 13, 14, 16, 17, 18, 22] m).trans W2092 (by decide)
        have B2099 : sf_B 0 600 (m2087 10) := T2090.2.2.1 10
        have B2100 : sf_B 0 4 (m2087 13) := T2090.2.2.1 13
        have B2101 : sf_B 0 1 (m2087 22) := T2090.2.2.1 22
        show pm_R _ 192 107 [.ref 41, .long a0, pm_no, .int a1, .int 1] [] _ _
        have R2102 : (m 10).toInt ≤ (m2087 10).toInt := (sf_aux51 _ _ X2093)
        refine pm_R_lo pm_M192 (pc_q := 108) rfl rfl rfl ?_
        refine pm_R_cv pm_M192 (pc_q := 111) (a := 41) (ra := []) (rest := []) (ls_q := [.ref 41, pm_no]) rfl rfl (Or.inl rfl) pm_M190 T2090.2.1 rfl (by decide) (Nat.lt_of_lt_of_le (by decide) T2090.1) rfl rfl (Nat.le_of_ble_eq_true rfl) rfl rfl ?_
        refine pm_R_op pm_M190 (pc_q := 1) (st_q := [.int 0]) rfl rfl rfl ?_
        refine pm_R_lo pm_M190 (pc_q := 2) (ls_q := [.ref 41, .int 0]) (st_q := []) rfl rfl rfl ?_
        refine pm_R_lo pm_M190 (pc_q := 3) rfl rfl rfl ?_
        refine pm_R_op pm_M190 (pc_q := 4) (st_q := [.int 4, .int 0]) rfl rfl rfl ?_
        refine pm_R_br pm_M190 (pc_q := 7) (st_q := []) rfl rfl ?_
        refine pm_R_lo pm_M190 (pc_q := 8) rfl rfl rfl ?_
        refine rf_R_get pm_M190 T2090 (pc_q := 11) (v := .ref 52) rfl rfl rfl rfl ?_
        refine pm_R_lo pm_M190 (pc_q := 12) rfl rfl rfl ?_
        refine pm_R_op pm_M190 (pc_q := 13) (st_q := [.int (-1), .int 0, .ref 52]) rfl rfl rfl ?_
        obtain ⟨f2103, e2104, b2105⟩ := T2090.2.2.2.1 52 (by decide) (by decide)
        refine rf_R_ist pm_M190 T2090 (pc_q := 14) rfl e2104 (by decide) (by decide) rfl ⟨_, rfl, sf_upd b2105 (sf_weak sf_kn1 (by decide) (by decide)) _⟩ rfl (fun h2106 T2107 F2108 e2109 => ?_)
        have F2110 := F2095.trans F2108 (by decide)
        refine pm_R_lo pm_M190 (pc_q := 17) (ls_q := [.ref 41, .int 1]) (st_q := []) rfl rfl rfl ?_
        refine pm_R_br pm_M190 (pc_q := 2) rfl rfl ?_
        refine pm_R_lo pm_M190 (pc_q := 3) rfl rfl rfl ?_
        refine pm_R_op pm_M190 (pc_q := 4) (st_q := [.int 4, .int 1]) rfl rfl rfl ?_
        refine pm_R_br pm_M190 (pc_q := 7) (st_q := []) rfl rfl ?_
        refine pm_R_lo pm_M190 (pc_q := 8) rfl rfl rfl ?_
        refine rf_R_get pm_M190 T2107 (pc_q := 11) (v := .ref 52) rfl rfl rfl rfl ?_
        refine pm_R_lo pm_M190 (pc_q := 12) rfl rfl rfl ?_
        refine pm_R_op pm_M190 (pc_q := 13) (st_q := [.int (-1), .int 1, .ref 52]) rfl rfl rfl ?_
        refine rf_R_ist pm_M190 T2107 (pc_q := 14) rfl e2109 (by decide) (by decide) rfl ⟨_, rfl, sf_upd (sf_upd b2105 (sf_weak sf_kn1 (by decide) (by decide)) _) (sf_weak sf_kn1 (by decide) (by decide)) _⟩ rfl (fun h2111 T2112 F2113 e2114 => ?_)
        have F2115 := F2110.trans F2113 (by decide)
        refine pm_R_lo pm_M190 (pc_q := 17) (ls_q := [.ref 41, .int 2]) (st_q := []) rfl rfl rfl ?_
        refine pm_R_br pm_M190 (pc_q := 2) rfl rfl ?_
        refine pm_R_lo pm_M190 (pc_q := 3) rfl rfl rfl ?_
        refine pm_R_op pm_M190 (pc_q := 4) (st_q := [.int 4, .int 2]) rfl rfl rfl ?_
        refine pm_R_br pm_M190 (pc_q := 7) (st_q := []) rfl rfl ?_
        refine pm_R_lo pm_M190 (pc_q := 8) rfl rfl rfl ?_
        refine rf_R_get pm_M190 T2112 (pc_q := 11) (v := .ref 52) rfl rfl rfl rfl ?_
        refine pm_R_lo pm_M190 (pc_q := 12) rfl rfl rfl ?_
        refine pm_R_op pm_M190 (pc_q := 13) (st_q := [.int (-1), .int 2, .ref 52]) rfl rfl rfl ?_
        refine rf_R_ist pm_M190 T2112 (pc_q := 14) rfl e2114 (by decide) (by decide) rfl ⟨_, rfl, sf_upd (sf_upd (sf_upd b2105 (sf_weak sf_kn1 (by decide) (by decide)) _) (sf_weak sf_kn1 (by decide) (by decide)) _) (sf_weak sf_kn1 (by decide) (by decide)) _⟩ rfl (fun h2116 T2117 F2118 e2119 => ?_)
        have F2120 := F2115.trans F2118 (by decide)
        refine pm_R_lo pm_M190 (pc_q := 17) (ls_q := [.ref 41, .int 3]) (st_q := []) rfl rfl rfl ?_
        refine pm_R_br pm_M190 (pc_q := 2) rfl rfl ?_
        refine pm_R_lo pm_M190 (pc_q := 3) rfl rfl rfl ?_
        refine pm_R_op pm_M190 (pc_q := 4) (st_q := [.int 4, .int 3]) rfl rfl rfl ?_
        refine pm_R_br pm_M190 (pc_q := 7) (st_q := []) rfl rfl ?_
        refine pm_R_lo pm_M190 (pc_q := 8) rfl rfl rfl ?_
        refine rf_R_get pm_M190 T2117 (pc_q := 11) (v := .ref 52) rfl rfl rfl rfl ?_
        refine pm_R_lo pm_M190 (pc_q := 12) rfl rfl rfl ?_
        refine pm_R_op pm_M190 (pc_q := 13) (st_q := [.int (-1), .int 3, .ref 52]) rfl rfl rfl ?_
        refine rf_R_ist pm_M190 T2117 (pc_q := 14) rfl e2119 (by decide) (by decide) rfl ⟨_, rfl, sf_upd (sf_upd (sf_upd (sf_upd b2105 (sf_weak sf_kn1 (by decide) (by decide)) _) (sf_weak sf_kn1 (by decide) (by decide)) _) (sf_weak sf_kn1 (by decide) (by decide)) _) (sf_weak sf_kn1 (by decide) (by decide)) _⟩ rfl (fun h2121 T2122 F2123 e2124 => ?_)
        have F2125 := F2120.trans F2123 (by decide)
        refine pm_R_lo pm_M190 (pc_q := 17) (ls_q := [.ref 41, .int 4]) (st_q := []) rfl rfl rfl ?_
        refine pm_R_br pm_M190 (pc_q := 2) rfl rfl ?_
        refine pm_R_lo pm_M190 (pc_q := 3) rfl rfl rfl ?_
        refine pm_R_op pm_M190 (pc_q := 4) (st_q := [.int 4, .int 4]) rfl rfl rfl ?_
        refine pm_R_br pm_M190 (pc_q := 20) (st_q := []) rfl rfl ?_
        refine pm_R_ret pm_M190 (r := none) rfl rfl ?_
        show pm_R _ 192 111 [.ref 41, .long a0, pm_no, .int a1, .int 1] [] _ _
        refine pm_R_lo pm_M192 (pc_q := 112) rfl rfl rfl ?_
        refine rf_R_get pm_M192 T2122 (pc_q := 115) (v := .ref 52) rfl rfl rfl rfl ?_
        refine pm_R_op pm_M192 (pc_q := 116) (st_q := [.int 0, .ref 52]) (pm_q192_1 (Nat.le_of_ble_eq_true rfl)) rfl rfl ?_
        refine pm_R_lo pm_M192 (pc_q := 118) (pm_q192_1 (Nat.le_of_ble_eq_true rfl)) rfl rfl ?_
        refine rf_R_ist pm_M192 T2122 (pc_q := 119) (pm_q192_1 (Nat.le_of_ble_eq_true rfl)) e2124 (by decide) (by decide) rfl ⟨_, rfl, sf_upd (sf_upd (sf_upd (sf_upd (sf_upd b2105 (sf_weak sf_kn1 (by decide) (by decide)) _) (sf_weak sf_kn1 (by decide) (by decide)) _) (sf_weak sf_kn1 (by decide) (by decide)) _) (sf_weak sf_kn1 (by decide) (by decide)) _) (sf_weak sf_k1 (by decide) (by decide)) _⟩ rfl (fun h2126 T2127 F2128 e2129 => ?_)
        have F2130 := F2125.trans F2128 (by decide)
        refine pm_R_lo pm_M192 (pc_q := 120) (pm_q192_1 (Nat.le_of_ble_eq_true rfl)) rfl rfl ?_
        refine pm_R_op pm_M192 (pc_q := 121) (st_q := [.int 1, .ref 41]) (pm_q192_1 (Nat.le_of_ble_eq_true rfl)) rfl rfl ?_
        refine pm_R_op pm_M192 (pc_q := 123) (st_q := [.int 9, .int 1, .ref 41]) (pm_q192_1 (Nat.le_of_ble_eq_true rfl)) rfl rfl ?_
        refine pm_R_op pm_M192 (pc_q := 124) (st_q := [.int (-1), .int 9, .int 1, .ref 41]) (pm_q192_1 (Nat.le_of_ble_eq_true rfl)) rfl rfl ?_
        refine pm_R_cv pm_M192 (pc_q := 127) (a := 41) (ra := [.int (-1), .int 9, .int 1]) (rest := []) (ls_q := [.ref 41, .int 1, .int 9, .int (-1)]) (pm_q192_1 (Nat.le_of_ble_eq_true rfl)) rfl (Or.inl rfl) pm_M183 T2127.2.1 rfl (by decide) (Nat.lt_of_lt_of_le (by decide) T2127.1) rfl rfl (Nat.le_of_ble_eq_true rfl) rfl rfl ?_
        refine rf_c183_1_9 (d := d + 0) T2127  (fun m2133 w2134 h2135 T2136 F2137 W2138 X2139 => ?_) (fun m2142 w2143 h2144 T2145 F2146 W2147 X2148 X2149 X2150 X2151 X2152 => ?_) (fun m2155 w2156 h2157 T2158 F2159 W2160 X2161 X2162 X2163 B2164 B2165 => ?_)
        · have F2166 := F2130.trans F2137 (by decide)
          have W2167 : rf_W [10, 12, 13, 14, 16, 17, 18, 22] m m2133 := W2098.trans W2138 (by decide)
          have B2168 : sf_B 0 600 (m2133 10) := T2136.2.2.1 10
          have B2169 : sf_B 0 4 (m2133 13) := T2136.2.2.1 13
          have B2170 : sf_B 0 4 (m2133 17) := T2136.2.2.1 17
          have B2171 : sf_B 0 1 (m2133 22) := T2136.2.2.1 22
          show pm_R _ 192 127 [.ref 41, .long a0, pm_no, .int a1, .int 1] [.int 0] _ _
          have R2172 : (m 10).toInt ≤ (m2133 10).toInt := (sf_aux70 _ _ _ R2102 X2139)
          refine pm_R_br pm_M192 (pc_q := 130) (st_q := []) (pm_q192_1 (Nat.le_of_ble_eq_true rfl)) rfl ?_
          refine pm_R_op pm_M192 (pc_q := 131) (st_q := [.int 0]) (pm_q192_1 (Nat.le_of_ble_eq_true rfl)) rfl rfl ?_
          exact pm_R_ret pm_M192 (r := some (.int 0)) (pm_q192_1 (Nat.le_of_ble_eq_true rfl)) rfl (K0 m2133 w2134 h2135 T2136 F2166 W2167 (sf_aux51 _ _ R2172))
        · have F2173 := F2130.trans F2146 (by decide)
          have W2174 : rf_W [10, 12, 13, 14, 16, 17, 18, 22] m m2142 := W2098.trans W2147 (by decide)
          have B2175 : sf_B 0 600 (m2142 10) := T2145.2.2.1 10
          have B2176 : sf_B 0 4 (m2142 13) := T2145.2.2.1 13
          have B2177 : sf_B 0 4 (m2142 17) := T2145.2.2.1 17
          have B2178 : sf_B 0 1 (m2142 22) := T2145.2.2.1 22
          show pm_R _ 192 127 [.ref 41, .long a0, pm_no, .int a1, .int 1] [.int 1] _ _
          have R2179 : (m 10).toInt ≤ (m2142 10).toInt := (sf_aux70 _ _ _ R2102 X2152)
          obtain ⟨v2180, B2181, e2182⟩ := X2148 _ e2129
          refine pm_R_br pm_M192 (pc_q := 132) (st_q := []) (pm_q192_1 (Nat.le_of_ble_eq_true rfl)) rfl ?_
          refine pm_R_lo pm_M192 (pc_q := 134) (pm_q192_1 (Nat.le_of_ble_eq_true rfl)) rfl rfl ?_
          refine pm_R_op pm_M192 (pc_q := 135) (st_q := [.int 1, .int 1]) (pm_q192_1 (Nat.le_of_ble_eq_true rfl)) rfl rfl ?_
          refine pm_R_br pm_M192 (pc_q := 150) (st_q := []) (pm_q192_1 (Nat.le_of_ble_eq_true rfl)) rfl ?_
          refine pm_R_lo pm_M192 (pc_q := 151) (pm_q192_1 (Nat.le_of_ble_eq_true rfl)) rfl rfl ?_
          refine pm_R_op pm_M192 (pc_q := 152) (st_q := [.int 2, .ref 41]) (pm_q192_1 (Nat.le_of_ble_eq_true rfl)) rfl rfl ?_
          refine pm_R_op pm_M192 (pc_q := 154) (st_q := [.int 9, .int 2, .ref 41]) (pm_q192_1 (Nat.le_of_ble_eq_true rfl)) rfl rfl ?_
          refine pm_R_op pm_M192 (pc_q := 155) (st_q := [.int (-1), .int 9, .int 2, .ref 41]) (pm_q192_1 (Nat.le_of_ble_eq_true rfl)) rfl rfl ?_
          refine pm_R_cv pm_M192 (pc_q := 158) (a := 41) (ra := [.int (-1), .int 9, .int 2]) (rest := []) (ls_q := [.ref 41, .int 2, .int 9, .int (-1)]) (pm_q192_1 (Nat.le_of_ble_eq_true rfl)) rfl (Or.inl rfl) pm_M183 T2145.2.1 rfl (by decide) (Nat.lt_of_lt_of_le (by decide) T2145.1) rfl rfl (Nat.le_of_ble_eq_true rfl) rfl rfl ?_
          refine rf_c183_2_9 (d := d + 0) T2145  (fun m2185 w2186 h2187 T2188 F2189 W2190 X2191 => ?_) (fun m2194 w2195 h2196 T2197 F2198 W2199 X2200 X2201 X2202 X2203 X2204 => ?_) (fun m2207 w2208 h2209 T2210 F2211 W2212 X2213 X2214 X2215 B2216 B2217 => ?_)
          · have F2218 := F2173.trans F2189 (by decide)
            have W2219 : rf_W [10, 12, 13, 14, 16, 17, 18, 22] m m2185 := W2174.trans W2190 (by decide)
            have B2220 : sf_B 0 600 (m2185 10) := T2188.2.2.1 10
            have B2221 : sf_B 0 4 (m2185 13) := T2188.2.2.1 13
            have B2222 : sf_B 0 4 (m2185 17) := T2188.2.2.1 17
            have B2223 : sf_B 0 1 (m2185 22) := T2188.2.2.1 22
            show pm_R _ 192 158 [.ref 41, .long a0, pm_no, .int a1, .int 1] [.int 0] _ _
            have R2224 : (m 10).toInt ≤ (m2185 10).toInt := (sf_aux70 _ _ _ R2179 X2191)
            refine pm_R_br pm_M192 (pc_q := 161) (st_q := []) (pm_q192_1 (Nat.le_of_ble_eq_true rfl)) rfl ?_
            refine pm_R_op pm_M192 (pc_q := 162) (st_q := [.int 0]) (pm_q192_1 (Nat.le_of_ble_eq_true rfl)) rfl rfl ?_
            exact pm_R_ret pm_M192 (r := some (.int 0)) (pm_q192_1 (Nat.le_of_ble_eq_true rfl)) rfl (K0 m2185 w2186 h2187 T2188 F2218 W2219 (sf_aux51 _ _ R2224))
          · have F2225 := F2173.trans F2198 (by decide)
            have W2226 : rf_W [10, 12, 13, 14, 16, 17, 18, 22] m m2194 := W2174.trans W2199 (by decide)
            have B2227 : sf_B 0 600 (m2194 10) := T2197.2.2.1 10
            have B2228 : sf_B 0 4 (m2194 13) := T2197.2.2.1 13
            have B2229 : sf_B 0 4 (m2194 17) := T2197.2.2.1 17
            have B2230 : sf_B 0 1 (m2194 22) := T2197.2.2.1 22
            show pm_R _ 192 158 [.ref 41, .long a0, pm_no, .int a1, .int 1] [.int 1] _ _
            have R2231 : (m 10).toInt ≤ (m2194 10).toInt := (sf_aux70 _ _ _ R2179 X2204)
            obtain ⟨v2232, B2233, e2234⟩ := X2200 _ e2182
            refine pm_R_br pm_M192 (pc_q := 163) (st_q := []) (pm_q192_1 (Nat.le_of_ble_eq_true rfl)) rfl ?_
            refine pm_R_lo pm_M192 (pc_q := 164) (pm_q192_1 (Nat.le_of_ble_eq_true rfl)) rfl rfl ?_
            refine pm_R_op pm_M192 (pc_q := 165) (st_q := [.int 0, .ref 41]) (pm_q192_1 (Nat.le_of_ble_eq_true rfl)) rfl rfl ?_
            refine pm_R_op pm_M192 (pc_q := 166) (st_q := [.int 1, .int 0, .ref 41]) (pm_q192_1 (Nat.le_of_ble_eq_true rfl)) rfl rfl ?_
            refine pm_R_op pm_M192 (pc_q := 167) (st_q := [.int 3, .int 1, .int 0, .ref 41]) (pm_q192_1 (Nat.le_of_ble_eq_true rfl)) rfl rfl ?_
            refine pm_R_op pm_M192 (pc_q := 169) (st_q := [.int 8, .int 3, .int 1, .int 0, .ref 41]) (pm_q192_1 (Nat.le_of_ble_eq_true rfl)) rfl rfl ?_
            refine pm_R_op pm_M192 (pc_q := 170) (st_q := [.int 0, .int 8, .int 3, .int 1, .int 0, .ref 41]) (pm_q192_1 (Nat.le_of_ble_eq_true rfl)) rfl rfl ?_
            refine pm_R_cv pm_M192 (pc_q := 173) (a := 41) (ra := [.int 0, .int 8, .int 3, .int 1, .int 0]) (rest := []) (ls_q := [.ref 41, .int 0, .int 1, .int 3, .int 8, .int 0, pm_no, pm_no]) (pm_q192_1 (Nat.le_of_ble_eq_true rfl)) rfl (Or.inl rfl) pm_M185 T2197.2.1 rfl (by decide) (Nat.lt_of_lt_of_le (by decide) T2197.1) rfl rfl (Nat.le_of_ble_eq_true rfl) rfl rfl ?_
            have e2235 := (F2198.cell (by decide) (F2146.cell (by decide) (F2128.cell (by decide) (F2123.cell (by decide) (F2118.cell (by decide) (F2113.cell (by decide) (F2108.cell (by decide) (F2091.cell (by decide) e3))))))))
            refine rf_c185_l (d := d + 2) T2197 (⟨f2, e2235, ct4, fun z => (bd5 (sf_aux73 _ _ _ _ ek2097 X2149 X2201 z))⟩) (fun _ g eg => by rw [e2234] at eg; cases eg; exact ⟨sf_eqL (Eq.trans (sf_upd_nec (k := Int32.toNatClampNeg 2) (j := Int32.toNatClampNeg 0) (by decide)) (Eq.trans (sf_upd_nec (k := Int32.toNatClampNeg 1) (j := Int32.toNatClampNeg 0) (by decide)) sf_upd_eq)) (sf_weak sf_k1 (by decide) (by decide)), sf_eqL (Eq.trans (sf_upd_nec (k := Int32.toNatClampNeg 2) (j := Int32.toNatClampNeg 1) (by decide)) sf_upd_eq) B2181, sf_eqL sf_upd_eq (sf_weak B2233 (by decide) (by decide))⟩) (fun m2238 w2239 h2240 T2241 F2242 W2243 X2244 => ?_)
            have F2245 := F2225.trans F2242 (by decide)
            have B2246 : sf_B 0 600 (m2238 10) := by rw [W2243 10 (by decide)]; exact B2227
            have ek2247 : (m2238 10).toInt = ((m2194 10)).toInt := by rw [W2243 10 (by decide)]
            have B2248 : sf_B 0 4 (m2238 13) := by rw [W2243 13 (by decide)]; exact B2228
            have ek2249 : (m2238 13).toInt = ((m2194 13)).toInt := by rw [W2243 13 (by decide)]
            have B2250 : sf_B 0 4 (m2238 17) := by rw [W2243 17 (by decide)]; exact (sf_eqT X2201 (sf_eqT X2149 B2096))
            have ek2251 : (m2238 17).toInt = ((m2142 17)).toInt := by rw [W2243 17 (by decide)]; exact X2201
            have B2252 : sf_B 0 1 (m2238 22) := by rw [W2243 22 (by decide)]; exact (sf_eqT X2202 (sf_eqT X2150 B2101))
            have ek2253 : (m2238 22).toInt = ((m2142 22)).toInt := by rw [W2243 22 (by decide)]; exact X2202
            have W2254 : rf_W [10, 12, 13, 14, 16, 17, 18, 22] m m2238 := W2226.trans W2243 (by decide)
            show pm_R _ 192 173 [.ref 41, .long a0, pm_no, .int a1, .int 1] [] _ _
            obtain ⟨f2255, e2256, ct2257, bd2258⟩ := X2244
            refine pm_R_op pm_M192 (pc_q := 174) (st_q := [.int 1]) (pm_q192_1 (Nat.le_of_ble_eq_true rfl)) rfl rfl ?_
            exact pm_R_ret pm_M192 (r := some (.int 1)) (pm_q192_1 (Nat.le_of_ble_eq_true rfl)) rfl (K1 m2238 w2239 h2240 T2241 F2245 W2254 (⟨f2255, e2256, ct2257, fun z => (bd2258 z)⟩) (sf_aux39 _ _ _ ek2247 R2231))
          · have F2259 := F2173.trans F2211 (by decide)
            have W2260 : rf_W [10, 12, 13, 14, 16, 17, 18, 22] m m2207 := W2174.trans W2212 (by decide)
            have B2261 : sf_B 0 600 (m2207 10) := T2210.2.2.1 10
            have B2262 : sf_B 0 4 (m2207 13) := T2210.2.2.1 13
            have B2263 : sf_B 0 4 (m2207 17) := T2210.2.2.1 17
            have B2264 : sf_B 0 1 (m2207 22) := T2210.2.2.1 22
            show pm_R _ 192 158 [.ref 41, .long a0, pm_no, .int a1, .int 1] [.int 1] _ _
            have R2265 : (m 10).toInt ≤ (m2207 10).toInt := (sf_aux70 _ _ _ R2179 X2215)
            obtain ⟨v2266, B2267, e2268⟩ := X2213 _ e2182
            refine pm_R_br pm_M192 (pc_q := 163) (st_q := []) (pm_q192_1 (Nat.le_of_ble_eq_true rfl)) rfl ?_
            refine pm_R_lo pm_M192 (pc_q := 164) (pm_q192_1 (Nat.le_of_ble_eq_true rfl)) rfl rfl ?_
            refine pm_R_op pm_M192 (pc_q := 165) (st_q := [.int 0, .ref 41]) (pm_q192_1 (Nat.le_of_ble_eq_true rfl)) rfl rfl ?_
            refine pm_R_op pm_M192 (pc_q := 166) (st_q := [.int 1, .int 0, .ref 41]) (pm_q192_1 (Nat.le_of_ble_eq_true rfl)) rfl rfl ?_
            refine pm_R_op pm_M192 (pc_q := 167) (st_q := [.int 3, .int 1, .int 0, .ref 41]) (pm_q192_1 (Nat.le_of_ble_eq_true rfl)) rfl rfl ?_
            refine pm_R_op pm_M192 (pc_q := 169) (st_q := [.int 8, .int 3, .int 1, .int 0, .ref 41]) (pm_q192_1 (Nat.le_of_ble_eq_true rfl)) rfl rfl ?_
            refine pm_R_op pm_M192 (pc_q := 170) (st_q := [.int 0, .int 8, .int 3, .int 1, .int 0, .ref 41]) (pm_q192_1 (Nat.le_of_ble_eq_true rfl)) rfl rfl ?_
            refine pm_R_cv pm_M192 (pc_q := 173) (a := 41) (ra := [.int 0, .int 8, .int 3, .int 1, .int 0]) (rest := []) (ls_q := [.ref 41, .int 0, .int 1, .int 3, .int 8, .int 0, pm_no, pm_no]) (pm_q192_1 (Nat.le_of_ble_eq_true rfl)) rfl (Or.inl rfl) pm_M185 T2210.2.1 rfl (by decide) (Nat.lt_of_lt_of_le (by decide) T2210.1) rfl rfl (Nat.le_of_ble_eq_true rfl) rfl rfl ?_
            have e2269 := (F2211.cell (by decide) (F2146.cell (by decide) (F2128.cell (by decide) (F2123.cell (by decide) (F2118.cell (by decide) (F2113.cell (by decide) (F2108.cell (by decide) (F2091.cell (by decide) e3))))))))
            refine rf_c185_l (d := d + 2) T2210 (⟨f2, e2269, ct4, fun z => (sf_pos B2216 (by decide) z)⟩) (fun z => sf_pos B2216 (by decide) z) (fun m2272 w2273 h2274 T2275 F2276 W2277 X2278 => ?_)
            have F2279 := F2259.trans F2276 (by decide)
            have B2280 : sf_B 0 600 (m2272 10) := by rw [W2277 10 (by decide)]; exact B2261
            have ek2281 : (m2272 10).toInt = ((m2207 10)).toInt := by rw [W2277 10 (by decide)]
            have B2282 : sf_B 0 4 (m2272 13) := by rw [W2277 13 (by decide)]; exact B2262
            have ek2283 : (m2272 13).toInt = ((m2207 13)).toInt := by rw [W2277 13 (by decide)]
            have B2284 : sf_B 1 4 (m2272 17) := by rw [W2277 17 (by decide)]; exact B2216
            have ek2285 : (m2272 17).toInt = ((m2207 17)).toInt := by rw [W2277 17 (by decide)]
            have B2286 : sf_B 0 0 (m2272 22) := by rw [W2277 22 (by decide)]; exact B2217
            have ek2287 : (m2272 22).toInt = ((m2207 22)).toInt := by rw [W2277 22 (by decide)]
            have W2288 : rf_W [10, 12, 13, 14, 16, 17, 18, 22] m m2272 := W2260.trans W2277 (by decide)
            show pm_R _ 192 173 [.ref 41, .long a0, pm_no, .int a1, .int 1] [] _ _
            obtain ⟨f2289, e2290, ct2291, bd2292⟩ := X2278
            refine pm_R_op pm_M192 (pc_q := 174) (st_q := [.int 1]) (pm_q192_1 (Nat.le_of_ble_eq_true rfl)) rfl rfl ?_
            exact pm_R_ret pm_M192 (r := some (.int 1)) (pm_q192_1 (Nat.le_of_ble_eq_true rfl)) rfl (K1 m2272 w2273 h2274 T2275 F2279 W2288 (⟨f2289, e2290, ct2291, fun z => (sf_pos B2284 (by decide) z)⟩) (sf_aux39 _ _ _ ek2281 R2265))
        · have F2293 := F2130.trans F2159 (by decide)
          have W2294 : rf_W [10, 12, 13, 14, 16, 17, 18, 22] m m2155 := W2098.trans W2160 (by decide)
          have B2295 : sf_B 0 600 (m2155 10) := T2158.2.2.1 10
          have B2296 : sf_B 0 4 (m2155 13) := T2158.2.2.1 13
          have B2297 : sf_B 0 4 (m2155 17) := T2158.2.2.1 17
          have B2298 : sf_B 0 1 (m2155 22) := T2158.2.2.1 22
          show pm_R _ 192 127 [.ref 41, .long a0, pm_no, .int a1, .int 1] [.int 1] _ _
          have R2299 : (m 10).toInt ≤ (m2155 10).toInt := (sf_aux70 _ _ _ R2102 X2163)
          obtain ⟨v2300, B2301, e2302⟩ := X2161 _ e2129
          refine pm_R_br pm_M192 (pc_q := 132) (st_q := []) (pm_q192_1 (Nat.le_of_ble_eq_true rfl)) rfl ?_
          refine pm_R_lo pm_M192 (pc_q := 134) (pm_q192_1 (Nat.le_of_ble_eq_true rfl)) rfl rfl ?_
          refine pm_R_op pm_M192 (pc_q := 135) (st_q := [.int 1, .int 1]) (pm_q192_1 (Nat.le_of_ble_eq_true rfl)) rfl rfl ?_
          refine pm_R_br pm_M192 (pc_q := 150) (st_q := []) (pm_q192_1 (Nat.le_of_ble_eq_true rfl)) rfl ?_
          refine pm_R_lo pm_M192 (pc_q := 151) (pm_q192_1 (Nat.le_of_ble_eq_true rfl)) rfl rfl ?_
          refine pm_R_op pm_M192 (pc_q := 152) (st_q := [.int 2, .ref 41]) (pm_q192_1 (Nat.le_of_ble_eq_true rfl)) rfl rfl ?_
          refine pm_R_op pm_M192 (pc_q := 154) (st_q := [.int 9, .int 2, .ref 41]) (pm_q192_1 (Nat.le_of_ble_eq_true rfl)) rfl rfl ?_
          refine pm_R_op pm_M192 (pc_q := 155) (st_q := [.int (-1), .int 9, .int 2, .ref 41]) (pm_q192_1 (Nat.le_of_ble_eq_true rfl)) rfl rfl ?_
          refine pm_R_cv pm_M192 (pc_q := 158) (a := 41) (ra := [.int (-1), .int 9, .int 2]) (rest := []) (ls_q := [.ref 41, .int 2, .int 9, .int (-1)]) (pm_q192_1 (Nat.le_of_ble_eq_true rfl)) rfl (Or.inl rfl) pm_M183 T2158.2.1 rfl (by decide) (Nat.lt_of_lt_of_le (by decide) T2158.1) rfl rfl (Nat.le_of_ble_eq_true rfl) rfl rfl ?_
          refine rf_c183_2_9 (d := d + 0) T2158  (fun m2305 w2306 h2307 T2308 F2309 W2310 X2311 => ?_) (fun m2314 w2315 h2316 T2317 F2318 W2319 X2320 X2321 X2322 X2323 X2324 => ?_) (fun m2327 w2328 h2329 T2330 F2331 W2332 X2333 X2334 X2335 B2336 B2337 => ?_)
          · have F2338 := F2293.trans F2309 (by decide)
            have W2339 : rf_W [10, 12, 13, 14, 16, 17, 18, 22] m m2305 := W2294.trans W2310 (by decide)
            have B2340 : sf_B 0 600 (m2305 10) := T2308.2.2.1 10
            have B2341 : sf_B 0 4 (m2305 13) := T2308.2.2.1 13
            have B2342 : sf_B 0 4 (m2305 17) := T2308.2.2.1 17
            have B2343 : sf_B 0 1 (m2305 22) := T2308.2.2.1 22
            show pm_R _ 192 158 [.ref 41, .long a0, pm_no, .int a1, .int 1] [.int 0] _ _
            have R2344 : (m 10).toInt ≤ (m2305 10).toInt := (sf_aux70 _ _ _ R2299 X2311)
            refine pm_R_br pm_M192 (pc_q := 161) (st_q := []) (pm_q192_1 (Nat.le_of_ble_eq_true rfl)) rfl ?_
            refine pm_R_op pm_M192 (pc_q := 162) (st_q := [.int 0]) (pm_q192_1 (Nat.le_of_ble_eq_true rfl)) rfl rfl ?_
            exact pm_R_ret pm_M192 (r := some (.int 0)) (pm_q192_1 (Nat.le_of_ble_eq_true rfl)) rfl (K0 m2305 w2306 h2307 T2308 F2338 W2339 (sf_aux51 _ _ R2344))
          · have F2345 := F2293.trans F2318 (by decide)
            have W2346 : rf_W [10, 12, 13, 14, 16, 17, 18, 22] m m2314 := W2294.trans W2319 (by decide)
            have B2347 : sf_B 0 600 (m2314 10) := T2317.2.2.1 10
            have B2348 : sf_B 0 4 (m2314 13) := T2317.2.2.1 13
            have B2349 : sf_B 0 4 (m2314 17) := T2317.2.2.1 17
            have B2350 : sf_B 0 1 (m2314 22) := T2317.2.2.1 22
            show pm_R _ 192 158 [.ref 41, .long a0, pm_no, .int a1, .int 1] [.int 1] _ _
            have R2351 : (m 10).toInt ≤ (m2314 10).toInt := (sf_aux70 _ _ _ R2299 X2324)
            obtain ⟨v2352, B2353, e2354⟩ := X2320 _ e2302
            refine pm_R_br pm_M192 (pc_q := 163) (st_q := []) (pm_q192_1 (Nat.le_of_ble_eq_true rfl)) rfl ?_
            refine pm_R_lo pm_M192 (pc_q := 164) (pm_q192_1 (Nat.le_of_ble_eq_true rfl)) rfl rfl ?_
            refine pm_R_op pm_M192 (pc_q := 165) (st_q := [.int 0, .ref 41]) (pm_q192_1 (Nat.le_of_ble_eq_true rfl)) rfl rfl ?_
            refine pm_R_op pm_M192 (pc_q := 166) (st_q := [.int 1, .int 0, .ref 41]) (pm_q192_1 (Nat.le_of_ble_eq_true rfl)) rfl rfl ?_
            refine pm_R_op pm_M192 (pc_q := 167) (st_q := [.int 3, .int 1, .int 0, .ref 41]) (pm_q192_1 (Nat.le_of_ble_eq_true rfl)) rfl rfl ?_
            refine pm_R_op pm_M192 (pc_q := 169) (st_q := [.int 8, .int 3, .int 1, .int 0, .ref 41]) (pm_q192_1 (Nat.le_of_ble_eq_true rfl)) rfl rfl ?_
            refine pm_R_op pm_M192 (pc_q := 170) (st_q := [.int 0, .int 8, .int 3, .int 1, .int 0, .ref 41]) (pm_q192_1 (Nat.le_of_ble_eq_true rfl)) rfl rfl ?_
            refine pm_R_cv pm_M192 (pc_q := 173) (a := 41) (ra := [.int 0, .int 8, .int 3, .int 1, .int 0]) (rest := []) (ls_q := [.ref 41, .int 0, .int 1, .int 3, .int 8, .int 0, pm_no, pm_no]) (pm_q192_1 (Nat.le_of_ble_eq_true rfl)) rfl (Or.inl rfl) pm_M185 T2317.2.1 rfl (by decide) (Nat.lt_of_lt_of_le (by decide) T2317.1) rfl rfl (Nat.le_of_ble_eq_true rfl) rfl rfl ?_
            have e2355 := (F2318.cell (by decide) (F2159.cell (by decide) (F2128.cell (by decide) (F2123.cell (by decide) (F2118.cell (by decide) (F2113.cell (by decide) (F2108.cell (by decide) (F2091.cell (by decide) e3))))))))
            refine rf_c185_l (d := d + 2) T2317 (⟨f2, e2355, ct4, fun z => (sf_pos (sf_eqT X2321 B2164) (by decide) z)⟩) (fun z => sf_pos (sf_eqT X2321 B2164) (by decide) z) (fun m2358 w2359 h2360 T2361 F2362 W2363 X2364 => ?_)
            have F2365 := F2345.trans F2362 (by decide)
            have B2366 : sf_B 0 600 (m2358 10) := by rw [W2363 10 (by decide)]; exact B2347
            have ek2367 : (m2358 10).toInt = ((m2314 10)).toInt := by rw [W2363 10 (by decide)]
            have B2368 : sf_B 0 4 (m2358 13) := by rw [W2363 13 (by decide)]; exact B2348
            have ek2369 : (m2358 13).toInt = ((m2314 13)).toInt := by rw [W2363 13 (by decide)]
            have B2370 : sf_B 1 4 (m2358 17) := by rw [W2363 17 (by decide)]; exact (sf_eqT X2321 B2164)
            have ek2371 : (m2358 17).toInt = ((m2155 17)).toInt := by rw [W2363 17 (by decide)]; exact X2321
            have B2372 : sf_B 0 0 (m2358 22) := by rw [W2363 22 (by decide)]; exact (sf_eqT X2322 B2165)
            have ek2373 : (m2358 22).toInt = ((m2155 22)).toInt := by rw [W2363 22 (by decide)]; exact X2322
            have W2374 : rf_W [10, 12, 13, 14, 16, 17, 18, 22] m m2358 := W2346.trans W2363 (by decide)
            show pm_R _ 192 173 [.ref 41, .long a0, pm_no, .int a1, .int 1] [] _ _
            obtain ⟨f2375, e2376, ct2377, bd2378⟩ := X2364
            refine pm_R_op pm_M192 (pc_q := 174) (st_q := [.int 1]) (pm_q192_1 (Nat.le_of_ble_eq_true rfl)) rfl rfl ?_
            exact pm_R_ret pm_M192 (r := some (.int 1)) (pm_q192_1 (Nat.le_of_ble_eq_true rfl)) rfl (K1 m2358 w2359 h2360 T2361 F2365 W2374 (⟨f2375, e2376, ct2377, fun z => (sf_pos B2370 (by decide) z)⟩) (sf_aux39 _ _ _ ek2367 R2351))
          · have F2379 := F2293.trans F2331 (by decide)
            have W2380 : rf_W [10, 12, 13, 14, 16, 17, 18, 22] m m2327 := W2294.trans W2332 (by decide)
            have B2381 : sf_B 0 600 (m2327 10) := T2330.2.2.1 10
            have B2382 : sf_B 0 4 (m2327 13) := T2330.2.2.1 13
            have B2383 : sf_B 0 4 (m2327 17) := T2330.2.2.1 17
            have B2384 : sf_B 0 1 (m2327 22) := T2330.2.2.1 22
            show pm_R _ 192 158 [.ref 41, .long a0, pm_no, .int a1, .int 1] [.int 1] _ _
            have R2385 : (m 10).toInt ≤ (m2327 10).toInt := (sf_aux70 _ _ _ R2299 X2335)
            obtain ⟨v2386, B2387, e2388⟩ := X2333 _ e2302
            refine pm_R_br pm_M192 (pc_q := 163) (st_q := []) (pm_q192_1 (Nat.le_of_ble_eq_true rfl)) rfl ?_
            refine pm_R_lo pm_M192 (pc_q := 164) (pm_q192_1 (Nat.le_of_ble_eq_true rfl)) rfl rfl ?_
            refine pm_R_op pm_M192 (pc_q := 165) (st_q := [.int 0, .ref 41]) (pm_q192_1 (Nat.le_of_ble_eq_true rfl)) rfl rfl ?_
            refine pm_R_op pm_M192 (pc_q := 166) (st_q := [.int 1, .int 0, .ref 41]) (pm_q192_1 (Nat.le_of_ble_eq_true rfl)) rfl rfl ?_
            refine pm_R_op pm_M192 (pc_q := 167) (st_q := [.int 3, .int 1, .int 0, .ref 41]) (pm_q192_1 (Nat.le_of_ble_eq_true rfl)) rfl rfl ?_
            refine pm_R_op pm_M192 (pc_q := 169) (st_q := [.int 8, .int 3, .int 1, .int 0, .ref 41]) (pm_q192_1 (Nat.le_of_ble_eq_true rfl)) rfl rfl ?_
            refine pm_R_op pm_M192 (pc_q := 170) (st_q := [.int 0, .int 8, .int 3, .int 1, .int 0, .ref 41]) (pm_q192_1 (Nat.le_of_ble_eq_true rfl)) rfl rfl ?_
            refine pm_R_cv pm_M192 (pc_q := 173) (a := 41) (ra := [.int 0, .int 8, .int 3, .int 1, .int 0]) (rest := []) (ls_q := [.ref 41, .int 0, .int 1, .int 3, .int 8, .int 0, pm_no, pm_no]) (pm_q192_1 (Nat.le_of_ble_eq_true rfl)) rfl (Or.inl rfl) pm_M185 T2330.2.1 rfl (by decide) (Nat.lt_of_lt_of_le (by decide) T2330.1) rfl rfl (Nat.le_of_ble_eq_true rfl) rfl rfl ?_
            have e2389 := (F2331.cell (by decide) (F2159.cell (by decide) (F2128.cell (by decide) (F2123.cell (by decide) (F2118.cell (by decide) (F2113.cell (by decide) (F2108.cell (by decide) (F2091.cell (by decide) e3))))))))
            refine rf_c185_l (d := d + 2) T2330 (⟨f2, e2389, ct4, fun z => (sf_pos B2336 (by decide) z)⟩) (fun z => sf_pos B2336 (by decide) z) (fun m2392 w2393 h2394 T2395 F2396 W2397 X2398 => ?_)
            have F2399 := F2379.trans F2396 (by decide)
            have B2400 : sf_B 0 600 (m2392 10) := by rw [W2397 10 (by decide)]; exact B2381
            have ek2401 : (m2392 10).toInt = ((m2327 10)).toInt := by rw [W2397 10 (by decide)]
            have B2402 : sf_B 0 4 (m2392 13) := by rw [W2397 13 (by decide)]; exact B2382
            have ek2403 : (m2392 13).toInt = ((m2327 13)).toInt := by rw [W2397 13 (by decide)]
            have B2404 : sf_B 1 4 (m2392 17) := by rw [W2397 17 (by decide)]; exact B2336
            have ek2405 : (m2392 17).toInt = ((m2327 17)).toInt := by rw [W2397 17 (by decide)]
            have B2406 : sf_B 0 0 (m2392 22) := by rw [W2397 22 (by decide)]; exact B2337
            have ek2407 : (m2392 22).toInt = ((m2327 22)).toInt := by rw [W2397 22 (by decide)]
            have W2408 : rf_W [10, 12, 13, 14, 16, 17, 18, 22] m m2392 := W2380.trans W2397 (by decide)
            show pm_R _ 192 173 [.ref 41, .long a0, pm_no, .int a1, .int 1] [] _ _
            obtain ⟨f2409, e2410, ct2411, bd2412⟩ := X2398
            refine pm_R_op pm_M192 (pc_q := 174) (st_q := [.int 1]) (pm_q192_1 (Nat.le_of_ble_eq_true rfl)) rfl rfl ?_
            exact pm_R_ret pm_M192 (r := some (.int 1)) (pm_q192_1 (Nat.le_of_ble_eq_true rfl)) rfl (K1 m2392 w2393 h2394 T2395 F2399 W2408 (⟨f2409, e2410, ct2411, fun z => (sf_pos B2404 (by decide) z)⟩) (sf_aux39 _ _ _ ek2401 R2385))
      · have B2413 : sf_B 8 8 (f2 0) := sf_eqL (Classical.not_not.mp c2083) sf_k8
        refine pm_R_lo pm_M192 (pc_q := 98) rfl rfl rfl ?_
        refine pm_R_op pm_M192 (pc_q := 99) (st_q := [.int 3, .ref 41]) rfl rfl rfl ?_
        refine pm_R_lo pm_M192 (pc_q := 100) rfl rfl rfl ?_
        refine pm_R_cv pm_M192 (pc_q := 103) (a := 41) (ra := [.int a1, .int 3]) (rest := []) (ls_q := [.ref 41, .int 3, .int a1]) rfl rfl (Or.inl rfl) pm_M182 T.2.1 rfl (by decide) (Nat.lt_of_lt_of_le (by decide) T.1) rfl rfl (Nat.le_of_ble_eq_true rfl) rfl rfl ?_
        refine rf_c182 (d := d + 2) T (sf_weak sf_k3 (by decide) (by decide)) Ba1 (fun m2416 w2417 h2418 T2419 F2420 W2421 B2422 => ?_)
        have F2423 := (rf_G.refl [41, 51, 52] h).trans F2420 (by decide)
        have B2424 : sf_B 0 600 (m2416 10) := by rw [W2421 10 (by decide)]; exact B1
        have ek2425 : (m2416 10).toInt = ((m 10)).toInt := by rw [W2421 10 (by decide)]
        have W2426 : rf_W [10, 12, 13, 14, 16, 17, 18, 22] m m2416 := (rf_W.refl [10, 12, 13, 14, 16, 17, 18, 22] m).trans W2421 (by decide)
        have B2427 : sf_B 0 4 (m2416 13) := T2419.2.2.1 13
        have B2428 : sf_B 0 4 (m2416 17) := T2419.2.2.1 17
        have B2429 : sf_B 0 1 (m2416 22) := T2419.2.2.1 22
        show pm_R _ 192 103 [.ref 41, .long a0, pm_no, .int a1, .int 1] [] _ _
        refine pm_R_lo pm_M192 (pc_q := 104) rfl rfl rfl ?_
        refine pm_R_cv pm_M192 (pc_q := 107) (a := 41) (ra := []) (rest := []) (ls_q := [.ref 41, pm_no, pm_no]) rfl rfl (Or.inl rfl) pm_M179 T2419.2.1 rfl (by decide) (Nat.lt_of_lt_of_le (by decide) T2419.1) rfl rfl (Nat.le_of_ble_eq_true rfl) rfl rfl ?_
        refine rf_c179 (d := d + 1) T2419  (fun m2432 w2433 h2434 T2435 F2436 W2437 X2438 X2439 => ?_)
        have F2440 := F2423.trans F2436 (by decide)
        have B2441 : sf_B 1 4 (m2432 17) := by rw [W2437 17 (by decide)]; exact B2422
        have ek2442 : (m2432 17).toInt = ((m2416 17)).toInt := by rw [W2437 17 (by decide)]
        have B2443 : sf_B 0 1 (m2432 22) := by rw [W2437 22 (by decide)]; exact B2429
        have ek2444 : (m2432 22).toInt = ((m2416 22)).toInt := by rw [W2437 22 (by decide)]
        have W2445 : rf_W [10, 12, 13, 14, 16, 17, 18, 22] m m2432 := W2426.trans W2437 (by decide)
        have B2446 : sf_B 0 600 (m2432 10) := T2435.2.2.1 10
        have B2447 : sf_B 0 4 (m2432 13) := T2435.2.2.1 13
        show pm_R _ 192 107 [.ref 41, .long a0, pm_no, .int a1, .int 1] [] _ _
        have R2448 : (m 10).toInt ≤ (m2432 10).toInt := (sf_aux53 _ _ _ ek2425 X2438)
        refine pm_R_lo pm_M192 (pc_q := 108) rfl rfl rfl ?_
        refine pm_R_cv pm_M192 (pc_q := 111) (a := 41) (ra := []) (rest := []) (ls_q := [.ref 41, pm_no]) rfl rfl (Or.inl rfl) pm_M190 T2435.2.1 rfl (by decide) (Nat.lt_of_lt_of_le (by decide) T2435.1) rfl rfl (Nat.le_of_ble_eq_true rfl) rfl rfl ?_
        refine pm_R_op pm_M190 (pc_q := 1) (st_q := [.int 0]) rfl rfl rfl ?_
        refine pm_R_lo pm_M190 (pc_q := 2) (ls_q := [.ref 41, .int 0]) (st_q := []) rfl rfl rfl ?_
        refine pm_R_lo pm_M190 (pc_q := 3) rfl rfl rfl ?_
        refine pm_R_op pm_M190 (pc_q := 4) (st_q := [.int 4, .int 0]) rfl rfl rfl ?_
        refine pm_R_br pm_M190 (pc_q := 7) (st_q := []) rfl rfl ?_
        refine pm_R_lo pm_M190 (pc_q := 8) rfl rfl rfl ?_
        refine rf_R_get pm_M190 T2435 (pc_q := 11) (v := .ref 52) rfl rfl rfl rfl ?_
        refine pm_R_lo pm_M190 (pc_q := 12) rfl rfl rfl ?_
        refine pm_R_op pm_M190 (pc_q := 13) (st_q := [.int (-1), .int 0, .ref 52]) rfl rfl rfl ?_
        obtain ⟨f2449, e2450, b2451⟩ := T2435.2.2.2.1 52 (by decide) (by decide)
        refine rf_R_ist pm_M190 T2435 (pc_q := 14) rfl e2450 (by decide) (by decide) rfl ⟨_, rfl, sf_upd b2451 (sf_weak sf_kn1 (by decide) (by decide)) _⟩ rfl (fun h2452 T2453 F2454 e2455 => ?_)
        have F2456 := F2440.trans F2454 (by decide)
        refine pm_R_lo pm_M190 (pc_q := 17) (ls_q := [.ref 41, .int 1]) (st_q := []) rfl rfl rfl ?_
        refine pm_R_br pm_M190 (pc_q := 2) rfl rfl ?_
        refine pm_R_lo pm_M190 (pc_q := 3) rfl rfl rfl ?_
        refine pm_R_op pm_M190 (pc_q := 4) (st_q := [.int 4, .int 1]) rfl rfl rfl ?_
        refine pm_R_br pm_M190 (pc_q := 7) (st_q := []) rfl rfl ?_
        refine pm_R_lo pm_M190 (pc_q := 8) rfl rfl rfl ?_
        refine rf_R_get pm_M190 T2453 (pc_q := 11) (v := .ref 52) rfl rfl rfl rfl ?_
        refine pm_R_lo pm_M190 (pc_q := 12) rfl rfl rfl ?_
        refine pm_R_op pm_M190 (pc_q := 13) (st_q := [.int (-1), .int 1, .ref 52]) rfl rfl rfl ?_
        refine rf_R_ist pm_M190 T2453 (pc_q := 14) rfl e2455 (by decide) (by decide) rfl ⟨_, rfl, sf_upd (sf_upd b2451 (sf_weak sf_kn1 (by decide) (by decide)) _) (sf_weak sf_kn1 (by decide) (by decide)) _⟩ rfl (fun h2457 T2458 F2459 e2460 => ?_)
        have F2461 := F2456.trans F2459 (by decide)
        refine pm_R_lo pm_M190 (pc_q := 17) (ls_q := [.ref 41, .int 2]) (st_q := []) rfl rfl rfl ?_
        refine pm_R_br pm_M190 (pc_q := 2) rfl rfl ?_
        refine pm_R_lo pm_M190 (pc_q := 3) rfl rfl rfl ?_
        refine pm_R_op pm_M190 (pc_q := 4) (st_q := [.int 4, .int 2]) rfl rfl rfl ?_
        refine pm_R_br pm_M190 (pc_q := 7) (st_q := []) rfl rfl ?_
        refine pm_R_lo pm_M190 (pc_q := 8) rfl rfl rfl ?_
        refine rf_R_get pm_M190 T2458 (pc_q := 11) (v := .ref 52) rfl rfl rfl rfl ?_
        refine pm_R_lo pm_M190 (pc_q := 12) rfl rfl rfl ?_
        refine pm_R_op pm_M190 (pc_q := 13) (st_q := [.int (-1), .int 2, .ref 52]) rfl rfl rfl ?_
        refine rf_R_ist pm_M190 T2458 (pc_q := 14) rfl e2460 (by decide) (by decide) rfl ⟨_, rfl, sf_upd (sf_upd (sf_upd b2451 (sf_weak sf_kn1 (by decide) (by decide)) _) (sf_weak sf_kn1 (by decide) (by decide)) _) (sf_weak sf_kn1 (by decide) (by decide)) _⟩ rfl (fun h2462 T2463 F2464 e2465 => ?_)
        have F2466 := F2461.trans F2464 (by decide)
        refine pm_R_lo pm_M190 (pc_q := 17) (ls_q := [.ref 41, .int 3]) (st_q := []) rfl rfl rfl ?_
        refine pm_R_br pm_M190 (pc_q := 2) rfl rfl ?_
        refine pm_R_lo pm_M190 (pc_q := 3) rfl rfl rfl ?_
        refine pm_R_op pm_M190 (pc_q := 4) (st_q := [.int 4, .int 3]) rfl rfl rfl ?_
        refine pm_R_br pm_M190 (pc_q := 7) (st_q := []) rfl rfl ?_
        refine pm_R_lo pm_M190 (pc_q := 8) rfl rfl rfl ?_
        refine rf_R_get pm_M190 T2463 (pc_q := 11) (v := .ref 52) rfl rfl rfl rfl ?_
        refine pm_R_lo pm_M190 (pc_q := 12) rfl rfl rfl ?_
        refine pm_R_op pm_M190 (pc_q := 13) (st_q := [.int (-1), .int 3, .ref 52]) rfl rfl rfl ?_
        refine rf_R_ist pm_M190 T2463 (pc_q := 14) rfl e2465 (by decide) (by decide) rfl ⟨_, rfl, sf_upd (sf_upd (sf_upd (sf_upd b2451 (sf_weak sf_kn1 (by decide) (by decide)) _) (sf_weak sf_kn1 (by decide) (by decide)) _) (sf_weak sf_kn1 (by decide) (by decide)) _) (sf_weak sf_kn1 (by decide) (by decide)) _⟩ rfl (fun h2467 T2468 F2469 e2470 => ?_)
        have F2471 := F2466.trans F2469 (by decide)
        refine pm_R_lo pm_M190 (pc_q := 17) (ls_q := [.ref 41, .int 4]) (st_q := []) rfl rfl rfl ?_
        refine pm_R_br pm_M190 (pc_q := 2) rfl rfl ?_
        refine pm_R_lo pm_M190 (pc_q := 3) rfl rfl rfl ?_
        refine pm_R_op pm_M190 (pc_q := 4) (st_q := [.int 4, .int 4]) rfl rfl rfl ?_
        refine pm_R_br pm_M190 (pc_q := 20) (st_q := []) rfl rfl ?_
        refine pm_R_ret pm_M190 (r := none) rfl rfl ?_
        show pm_R _ 192 111 [.ref 41, .long a0, pm_no, .int a1, .int 1] [] _ _
        refine pm_R_lo pm_M192 (pc_q := 112) rfl rfl rfl ?_
        refine rf_R_get pm_M192 T2468 (pc_q := 115) (v := .ref 52) rfl rfl rfl rfl ?_
        refine pm_R_op pm_M192 (pc_q := 116) (st_q := [.int 0, .ref 52]) (pm_q192_1 (Nat.le_of_ble_eq_true rfl)) rfl rfl ?_
        refine pm_R_lo pm_M192 (pc_q := 118) (pm_q192_1 (Nat.le_of_ble_eq_true rfl)) rfl rfl ?_
        refine rf_R_ist pm_M192 T2468 (pc_q := 119) (pm_q192_1 (Nat.le_of_ble_eq_true rfl)) e2470 (by decide) (by decide) rfl ⟨_, rfl, sf_upd (sf_upd (sf_upd (sf_upd (sf_upd b2451 (sf_weak sf_kn1 (by decide) (by decide)) _) (sf_weak sf_kn1 (by decide) (by decide)) _) (sf_weak sf_kn1 (by decide) (by decide)) _) (sf_weak sf_kn1 (by decide) (by decide)) _) (sf_weak sf_k1 (by decide) (by decide)) _⟩ rfl (fun h2472 T2473 F2474 e2475 => ?_)
        have F2476 := F2471.trans F2474 (by decide)
        refine pm_R_lo pm_M192 (pc_q := 120) (pm_q192_1 (Nat.le_of_ble_eq_true rfl)) rfl rfl ?_
        refine pm_R_op pm_M192 (pc_q := 121) (st_q := [.int 1, .ref 41]) (pm_q192_1 (Nat.le_of_ble_eq_true rfl)) rfl rfl ?_
        refine pm_R_op pm_M192 (pc_q := 123) (st_q := [.int 9, .int 1, .ref 41]) (pm_q192_1 (Nat.le_of_ble_eq_true rfl)) rfl rfl ?_
        refine pm_R_op pm_M192 (pc_q := 124) (st_q := [.int (-1), .int 9, .int 1, .ref 41]) (pm_q192_1 (Nat.le_of_ble_eq_true rfl)) rfl rfl ?_
        refine pm_R_cv pm_M192 (pc_q := 127) (a := 41) (ra := [.int (-1), .int 9, .int 1]) (rest := []) (ls_q := [.ref 41, .int 1, .int 9, .int (-1)]) (pm_q192_1 (Nat.le_of_ble_eq_true rfl)) rfl (Or.inl rfl) pm_M183 T2473.2.1 rfl (by decide) (Nat.lt_of_lt_of_le (by decide) T2473.1) rfl rfl (Nat.le_of_ble_eq_true rfl) rfl rfl ?_
        refine rf_c183_1_9 (d := d + 0) T2473  (fun m2479 w2480 h2481 T2482 F2483 W2484 X2485 => ?_) (fun m2488 w2489 h2490 T2491 F2492 W2493 X2494 X2495 X2496 X2497 X2498 => ?_) (fun m2501 w2502 h2503 T2504 F2505 W2506 X2507 X2508 X2509 B2510 B2511 => ?_)
        · have F2512 := F2476.trans F2483 (by decide)
          have W2513 : rf_W [10, 12, 13, 14, 16, 17, 18, 22] m m2479 := W2445.trans W2484 (by decide)
          have B2514 : sf_B 0 600 (m2479 10) := T2482.2.2.1 10
          have B2515 : sf_B 0 4 (m2479 13) := T2482.2.2.1 13
          have B2516 : sf_B 0 4 (m2479 17) := T2482.2.2.1 17
          have B2517 : sf_B 0 1 (m2479 22) := T2482.2.2.1 22
          show pm_R _ 192 127 [.ref 41, .long a0, pm_no, .int a1, .int 1] [.int 0] _ _
          have R2518 : (m 10).toInt ≤ (m2479 10).toInt := (sf_aux70 _ _ _ R2448 X2485)
          refine pm_R_br pm_M192 (pc_q := 130) (st_q := []) (pm_q192_1 (Nat.le_of_ble_eq_true rfl)) rfl ?_
          refine pm_R_op pm_M192 (pc_q := 131) (st_q := [.int 0]) (pm_q192_1 (Nat.le_of_ble_eq_true rfl)) rfl rfl ?_
          exact pm_R_ret pm_M192 (r := some (.int 0)) (pm_q192_1 (Nat.le_of_ble_eq_true rfl)) rfl (K0 m2479 w2480 h2481 T2482 F2512 W2513 (sf_aux51 _ _ R2518))
        · have F2519 := F2476.trans F2492 (by decide)
          have W2520 : rf_W [10, 12, 13, 14, 16, 17, 18, 22] m m2488 := W2445.trans W2493 (by decide)
          have B2521 : sf_B 0 600 (m2488 10) := T2491.2.2.1 10
          have B2522 : sf_B 0 4 (m2488 13) := T2491.2.2.1 13
          have B2523 : sf_B 0 4 (m2488 17) := T2491.2.2.1 17
          have B2524 : sf_B 0 1 (m2488 22) := T2491.2.2.1 22
          show pm_R _ 192 127 [.ref 41, .long a0, pm_no, .int a1, .int 1] [.int 1] _ _
          have R2525 : (m 10).toInt ≤ (m2488 10).toInt := (sf_aux70 _ _ _ R2448 X2498)
          obtain ⟨v2526, B2527, e2528⟩ := X2494 _ e2475
          refine pm_R_br pm_M192 (pc_q := 132) (st_q := []) (pm_q192_1 (Nat.le_of_ble_eq_true rfl)) rfl ?_
          refine pm_R_lo pm_M192 (pc_q := 134) (pm_q192_1 (Nat.le_of_ble_eq_true rfl)) rfl rfl ?_
          refine pm_R_op pm_M192 (pc_q := 135) (st_q := [.int 1, .int 1]) (pm_q192_1 (Nat.le_of_ble_eq_true rfl)) rfl rfl ?_
          refine pm_R_br pm_M192 (pc_q := 150) (st_q := []) (pm_q192_1 (Nat.le_of_ble_eq_true rfl)) rfl ?_
          refine pm_R_lo pm_M192 (pc_q := 151) (pm_q192_1 (Nat.le_of_ble_eq_true rfl)) rfl rfl ?_
          refine pm_R_op pm_M192 (pc_q := 152) (st_q := [.int 2, .ref 41]) (pm_q192_1 (Nat.le_of_ble_eq_true rfl)) rfl rfl ?_
          refine pm_R_op pm_M192 (pc_q := 154) (st_q := [.int 9, .int 2, .ref 41]) (pm_q192_1 (Nat.le_of_ble_eq_true rfl)) rfl rfl ?_
          refine pm_R_op pm_M192 (pc_q := 155) (st_q := [.int (-1), .int 9, .int 2, .ref 41]) (pm_q192_1 (Nat.le_of_ble_eq_true rfl)) rfl rfl ?_
          refine pm_R_cv pm_M192 (pc_q := 158) (a := 41) (ra := [.int (-1), .int 9, .int 2]) (rest := []) (ls_q := [.ref 41, .int 2, .int 9, .int (-1)]) (pm_q192_1 (Nat.le_of_ble_eq_true rfl)) rfl (Or.inl rfl) pm_M183 T2491.2.1 rfl (by decide) (Nat.lt_of_lt_of_le (by decide) T2491.1) rfl rfl (Nat.le_of_ble_eq_true rfl) rfl rfl ?_
          refine rf_c183_2_9 (d := d + 0) T2491  (fun m2531 w2532 h2533 T2534 F2535 W2536 X2537 => ?_) (fun m2540 w2541 h2542 T2543 F2544 W2545 X2546 X2547 X2548 X2549 X2550 => ?_) (fun m2553 w2554 h2555 T2556 F2557 W2558 X2559 X2560 X2561 B2562 B2563 => ?_)
          · have F2564 := F2519.trans F2535 (by decide)
            have W2565 : rf_W [10, 12, 13, 14, 16, 17, 18, 22] m m2531 := W2520.trans W2536 (by decide)
            have B2566 : sf_B 0 600 (m2531 10) := T2534.2.2.1 10
            have B2567 : sf_B 0 4 (m2531 13) := T2534.2.2.1 13
            have B2568 : sf_B 0 4 (m2531 17) := T2534.2.2.1 17
            have B2569 : sf_B 0 1 (m2531 22) := T2534.2.2.1 22
            show pm_R _ 192 158 [.ref 41, .long a0, pm_no, .int a1, .int 1] [.int 0] _ _
            have R2570 : (m 10).toInt ≤ (m2531 10).toInt := (sf_aux70 _ _ _ R2525 X2537)
            refine pm_R_br pm_M192 (pc_q := 161) (st_q := []) (pm_q192_1 (Nat.le_of_ble_eq_true rfl)) rfl ?_
            refine pm_R_op pm_M192 (pc_q := 162) (st_q := [.int 0]) (pm_q192_1 (Nat.le_of_ble_eq_true rfl)) rfl rfl ?_
            exact pm_R_ret pm_M192 (r := some (.int 0)) (pm_q192_1 (Nat.le_of_ble_eq_true rfl)) rfl (K0 m2531 w2532 h2533 T2534 F2564 W2565 (sf_aux51 _ _ R2570))
          · have F2571 := F2519.trans F2544 (by decide)
            have W2572 : rf_W [10, 12, 13, 14, 16, 17, 18, 22] m m2540 := W2520.trans W2545 (by decide)
            have B2573 : sf_B 0 600 (m2540 10) := T2543.2.2.1 10
            have B2574 : sf_B 0 4 (m2540 13) := T2543.2.2.1 13
            have B2575 : sf_B 0 4 (m2540 17) := T2543.2.2.1 17
            have B2576 : sf_B 0 1 (m2540 22) := T2543.2.2.1 22
            show pm_R _ 192 158 [.ref 41, .long a0, pm_no, .int a1, .int 1] [.int 1] _ _
            have R2577 : (m 10).toInt ≤ (m2540 10).toInt := (sf_aux70 _ _ _ R2525 X2550)
            obtain ⟨v2578, B2579, e2580⟩ := X2546 _ e2528
            refine pm_R_br pm_M192 (pc_q := 163) (st_q := []) (pm_q192_1 (Nat.le_of_ble_eq_true rfl)) rfl ?_
            refine pm_R_lo pm_M192 (pc_q := 164) (pm_q192_1 (Nat.le_of_ble_eq_true rfl)) rfl rfl ?_
            refine pm_R_op pm_M192 (pc_q := 165) (st_q := [.int 0, .ref 41]) (pm_q192_1 (Nat.le_of_ble_eq_true rfl)) rfl rfl ?_
            refine pm_R_op pm_M192 (pc_q := 166) (st_q := [.int 1, .int 0, .ref 41]) (pm_q192_1 (Nat.le_of_ble_eq_true rfl)) rfl rfl ?_
            refine pm_R_op pm_M192 (pc_q := 167) (st_q := [.int 3, .int 1, .int 0, .ref 41]) (pm_q192_1 (Nat.le_of_ble_eq_true rfl)) rfl rfl ?_
            refine pm_R_op pm_M192 (pc_q := 169) (st_q := [.int 8, .int 3, .int 1, .int 0, .ref 41]) (pm_q192_1 (Nat.le_of_ble_eq_true rfl)) rfl rfl ?_
            refine pm_R_op pm_M192 (pc_q := 170) (st_q := [.int 0, .int 8, .int 3, .int 1, .int 0, .ref 41]) (pm_q192_1 (Nat.le_of_ble_eq_true rfl)) rfl rfl ?_
            refine pm_R_cv pm_M192 (pc_q := 173) (a := 41) (ra := [.int 0, .int 8, .int 3, .int 1, .int 0]) (rest := []) (ls_q := [.ref 41, .int 0, .int 1, .int 3, .int 8, .int 0, pm_no, pm_no]) (pm_q192_1 (Nat.le_of_ble_eq_true rfl)) rfl (Or.inl rfl) pm_M185 T2543.2.1 rfl (by decide) (Nat.lt_of_lt_of_le (by decide) T2543.1) rfl rfl (Nat.le_of_ble_eq_true rfl) rfl rfl ?_
            have e2581 := (F2544.cell (by decide) (F2492.cell (by decide) (F2474.cell (by decide) (F2469.cell (by decide) (F2464.cell (by decide) (F2459.cell (by decide) (F2454.cell (by decide) (F2436.cell (by decide) (F2420.cell (by decide) e3)))))))))
            refine rf_c185_l (d := d + 2) T2543 (⟨f2, e2581, ct4, fun z => (sf_pos (sf_eqT X2547 (sf_eqT X2495 B2441)) (by decide) z)⟩) (fun z => sf_pos (sf_eqT X2547 (sf_eqT X2495 B2441)) (by decide) z) (fun m2584 w2585 h2586 T2587 F2588 W2589 X2590 => ?_)
            have F2591 := F2571.trans F2588 (by decide)
            have B2592 : sf_B 0 600 (m2584 10) := by rw [W2589 10 (by decide)]; exact B2573
            have ek2593 : (m2584 10).toInt = ((m2540 10)).toInt := by rw [W2589 10 (by decide)]
            have B2594 : sf_B 0 4 (m2584 13) := by rw [W2589 13 (by decide)]; exact B2574
            have ek2595 : (m2584 13).toInt = ((m2540 13)).toInt := by rw [W2589 13 (by decide)]
            have B2596 : sf_B 1 4 (m2584 17) := by rw [W2589 17 (by decide)]; exact (sf_eqT X2547 (sf_eqT X2495 B2441))
            have ek2597 : (m2584 17).toInt = ((m2488 17)).toInt := by rw [W2589 17 (by decide)]; exact X2547
            have B2598 : sf_B 0 1 (m2584 22) := by rw [W2589 22 (by decide)]; exact (sf_eqT X2548 (sf_eqT X2496 B2443))
            have ek2599 : (m2584 22).toInt = ((m2488 22)).toInt := by rw [W2589 22 (by decide)]; exact X2548
            have W2600 : rf_W [10, 12, 13, 14, 16, 17, 18, 22] m m2584 := W2572.trans W2589 (by decide)
            show pm_R _ 192 173 [.ref 41, .long a0, pm_no, .int a1, .int 1] [] _ _
            obtain ⟨f2601, e2602, ct2603, bd2604⟩ := X2590
            refine pm_R_op pm_M192 (pc_q := 174) (st_q := [.int 1]) (pm_q192_1 (Nat.le_of_ble_eq_true rfl)) rfl rfl ?_
            exact pm_R_ret pm_M192 (r := some (.int 1)) (pm_q192_1 (Nat.le_of_ble_eq_true rfl)) rfl (K1 m2584 w2585 h2586 T2587 F2591 W2600 (⟨f2601, e2602, ct2603, fun z => (sf_pos B2596 (by decide) z)⟩) (sf_aux39 _ _ _ ek2593 R2577))
          · have F2605 := F2519.trans F2557 (by decide)
            have W2606 : rf_W [10, 12, 13, 14, 16, 17, 18, 22] m m2553 := W2520.trans W2558 (by decide)
            have B2607 : sf_B 0 600 (m2553 10) := T2556.2.2.1 10
            have B2608 : sf_B 0 4 (m2553 13) := T2556.2.2.1 13
            have B2609 : sf_B 0 4 (m2553 17) := T2556.2.2.1 17
            have B2610 : sf_B 0 1 (m2553 22) := T2556.2.2.1 22
            show pm_R _ 192 158 [.ref 41, .long a0, pm_no, .int a1, .int 1] [.int 1] _ _
            have R2611 : (m 10).toInt ≤ (m2553 10).toInt := (sf_aux70 _ _ _ R2525 X2561)
            obtain ⟨v2612, B2613, e2614⟩ := X2559 _ e2528
            refine pm_R_br pm_M192 (pc_q := 163) (st_q := []) (pm_q192_1 (Nat.le_of_ble_eq_true rfl)) rfl ?_
            refine pm_R_lo pm_M192 (pc_q := 164) (pm_q192_1 (Nat.le_of_ble_eq_true rfl)) rfl rfl ?_
            refine pm_R_op pm_M192 (pc_q := 165) (st_q := [.int 0, .ref 41]) (pm_q192_1 (Nat.le_of_ble_eq_true rfl)) rfl rfl ?_
            refine pm_R_op pm_M192 (pc_q := 166) (st_q := [.int 1, .int 0, .ref 41]) (pm_q192_1 (Nat.le_of_ble_eq_true rfl)) rfl rfl ?_
            refine pm_R_op pm_M192 (pc_q := 167) (st_q := [.int 3, .int 1, .int 0, .ref 41]) (pm_q192_1 (Nat.le_of_ble_eq_true rfl)) rfl rfl ?_
            refine pm_R_op pm_M192 (pc_q := 169) (st_q := [.int 8, .int 3, .int 1, .int 0, .ref 41]) (pm_q192_1 (Nat.le_of_ble_eq_true rfl)) rfl rfl ?_
            refine pm_R_op pm_M192 (pc_q := 170) (st_q := [.int 0, .int 8, .int 3, .int 1, .int 0, .ref 41]) (pm_q192_1 (Nat.le_of_ble_eq_true rfl)) rfl rfl ?_
            refine pm_R_cv pm_M192 (pc_q := 173) (a := 41) (ra := [.int 0, .int 8, .int 3, .int 1, .int 0]) (rest := []) (ls_q := [.ref 41, .int 0, .int 1, .int 3, .int 8, .int 0, pm_no, pm_no]) (pm_q192_1 (Nat.le_of_ble_eq_true rfl)) rfl (Or.inl rfl) pm_M185 T2556.2.1 rfl (by decide) (Nat.lt_of_lt_of_le (by decide) T2556.1) rfl rfl (Nat.le_of_ble_eq_true rfl) rfl rfl ?_
            have e2615 := (F2557.cell (by decide) (F2492.cell (by decide) (F2474.cell (by decide) (F2469.cell (by decide) (F2464.cell (by decide) (F2459.cell (by decide) (F2454.cell (by decide) (F2436.cell (by decide) (F2420.cell (by decide) e3)))))))))
            refine rf_c185_l (d := d + 2) T2556 (⟨f2, e2615, ct4, fun z => (sf_pos B2562 (by decide) z)⟩) (fun z => sf_pos B2562 (by decide) z) (fun m2618 w2619 h2620 T2621 F2622 W2623 X2624 => ?_)
            have F2625 := F2605.trans F2622 (by decide)
            have B2626 : sf_B 0 600 (m2618 10) := by rw [W2623 10 (by decide)]; exact B2607
            have ek2627 : (m2618 10).toInt = ((m2553 10)).toInt := by rw [W2623 10 (by decide)]
            have B2628 : sf_B 0 4 (m2618 13) := by rw [W2623 13 (by decide)]; exact B2608
            have ek2629 : (m2618 13).toInt = ((m2553 13)).toInt := by rw [W2623 13 (by decide)]
            have B2630 : sf_B 1 4 (m2618 17) := by rw [W2623 17 (by decide)]; exact B2562
            have ek2631 : (m2618 17).toInt = ((m2553 17)).toInt := by rw [W2623 17 (by decide)]
            have B2632 : sf_B 0 0 (m2618 22) := by rw [W2623 22 (by decide)]; exact B2563
            have ek2633 : (m2618 22).toInt = ((m2553 22)).toInt := by rw [W2623 22 (by decide)]
            have W2634 : rf_W [10, 12, 13, 14, 16, 17, 18, 22] m m2618 := W2606.trans W2623 (by decide)
            show pm_R _ 192 173 [.ref 41, .long a0, pm_no, .int a1, .int 1] [] _ _
            obtain ⟨f2635, e2636, ct2637, bd2638⟩ := X2624
            refine pm_R_op pm_M192 (pc_q := 174) (st_q := [.int 1]) (pm_q192_1 (Nat.le_of_ble_eq_true rfl)) rfl rfl ?_
            exact pm_R_ret pm_M192 (r := some (.int 1)) (pm_q192_1 (Nat.le_of_ble_eq_true rfl)) rfl (K1 m2618 w2619 h2620 T2621 F2625 W2634 (⟨f2635, e2636, ct2637, fun z => (sf_pos B2630 (by decide) z)⟩) (sf_aux39 _ _ _ ek2627 R2611))
        · have F2639 := F2476.trans F2505 (by decide)
          have W2640 : rf_W [10, 12, 13, 14, 16, 17, 18, 22] m m2501 := W2445.trans W2506 (by decide)
          have B2641 : sf_B 0 600 (m2501 10) := T2504.2.2.1 10
          have B2642 : sf_B 0 4 (m2501 13) := T2504.2.2.1 13
          have B2643 : sf_B 0 4 (m2501 17) := T2504.2.2.1 17
          have B2644 : sf_B 0 1 (m2501 22) := T2504.2.2.1 22
          show pm_R _ 192 127 [.ref 41, .long a0, pm_no, .int a1, .int 1] [.int 1] _ _
          have R2645 : (m 10).toInt ≤ (m2501 10).toInt := (sf_aux70 _ _ _ R2448 X2509)
          obtain ⟨v2646, B2647, e2648⟩ := X2507 _ e2475
          refine pm_R_br pm_M192 (pc_q := 132) (st_q := []) (pm_q192_1 (Nat.le_of_ble_eq_true rfl)) rfl ?_
          refine pm_R_lo pm_M192 (pc_q := 134) (pm_q192_1 (Nat.le_of_ble_eq_true rfl)) rfl rfl ?_
          refine pm_R_op pm_M192 (pc_q := 135) (st_q := [.int 1, .int 1]) (pm_q192_1 (Nat.le_of_ble_eq_true rfl)) rfl rfl ?_
          refine pm_R_br pm_M192 (pc_q := 150) (st_q := []) (pm_q192_1 (Nat.le_of_ble_eq_true rfl)) rfl ?_
          refine pm_R_lo pm_M192 (pc_q := 151) (pm_q192_1 (Nat.le_of_ble_eq_true rfl)) rfl rfl ?_
          refine pm_R_op pm_M192 (pc_q := 152) (st_q := [.int 2, .ref 41]) (pm_q192_1 (Nat.le_of_ble_eq_true rfl)) rfl rfl ?_
          refine pm_R_op pm_M192 (pc_q := 154) (st_q := [.int 9, .int 2, .ref 41]) (pm_q192_1 (Nat.le_of_ble_eq_true rfl)) rfl rfl ?_
          refine pm_R_op pm_M192 (pc_q := 155) (st_q := [.int (-1), .int 9, .int 2, .ref 41]) (pm_q192_1 (Nat.le_of_ble_eq_true rfl)) rfl rfl ?_
          refine pm_R_cv pm_M192 (pc_q := 158) (a := 41) (ra := [.int (-1), .int 9, .int 2]) (rest := []) (ls_q := [.ref 41, .int 2, .int 9, .int (-1)]) (pm_q192_1 (Nat.le_of_ble_eq_true rfl)) rfl (Or.inl rfl) pm_M183 T2504.2.1 rfl (by decide) (Nat.lt_of_lt_of_le (by decide) T2504.1) rfl rfl (Nat.le_of_ble_eq_true rfl) rfl rfl ?_
          refine rf_c183_2_9 (d := d + 0) T2504  (fun m2651 w2652 h2653 T2654 F2655 W2656 X2657 => ?_) (fun m2660 w2661 h2662 T2663 F2664 W2665 X2666 X2667 X2668 X2669 X2670 => ?_) (fun m2673 w2674 h2675 T2676 F2677 W2678 X2679 X2680 X2681 B2682 B2683 => ?_)
          · have F2684 := F2639.trans F2655 (by decide)
            have W2685 : rf_W [10, 12, 13, 14, 16, 17, 18, 22] m m2651 := W2640.trans W2656 (by decide)
            have B2686 : sf_B 0 600 (m2651 10) := T2654.2.2.1 10
            have B2687 : sf_B 0 4 (m2651 13) := T2654.2.2.1 13
            have B2688 : sf_B 0 4 (m2651 17) := T2654.2.2.1 17
            have B2689 : sf_B 0 1 (m2651 22) := T2654.2.2.1 22
            show pm_R _ 192 158 [.ref 41, .long a0, pm_no, .int a1, .int 1] [.int 0] _ _
            have R2690 : (m 10).toInt ≤ (m2651 10).toInt := (sf_aux70 _ _ _ R2645 X2657)
            refine pm_R_br pm_M192 (pc_q := 161) (st_q := []) (pm_q192_1 (Nat.le_of_ble_eq_true rfl)) rfl ?_
            refine pm_R_op pm_M192 (pc_q := 162) (st_q := [.int 0]) (pm_q192_1 (Nat.le_of_ble_eq_true rfl)) rfl rfl ?_
            exact pm_R_ret pm_M192 (r := some (.int 0)) (pm_q192_1 (Nat.le_of_ble_eq_true rfl)) rfl (K0 m2651 w2652 h2653 T2654 F2684 W2685 (sf_aux51 _ _ R2690))
          · have F2691 := F2639.trans F2664 (by decide)
            have W2692 : rf_W [10, 12, 13, 14, 16, 17, 18, 22] m m2660 := W2640.trans W2665 (by decide)
            have B2693 : sf_B 0 600 (m2660 10) := T2663.2.2.1 10
            have B2694 : sf_B 0 4 (m2660 13) := T2663.2.2.1 13
            have B2695 : sf_B 0 4 (m2660 17) := T2663.2.2.1 17
            have B2696 : sf_B 0 1 (m2660 22) := T2663.2.2.1 22
            show pm_R _ 192 158 [.ref 41, .long a0, pm_no, .int a1, .int 1] [.int 1] _ _
            have R2697 : (m 10).toInt ≤ (m2660 10).toInt := (sf_aux70 _ _ _ R2645 X2670)
            obtain ⟨v2698, B2699, e2700⟩ := X2666 _ e2648
            refine pm_R_br pm_M192 (pc_q := 163) (st_q := []) (pm_q192_1 (Nat.le_of_ble_eq_true rfl)) rfl ?_
            refine pm_R_lo pm_M192 (pc_q := 164) (pm_q192_1 (Nat.le_of_ble_eq_true rfl)) rfl rfl ?_
            refine pm_R_op pm_M192 (pc_q := 165) (st_q := [.int 0, .ref 41]) (pm_q192_1 (Nat.le_of_ble_eq_true rfl)) rfl rfl ?_
            refine pm_R_op pm_M192 (pc_q := 166) (st_q := [.int 1, .int 0, .ref 41]) (pm_q192_1 (Nat.le_of_ble_eq_true rfl)) rfl rfl ?_
            refine pm_R_op pm_M192 (pc_q := 167) (st_q := [.int 3, .int 1, .int 0, .ref 41]) (pm_q192_1 (Nat.le_of_ble_eq_true rfl)) rfl rfl ?_
            refine pm_R_op pm_M192 (pc_q := 169) (st_q := [.int 8, .int 3, .int 1, .int 0, .ref 41]) (pm_q192_1 (Nat.le_of_ble_eq_true rfl)) rfl rfl ?_
            refine pm_R_op pm_M192 (pc_q := 170) (st_q := [.int 0, .int 8, .int 3, .int 1, .int 0, .ref 41]) (pm_q192_1 (Nat.le_of_ble_eq_true rfl)) rfl rfl ?_
            refine pm_R_cv pm_M192 (pc_q := 173) (a := 41) (ra := [.int 0, .int 8, .int 3, .int 1, .int 0]) (rest := []) (ls_q := [.ref 41, .int 0, .int 1, .int 3, .int 8, .int 0, pm_no, pm_no]) (pm_q192_1 (Nat.le_of_ble_eq_true rfl)) rfl (Or.inl rfl) pm_M185 T2663.2.1 rfl (by decide) (Nat.lt_of_lt_of_le (by decide) T2663.1) rfl rfl (Nat.le_of_ble_eq_true rfl) rfl rfl ?_
            have e2701 := (F2664.cell (by decide) (F2505.cell (by decide) (F2474.cell (by decide) (F2469.cell (by decide) (F2464.cell (by decide) (F2459.cell (by decide) (F2454.cell (by decide) (F2436.cell (by decide) (F2420.cell (by decide) e3)))))))))
            refine rf_c185_l (d := d + 2) T2663 (⟨f2, e2701, ct4, fun z => (sf_pos (sf_eqT X2667 B2510) (by decide) z)⟩) (fun z => sf_pos (sf_eqT X2667 B2510) (by decide) z) (fun m2704 w2705 h2706 T2707 F2708 W2709 X2710 => ?_)
            have F2711 := F2691.trans F2708 (by decide)
            have B2712 : sf_B 0 600 (m2704 10) := by rw [W2709 10 (by decide)]; exact B2693
            have ek2713 : (m2704 10).toInt = ((m2660 10)).toInt := by rw [W2709 10 (by decide)]
            have B2714 : sf_B 0 4 (m2704 13) := by rw [W2709 13 (by decide)]; exact B2694
            have ek2715 : (m2704 13).toInt = ((m2660 13)).toInt := by rw [W2709 13 (by decide)]
            have B2716 : sf_B 1 4 (m2704 17) := by rw [W2709 17 (by decide)]; exact (sf_eqT X2667 B2510)
            have ek2717 : (m2704 17).toInt = ((m2501 17)).toInt := by rw [W2709 17 (by decide)]; exact X2667
            have B2718 : sf_B 0 0 (m2704 22) := by rw [W2709 22 (by decide)]; exact (sf_eqT X2668 B2511)
            have ek2719 : (m2704 22).toInt = ((m2501 22)).toInt := by rw [W2709 22 (by decide)]; exact X2668
            have W2720 : rf_W [10, 12, 13, 14, 16, 17, 18, 22] m m2704 := W2692.trans W2709 (by decide)
            show pm_R _ 192 173 [.ref 41, .long a0, pm_no, .int a1, .int 1] [] _ _
            obtain ⟨f2721, e2722, ct2723, bd2724⟩ := X2710
            refine pm_R_op pm_M192 (pc_q := 174) (st_q := [.int 1]) (pm_q192_1 (Nat.le_of_ble_eq_true rfl)) rfl rfl ?_
            exact pm_R_ret pm_M192 (r := some (.int 1)) (pm_q192_1 (Nat.le_of_ble_eq_true rfl)) rfl (K1 m2704 w2705 h2706 T2707 F2711 W2720 (⟨f2721, e2722, ct2723, fun z => (sf_pos B2716 (by decide) z)⟩) (sf_aux39 _ _ _ ek2713 R2697))
          · have F2725 := F2639.trans F2677 (by decide)
            have W2726 : rf_W [10, 12, 13, 14, 16, 17, 18, 22] m m2673 := W2640.trans W2678 (by decide)
            have B2727 : sf_B 0 600 (m2673 10) := T2676.2.2.1 10
            have B2728 : sf_B 0 4 (m2673 13) := T2676.2.2.1 13
            have B2729 : sf_B 0 4 (m2673 17) := T2676.2.2.1 17
            have B2730 : sf_B 0 1 (m2673 22) := T2676.2.2.1 22
            show pm_R _ 192 158 [.ref 41, .long a0, pm_no, .int a1, .int 1] [.int 1] _ _
            have R2731 : (m 10).toInt ≤ (m2673 10).toInt := (sf_aux70 _ _ _ R2645 X2681)
            obtain ⟨v2732, B2733, e2734⟩ := X2679 _ e2648
            refine pm_R_br pm_M192 (pc_q := 163) (st_q := []) (pm_q192_1 (Nat.le_of_ble_eq_true rfl)) rfl ?_
            refine pm_R_lo pm_M192 (pc_q := 164) (pm_q192_1 (Nat.le_of_ble_eq_true rfl)) rfl rfl ?_
            refine pm_R_op pm_M192 (pc_q := 165) (st_q := [.int 0, .ref 41]) (pm_q192_1 (Nat.le_of_ble_eq_true rfl)) rfl rfl ?_
            refine pm_R_op pm_M192 (pc_q := 166) (st_q := [.int 1, .int 0, .ref 41]) (pm_q192_1 (Nat.le_of_ble_eq_true rfl)) rfl rfl ?_
            refine pm_R_op pm_M192 (pc_q := 167) (st_q := [.int 3, .int 1, .int 0, .ref 41]) (pm_q192_1 (Nat.le_of_ble_eq_true rfl)) rfl rfl ?_
            refine pm_R_op pm_M192 (pc_q := 169) (st_q := [.int 8, .int 3, .int 1, .int 0, .ref 41]) (pm_q192_1 (Nat.le_of_ble_eq_true rfl)) rfl rfl ?_
            refine pm_R_op pm_M192 (pc_q := 170) (st_q := [.int 0, .int 8, .int 3, .int 1, .int 0, .ref 41]) (pm_q192_1 (Nat.le_of_ble_eq_true rfl)) rfl rfl ?_
            refine pm_R_cv pm_M192 (pc_q := 173) (a := 41) (ra := [.int 0, .int 8, .int 3, .int 1, .int 0]) (rest := []) (ls_q := [.ref 41, .int 0, .int 1, .int 3, .int 8, .int 0, pm_no, pm_no]) (pm_q192_1 (Nat.le_of_ble_eq_true rfl)) rfl (Or.inl rfl) pm_M185 T2676.2.1 rfl (by decide) (Nat.lt_of_lt_of_le (by decide) T2676.1) rfl rfl (Nat.le_of_ble_eq_true rfl) rfl rfl ?_
            have e2735 := (F2677.cell (by decide) (F2505.cell (by decide) (F2474.cell (by decide) (F2469.cell (by decide) (F2464.cell (by decide) (F2459.cell (by decide) (F2454.cell (by decide) (F2436.cell (by decide) (F2420.cell (by decide) e3)))))))))
            refine rf_c185_l (d := d + 2) T2676 (⟨f2, e2735, ct4, fun z => (sf_pos B2682 (by decide) z)⟩) (fun z => sf_pos B2682 (by decide) z) (fun m2738 w2739 h2740 T2741 F2742 W2743 X2744 => ?_)
            have F2745 := F2725.trans F2742 (by decide)
            have B2746 : sf_B 0 600 (m2738 10) := by rw [W2743 10 (by decide)]; exact B2727
            have ek2747 : (m2738 10).toInt = ((m2673 10)).toInt := by rw [W2743 10 (by decide)]
            have B2748 : sf_B 0 4 (m2738 13) := by rw [W2743 13 (by decide)]; exact B2728
            have ek2749 : (m2738 13).toInt = ((m2673 13)).toInt := by rw [W2743 13 (by decide)]
            have B2750 : sf_B 1 4 (m2738 17) := by rw [W2743 17 (by decide)]; exact B2682
            have ek2751 : (m2738 17).toInt = ((m2673 17)).toInt := by rw [W2743 17 (by decide)]
            have B2752 : sf_B 0 0 (m2738 22) := by rw [W2743 22 (by decide)]; exact B2683
            have ek2753 : (m2738 22).toInt = ((m2673 22)).toInt := by rw [W2743 22 (by decide)]
            have W2754 : rf_W [10, 12, 13, 14, 16, 17, 18, 22] m m2738 := W2726.trans W2743 (by decide)
            show pm_R _ 192 173 [.ref 41, .long a0, pm_no, .int a1, .int 1] [] _ _
            obtain ⟨f2755, e2756, ct2757, bd2758⟩ := X2744
            refine pm_R_op pm_M192 (pc_q := 174) (st_q := [.int 1]) (pm_q192_1 (Nat.le_of_ble_eq_true rfl)) rfl rfl ?_
            exact pm_R_ret pm_M192 (r := some (.int 1)) (pm_q192_1 (Nat.le_of_ble_eq_true rfl)) rfl (K1 m2738 w2739 h2740 T2741 F2745 W2754 (⟨f2755, e2756, ct2757, fun z => (sf_pos B2750 (by decide) z)⟩) (sf_aux39 _ _ _ ek2747 R2731))
  · have B2759 : sf_B 0 0 z7 := sf_eqL (Classical.not_not.mp c9) sf_k0
    have B2760 : lf_B 474148660594 474148660594 a0 := lf_eqB e8 B2759 (⟨by decide, by decide⟩ : lf_B 474148660594 474148660594 474148660594)
    refine pm_R_op pm_M192 (pc_q := 9) (st_q := [.int 0]) rfl rfl rfl ?_
    refine pm_R_br pm_M192 (pc_q := 73) rfl rfl ?_
    refine pm_R_lo pm_M192 (pc_q := 75) (ls_q := [.ref 41, .long a0, pm_no, .int a1, .int 0]) (st_q := []) rfl rfl rfl ?_
    refine pm_R_lo pm_M192 (pc_q := 77) rfl rfl rfl ?_
    refine pm_R_op pm_M192 (pc_q := 78) (st_q := [.int (-1), .int 0]) rfl rfl rfl ?_
    refine pm_R_br pm_M192 (pc_q := 86) (st_q := []) rfl rfl ?_
    refine pm_R_lo pm_M192 (pc_q := 87) rfl rfl rfl ?_
    refine rf_R_get pm_M192 T (pc_q := 90) (v := .ref 51) rfl rfl rfl rfl ?_
    refine pm_R_op pm_M192 (pc_q := 91) (st_q := [.int 0, .ref 51]) rfl rfl rfl ?_
    refine pm_R_iald pm_M192 (pc_q := 92) (v := (f2 0)) rfl e3 (Nat.lt_of_lt_of_le (by decide) T.1) rfl rfl rfl ?_
    refine pm_R_op pm_M192 (pc_q := 94) (st_q := [.int 8, .int (f2 0)]) rfl rfl rfl ?_
    refine pm_R_icmp pm_M192 (t := 103) (pc_q := 97) rfl rfl rfl (fun c2763 => ?_) (fun c2763 => ?_)
    · have B2764 : sf_B 0 7 (f2 0) := sf_neH0 c2763 sf_k8 ct4
      refine pm_R_lo pm_M192 (pc_q := 104) rfl rfl rfl ?_
      refine pm_R_cv pm_M192 (pc_q := 107) (a := 41) (ra := []) (rest := []) (ls_q := [.ref 41, pm_no, pm_no]) rfl rfl (Or.inl rfl) pm_M179 T.2.1 rfl (by decide) (Nat.lt_of_lt_of_le (by decide) T.1) rfl rfl (Nat.le_of_ble_eq_true rfl) rfl rfl ?_
      refine rf_c179 (d := d + 1) T  (fun m2767 w2768 h2769 T2770 F2771 W2772 X2773 X2774 => ?_)
      have F2775 := (rf_G.refl [41, 51, 52] h).trans F2771 (by decide)
      have B2776 : sf_B 0 4 (m2767 17) := by rw [W2772 17 (by decide)]; exact B6
      have ek2777 : (m2767 17).toInt = ((m 17)).toInt := by rw [W2772 17 (by decide)]
      have W2778 : rf_W [10, 12, 13, 14, 16, 17, 18, 22] m m2767 := (rf_W.refl [10, 12, 13, 14, 16, 17, 18, 22] m).trans W2772 (by decide)
      have B2779 : sf_B 0 600 (m2767 10) := T2770.2.2.1 10
      have B2780 : sf_B 0 4 (m2767 13) := T2770.2.2.1 13
      have B2781 : sf_B 0 1 (m2767 22) := T2770.2.2.1 22
      show pm_R _ 192 107 [.ref 41, .long a0, pm_no, .int a1, .int 0] [] _ _
      have R2782 : (m 10).toInt ≤ (m2767 10).toInt := (sf_aux51 _ _ X2773)
      refine pm_R_lo pm_M192 (pc_q := 108) rfl rfl rfl ?_
      refine pm_R_cv pm_M192 (pc_q := 111) (a := 41) (ra := []) (rest := []) (ls_q := [.ref 41, pm_no]) rfl rfl (Or.inl rfl) pm_M190 T2770.2.1 rfl (by decide) (Nat.lt_of_lt_of_le (by decide) T2770.1) rfl rfl (Nat.le_of_ble_eq_true rfl) rfl rfl ?_
      refine pm_R_op pm_M190 (pc_q := 1) (st_q := [.int 0]) rfl rfl rfl ?_
      refine pm_R_lo pm_M190 (pc_q := 2) (ls_q := [.ref 41, .int 0]) (st_q := []) rfl rfl rfl ?_
      refine pm_R_lo pm_M190 (pc_q := 3) rfl rfl rfl ?_
      refine pm_R_op pm_M190 (pc_q := 4) (st_q := [.int 4, .int 0]) rfl rfl rfl ?_
      refine pm_R_br pm_M190 (pc_q := 7) (st_q := []) rfl rfl ?_
      refine pm_R_lo pm_M190 (pc_q := 8) rfl rfl rfl ?_
      refine rf_R_get pm_M190 T2770 (pc_q := 11) (v := .ref 52) rfl rfl rfl rfl ?_
      refine pm_R_lo pm_M190 (pc_q := 12) rfl rfl rfl ?_
      refine pm_R_op pm_M190 (pc_q := 13) (st_q := [.int (-1), .int 0, .ref 52]) rfl rfl rfl ?_
      obtain ⟨f2783, e2784, b2785⟩ := T2770.2.2.2.1 52 (by decide) (by decide)
      refine rf_R_ist pm_M190 T2770 (pc_q := 14) rfl e2784 (by decide) (by decide) rfl ⟨_, rfl, sf_upd b2785 (sf_weak sf_kn1 (by decide) (by decide)) _⟩ rfl (fun h2786 T2787 F2788 e2789 => ?_)
      have F2790 := F2775.trans F2788 (by decide)
      refine pm_R_lo pm_M190 (pc_q := 17) (ls_q := [.ref 41, .int 1]) (st_q := []) rfl rfl rfl ?_
      refine pm_R_br pm_M190 (pc_q := 2) rfl rfl ?_
      refine pm_R_lo pm_M190 (pc_q := 3) rfl rfl rfl ?_
      refine pm_R_op pm_M190 (pc_q := 4) (st_q := [.int 4, .int 1]) rfl rfl rfl ?_
      refine pm_R_br pm_M190 (pc_q := 7) (st_q := []) rfl rfl ?_
      refine pm_R_lo pm_M190 (pc_q := 8) rfl rfl rfl ?_
      refine rf_R_get pm_M190 T2787 (pc_q := 11) (v := .ref 52) rfl rfl rfl rfl ?_
      refine pm_R_lo pm_M190 (pc_q := 12) rfl rfl rfl ?_
      refine pm_R_op pm_M190 (pc_q := 13) (st_q := [.int (-1), .int 1, .ref 52]) rfl rfl rfl ?_
      refine rf_R_ist pm_M190 T2787 (pc_q := 14) rfl e2789 (by decide) (by decide) rfl ⟨_, rfl, sf_upd (sf_upd b2785 (sf_weak sf_kn1 (by decide) (by decide)) _) (sf_weak sf_kn1 (by decide) (by decide)) _⟩ rfl (fun h2791 T2792 F2793 e2794 => ?_)
      have F2795 := F2790.trans F2793 (by decide)
      refine pm_R_lo pm_M190 (pc_q := 17) (ls_q := [.ref 41, .int 2]) (st_q := []) rfl rfl rfl ?_
      refine pm_R_br pm_M190 (pc_q := 2) rfl rfl ?_
      refine pm_R_lo pm_M190 (pc_q := 3) rfl rfl rfl ?_
      refine pm_R_op pm_M190 (pc_q := 4) (st_q := [.int 4, .int 2]) rfl rfl rfl ?_
      refine pm_R_br pm_M190 (pc_q := 7) (st_q := []) rfl rfl ?_
      refine pm_R_lo pm_M190 (pc_q := 8) rfl rfl rfl ?_
      refine rf_R_get pm_M190 T2792 (pc_q := 11) (v := .ref 52) rfl rfl rfl rfl ?_
      refine pm_R_lo pm_M190 (pc_q := 12) rfl rfl rfl ?_
      refine pm_R_op pm_M190 (pc_q := 13) (st_q := [.int (-1), .int 2, .ref 52]) rfl rfl rfl ?_
      refine rf_R_ist pm_M190 T2792 (pc_q := 14) rfl e2794 (by decide) (by decide) rfl ⟨_, rfl, sf_upd (sf_upd (sf_upd b2785 (sf_weak sf_kn1 (by decide) (by decide)) _) (sf_weak sf_kn1 (by decide) (by decide)) _) (sf_weak sf_kn1 (by decide) (by decide)) _⟩ rfl (fun h2796 T2797 F2798 e2799 => ?_)
      have F2800 := F2795.trans F2798 (by decide)
      refine pm_R_lo pm_M190 (pc_q := 17) (ls_q := [.ref 41, .int 3]) (st_q := []) rfl rfl rfl ?_
      refine pm_R_br pm_M190 (pc_q := 2) rfl rfl ?_
      refine pm_R_lo pm_M190 (pc_q := 3) rfl rfl rfl ?_
      refine pm_R_op pm_M190 (pc_q := 4) (st_q := [.int 4, .int 3]) rfl rfl rfl ?_
      refine pm_R_br pm_M190 (pc_q := 7) (st_q := []) rfl rfl ?_
      refine pm_R_lo pm_M190 (pc_q := 8) rfl rfl rfl ?_
      refine rf_R_get pm_M190 T2797 (pc_q := 11) (v := .ref 52) rfl rfl rfl rfl ?_
      refine pm_R_lo pm_M190 (pc_q := 12) rfl rfl rfl ?_
      refine pm_R_op pm_M190 (pc_q := 13) (st_q := [.int (-1), .int 3, .ref 52]) rfl rfl rfl ?_
      refine rf_R_ist pm_M190 T2797 (pc_q := 14) rfl e2799 (by decide) (by decide) rfl ⟨_, rfl, sf_upd (sf_upd (sf_upd (sf_upd b2785 (sf_weak sf_kn1 (by decide) (by decide)) _) (sf_weak sf_kn1 (by decide) (by decide)) _) (sf_weak sf_kn1 (by decide) (by decide)) _) (sf_weak sf_kn1 (by decide) (by decide)) _⟩ rfl (fun h2801 T2802 F2803 e2804 => ?_)
      have F2805 := F2800.trans F2803 (by decide)
      refine pm_R_lo pm_M190 (pc_q := 17) (ls_q := [.ref 41, .int 4]) (st_q := []) rfl rfl rfl ?_
      refine pm_R_br pm_M190 (pc_q := 2) rfl rfl ?_
      refine pm_R_lo pm_M190 (pc_q := 3) rfl rfl rfl ?_
      refine pm_R_op pm_M190 (pc_q := 4) (st_q := [.int 4, .int 4]) rfl rfl rfl ?_
      refine pm_R_br pm_M190 (pc_q := 20) (st_q := []) rfl rfl ?_
      refine pm_R_ret pm_M190 (r := none) rfl rfl ?_
      show pm_R _ 192 111 [.ref 41, .long a0, pm_no, .int a1, .int 0] [] _ _
      refine pm_R_lo pm_M192 (pc_q := 112) rfl rfl rfl ?_
      refine rf_R_get pm_M192 T2802 (pc_q := 115) (v := .ref 52) rfl rfl rfl rfl ?_
      refine pm_R_op pm_M192 (pc_q := 116) (st_q := [.int 0, .ref 52]) (pm_q192_1 (Nat.le_of_ble_eq_true rfl)) rfl rfl ?_
      refine pm_R_lo pm_M192 (pc_q := 118) (pm_q192_1 (Nat.le_of_ble_eq_true rfl)) rfl rfl ?_
      refine rf_R_ist pm_M192 T2802 (pc_q := 119) (pm_q192_1 (Nat.le_of_ble_eq_true rfl)) e2804 (by decide) (by decide) rfl ⟨_, rfl, sf_upd (sf_upd (sf_upd (sf_upd (sf_upd b2785 (sf_weak sf_kn1 (by decide) (by decide)) _) (sf_weak sf_kn1 (by decide) (by decide)) _) (sf_weak sf_kn1 (by decide) (by decide)) _) (sf_weak sf_kn1 (by decide) (by decide)) _) (sf_weak sf_k0 (by decide) (by decide)) _⟩ rfl (fun h2806 T2807 F2808 e2809 => ?_)
      have F2810 := F2805.trans F2808 (by decide)
      refine pm_R_lo pm_M192 (pc_q := 120) (pm_q192_1 (Nat.le_of_ble_eq_true rfl)) rfl rfl ?_
      refine pm_R_op pm_M192 (pc_q := 121) (st_q := [.int 1, .ref 41]) (pm_q192_1 (Nat.le_of_ble_eq_true rfl)) rfl rfl ?_
      refine pm_R_op pm_M192 (pc_q := 123) (st_q := [.int 9, .int 1, .ref 41]) (pm_q192_1 (Nat.le_of_ble_eq_true rfl)) rfl rfl ?_
      refine pm_R_op pm_M192 (pc_q := 124) (st_q := [.int (-1), .int 9, .int 1, .ref 41]) (pm_q192_1 (Nat.le_of_ble_eq_true rfl)) rfl rfl ?_
      refine pm_R_cv pm_M192 (pc_q := 127) (a := 41) (ra := [.int (-1), .int 9, .int 1]) (rest := []) (ls_q := [.ref 41, .int 1, .int 9, .int (-1)]) (pm_q192_1 (Nat.le_of_ble_eq_true rfl)) rfl (Or.inl rfl) pm_M183 T2807.2.1 rfl (by decide) (Nat.lt_of_lt_of_le (by decide) T2807.1) rfl rfl (Nat.le_of_ble_eq_true rfl) rfl rfl ?_
      refine rf_c183_1_9 (d := d + 0) T2807  (fun m2813 w2814 h2815 T2816 F2817 W2818 X2819 => ?_) (fun m2822 w2823 h2824 T2825 F2826 W2827 X2828 X2829 X2830 X2831 X2832 => ?_) (fun m2835 w2836 h2837 T2838 F2839 W2840 X2841 X2842 X2843 B2844 B2845 => ?_)
      · have F2846 := F2810.trans F2817 (by decide)
        have W2847 : rf_W [10, 12, 13, 14, 16, 17, 18, 22] m m2813 := W2778.trans W2818 (by decide)
        have B2848 : sf_B 0 600 (m2813 10) := T2816.2.2.1 10
        have B2849 : sf_B 0 4 (m2813 13) := T2816.2.2.1 13
        have B2850 : sf_B 0 4 (m2813 17) := T2816.2.2.1 17
        have B2851 : sf_B 0 1 (m2813 22) := T2816.2.2.1 22
        show pm_R _ 192 127 [.ref 41, .long a0, pm_no, .int a1, .int 0] [.int 0] _ _
        have R2852 : (m 10).toInt ≤ (m2813 10).toInt := (sf_aux70 _ _ _ R2782 X2819)
        refine pm_R_br pm_M192 (pc_q := 130) (st_q := []) (pm_q192_1 (Nat.le_of_ble_eq_true rfl)) rfl ?_
        refine pm_R_op pm_M192 (pc_q := 131) (st_q := [.int 0]) (pm_q192_1 (Nat.le_of_ble_eq_true rfl)) rfl rfl ?_
        exact pm_R_ret pm_M192 (r := some (.int 0)) (pm_q192_1 (Nat.le_of_ble_eq_true rfl)) rfl (K0 m2813 w2814 h2815 T2816 F2846 W2847 (sf_aux51 _ _ R2852))
      · have F2853 := F2810.trans F2826 (by decide)
        have W2854 : rf_W [10, 12, 13, 14, 16, 17, 18, 22] m m2822 := W2778.trans W2827 (by decide)
        have B2855 : sf_B 0 600 (m2822 10) := T2825.2.2.1 10
        have B2856 : sf_B 0 4 (m2822 13) := T2825.2.2.1 13
        have B2857 : sf_B 0 4 (m2822 17) := T2825.2.2.1 17
        have B2858 : sf_B 0 1 (m2822 22) := T2825.2.2.1 22
        show pm_R _ 192 127 [.ref 41, .long a0, pm_no, .int a1, .int 0] [.int 1] _ _
        have R2859 : (m 10).toInt ≤ (m2822 10).toInt := (sf_aux70 _ _ _ R2782 X2832)
        obtain ⟨v2860, B2861, e2862⟩ := X2828 _ e2809
        refine pm_R_br pm_M192 (pc_q := 132) (st_q := []) (pm_q192_1 (Nat.le_of_ble_eq_true rfl)) rfl ?_
        refine pm_R_lo pm_M192 (pc_q := 134) (pm_q192_1 (Nat.le_of_ble_eq_true rfl)) rfl rfl ?_
        refine pm_R_op pm_M192 (pc_q := 135) (st_q := [.int 1, .int 0]) (pm_q192_1 (Nat.le_of_ble_eq_true rfl)) rfl rfl ?_
        refine pm_R_br pm_M192 (pc_q := 138) (st_q := []) (pm_q192_1 (Nat.le_of_ble_eq_true rfl)) rfl ?_
        refine pm_R_lo pm_M192 (pc_q := 140) (pm_q192_1 (Nat.le_of_ble_eq_true rfl)) rfl rfl ?_
        refine pm_R_op pm_M192 (pc_q := 141) (st_q := [.int 2, .int 0]) (pm_q192_1 (Nat.le_of_ble_eq_true rfl)) rfl rfl ?_
        refine pm_R_br pm_M192 (pc_q := 144) (st_q := []) (pm_q192_1 (Nat.le_of_ble_eq_true rfl)) rfl ?_
        refine pm_R_lo pm_M192 (pc_q := 146) (pm_q192_1 (Nat.le_of_ble_eq_true rfl)) rfl rfl ?_
        refine pm_R_op pm_M192 (pc_q := 147) (st_q := [.int 3, .int 0]) (pm_q192_1 (Nat.le_of_ble_eq_true rfl)) rfl rfl ?_
        refine pm_R_br pm_M192 (pc_q := 163) (st_q := []) (pm_q192_1 (Nat.le_of_ble_eq_true rfl)) rfl ?_
        refine pm_R_lo pm_M192 (pc_q := 164) (pm_q192_1 (Nat.le_of_ble_eq_true rfl)) rfl rfl ?_
        refine pm_R_op pm_M192 (pc_q := 165) (st_q := [.int 0, .ref 41]) (pm_q192_1 (Nat.le_of_ble_eq_true rfl)) rfl rfl ?_
        refine pm_R_op pm_M192 (pc_q := 166) (st_q := [.int 1, .int 0, .ref 41]) (pm_q192_1 (Nat.le_of_ble_eq_true rfl)) rfl rfl ?_
        refine pm_R_op pm_M192 (pc_q := 167) (st_q := [.int 3, .int 1, .int 0, .ref 41]) (pm_q192_1 (Nat.le_of_ble_eq_true rfl)) rfl rfl ?_
        refine pm_R_op pm_M192 (pc_q := 169) (st_q := [.int 8, .int 3, .int 1, .int 0, .ref 41]) (pm_q192_1 (Nat.le_of_ble_eq_true rfl)) rfl rfl ?_
        refine pm_R_op pm_M192 (pc_q := 170) (st_q := [.int 0, .int 8, .int 3, .int 1, .int 0, .ref 41]) (pm_q192_1 (Nat.le_of_ble_eq_true rfl)) rfl rfl ?_
        refine pm_R_cv pm_M192 (pc_q := 173) (a := 41) (ra := [.int 0, .int 8, .int 3, .int 1, .int 0]) (rest := []) (ls_q := [.ref 41, .int 0, .int 1, .int 3, .int 8, .int 0, pm_no, pm_no]) (pm_q192_1 (Nat.le_of_ble_eq_true rfl)) rfl (Or.inl rfl) pm_M185 T2825.2.1 rfl (by decide) (Nat.lt_of_lt_of_le (by decide) T2825.1) rfl rfl (Nat.le_of_ble_eq_true rfl) rfl rfl ?_
        have e2863 := (F2826.cell (by decide) (F2808.cell (by decide) (F2803.cell (by decide) (F2798.cell (by decide) (F2793.cell (by decide) (F2788.cell (by decide) (F2771.cell (by decide) e3)))))))
        refine rf_c185_l (d := d + 2) T2825 (⟨f2, e2863, ct4, fun z => (bd5 (sf_aux75 _ _ _ ek2777 X2829 z))⟩) (fun _ g eg => by rw [e2862] at eg; cases eg; exact ⟨sf_eqL (Eq.trans (sf_upd_nec (k := Int32.toNatClampNeg 1) (j := Int32.toNatClampNeg 0) (by decide)) sf_upd_eq) (sf_weak sf_k0 (by decide) (by decide)), sf_eqL sf_upd_eq B2861, sf_eqL (Eq.trans (sf_upd_nec (k := Int32.toNatClampNeg 1) (j := Int32.toNatClampNeg 2) (by decide)) (Eq.trans (sf_upd_nec (k := Int32.toNatClampNeg 0) (j := Int32.toNatClampNeg 2) (by decide)) (Eq.trans (sf_upd_nec (k := Int32.toNatClampNeg 3) (j := Int32.toNatClampNeg 2) (by decide)) sf_upd_eq))) (sf_weak sf_kn1 (by decide) (by decide))⟩) (fun m2866 w2867 h2868 T2869 F2870 W2871 X2872 => ?_)
        have F2873 := F2853.trans F2870 (by decide)
        have B2874 : sf_B 0 600 (m2866 10) := by rw [W2871 10 (by decide)]; exact B2855
        have ek2875 : (m2866 10).toInt = ((m2822 10)).toInt := by rw [W2871 10 (by decide)]
        have B2876 : sf_B 0 4 (m2866 13) := by rw [W2871 13 (by decide)]; exact B2856
        have ek2877 : (m2866 13).toInt = ((m2822 13)).toInt := by rw [W2871 13 (by decide)]
        have B2878 : sf_B 0 4 (m2866 17) := by rw [W2871 17 (by decide)]; exact (sf_eqT X2829 B2776)
        have ek2879 : (m2866 17).toInt = ((m2767 17)).toInt := by rw [W2871 17 (by decide)]; exact X2829
        have B2880 : sf_B 0 1 (m2866 22) := by rw [W2871 22 (by decide)]; exact (sf_eqT X2830 B2781)
        have ek2881 : (m2866 22).toInt = ((m2767 22)).toInt := by rw [W2871 22 (by decide)]; exact X2830
        have W2882 : rf_W [10, 12, 13, 14, 16, 17, 18, 22] m m2866 := W2854.trans W2871 (by decide)
        show pm_R _ 192 173 [.ref 41, .long a0, pm_no, .int a1, .int 0] [] _ _
        obtain ⟨f2883, e2884, ct2885, bd2886⟩ := X2872
        refine pm_R_op pm_M192 (pc_q := 174) (st_q := [.int 1]) (pm_q192_1 (Nat.le_of_ble_eq_true rfl)) rfl rfl ?_
        exact pm_R_ret pm_M192 (r := some (.int 1)) (pm_q192_1 (Nat.le_of_ble_eq_true rfl)) rfl (K1 m2866 w2867 h2868 T2869 F2873 W2882 (⟨f2883, e2884, ct2885, fun z => (bd2886 z)⟩) (sf_aux39 _ _ _ ek2875 R2859))
      · have F2887 := F2810.trans F2839 (by decide)
        have W2888 : rf_W [10, 12, 13, 14, 16, 17, 18, 22] m m2835 := W2778.trans W2840 (by decide)
        have B2889 : sf_B 0 600 (m2835 10) := T2838.2.2.1 10
        have B2890 : sf_B 0 4 (m2835 13) := T2838.2.2.1 13
        have B2891 : sf_B 0 4 (m2835 17) := T2838.2.2.1 17
        have B2892 : sf_B 0 1 (m2835 22) := T2838.2.2.1 22
        show pm_R _ 192 127 [.ref 41, .long a0, pm_no, .int a1, .int 0] [.int 1] _ _
        have R2893 : (m 10).toInt ≤ (m2835 10).toInt := (sf_aux70 _ _ _ R2782 X2843)
        obtain ⟨v2894, B2895, e2896⟩ := X2841 _ e2809
        refine pm_R_br pm_M192 (pc_q := 132) (st_q := []) (pm_q192_1 (Nat.le_of_ble_eq_true rfl)) rfl ?_
        refine pm_R_lo pm_M192 (pc_q := 134) (pm_q192_1 (Nat.le_of_ble_eq_true rfl)) rfl rfl ?_
        refine pm_R_op pm_M192 (pc_q := 135) (st_q := [.int 1, .int 0]) (pm_q192_1 (Nat.le_of_ble_eq_true rfl)) rfl rfl ?_
        refine pm_R_br pm_M192 (pc_q := 138) (st_q := []) (pm_q192_1 (Nat.le_of_ble_eq_true rfl)) rfl ?_
        refine pm_R_lo pm_M192 (pc_q := 140) (pm_q192_1 (Nat.le_of_ble_eq_true rfl)) rfl rfl ?_
        refine pm_R_op pm_M192 (pc_q := 141) (st_q := [.int 2, .int 0]) (pm_q192_1 (Nat.le_of_ble_eq_true rfl)) rfl rfl ?_
        refine pm_R_br pm_M192 (pc_q := 144) (st_q := []) (pm_q192_1 (Nat.le_of_ble_eq_true rfl)) rfl ?_
        refine pm_R_lo pm_M192 (pc_q := 146) (pm_q192_1 (Nat.le_of_ble_eq_true rfl)) rfl rfl ?_
        refine pm_R_op pm_M192 (pc_q := 147) (st_q := [.int 3, .int 0]) (pm_q192_1 (Nat.le_of_ble_eq_true rfl)) rfl rfl ?_
        refine pm_R_br pm_M192 (pc_q := 163) (st_q := []) (pm_q192_1 (Nat.le_of_ble_eq_true rfl)) rfl ?_
        refine pm_R_lo pm_M192 (pc_q := 164) (pm_q192_1 (Nat.le_of_ble_eq_true rfl)) rfl rfl ?_
        refine pm_R_op pm_M192 (pc_q := 165) (st_q := [.int 0, .ref 41]) (pm_q192_1 (Nat.le_of_ble_eq_true rfl)) rfl rfl ?_
        refine pm_R_op pm_M192 (pc_q := 166) (st_q := [.int 1, .int 0, .ref 41]) (pm_q192_1 (Nat.le_of_ble_eq_true rfl)) rfl rfl ?_
        refine pm_R_op pm_M192 (pc_q := 167) (st_q := [.int 3, .int 1, .int 0, .ref 41]) (pm_q192_1 (Nat.le_of_ble_eq_true rfl)) rfl rfl ?_
        refine pm_R_op pm_M192 (pc_q := 169) (st_q := [.int 8, .int 3, .int 1, .int 0, .ref 41]) (pm_q192_1 (Nat.le_of_ble_eq_true rfl)) rfl rfl ?_
        refine pm_R_op pm_M192 (pc_q := 170) (st_q := [.int 0, .int 8, .int 3, .int 1, .int 0, .ref 41]) (pm_q192_1 (Nat.le_of_ble_eq_true rfl)) rfl rfl ?_
        refine pm_R_cv pm_M192 (pc_q := 173) (a := 41) (ra := [.int 0, .int 8, .int 3, .int 1, .int 0]) (rest := []) (ls_q := [.ref 41, .int 0, .int 1, .int 3, .int 8, .int 0, pm_no, pm_no]) (pm_q192_1 (Nat.le_of_ble_eq_true rfl)) rfl (Or.inl rfl) pm_M185 T2838.2.1 rfl (by decide) (Nat.lt_of_lt_of_le (by decide) T2838.1) rfl rfl (Nat.le_of_ble_eq_true rfl) rfl rfl ?_
        have e2897 := (F2839.cell (by decide) (F2808.cell (by decide) (F2803.cell (by decide) (F2798.cell (by decide) (F2793.cell (by decide) (F2788.cell (by decide) (F2771.cell (by decide) e3)))))))
        refine rf_c185_l (d := d + 2) T2838 (⟨f2, e2897, ct4, fun z => (sf_pos B2844 (by decide) z)⟩) (fun z => sf_pos B2844 (by decide) z) (fun m2900 w2901 h2902 T2903 F2904 W2905 X2906 => ?_)
        have F2907 := F2887.trans F2904 (by decide)
        have B2908 : sf_B 0 600 (m2900 10) := by rw [W2905 10 (by decide)]; exact B2889
        have ek2909 : (m2900 10).toInt = ((m2835 10)).toInt := by rw [W2905 10 (by decide)]
        have B2910 : sf_B 0 4 (m2900 13) := by rw [W2905 13 (by decide)]; exact B2890
        have ek2911 : (m2900 13).toInt = ((m2835 13)).toInt := by rw [W2905 13 (by decide)]
        have B2912 : sf_B 1 4 (m2900 17) := by rw [W2905 17 (by decide)]; exact B2844
        have ek2913 : (m2900 17).toInt = ((m2835 17)).toInt := by rw [W2905 17 (by decide)]
        have B2914 : sf_B 0 0 (m2900 22) := by rw [W2905 22 (by decide)]; exact B2845
        have ek2915 : (m2900 22).toInt = ((m2835 22)).toInt := by rw [W2905 22 (by decide)]
        have W2916 : rf_W [10, 12, 13, 14, 16, 17, 18, 22] m m2900 := W2888.trans W2905 (by decide)
        show pm_R _ 192 173 [.ref 41, .long a0, pm_no, .int a1, .int 0] [] _ _
        obtain ⟨f2917, e2918, ct2919, bd2920⟩ := X2906
        refine pm_R_op pm_M192 (pc_q := 174) (st_q := [.int 1]) (pm_q192_1 (Nat.le_of_ble_eq_true rfl)) rfl rfl ?_
        exact pm_R_ret pm_M192 (r := some (.int 1)) (pm_q192_1 (Nat.le_of_ble_eq_true rfl)) rfl (K1 m2900 w2901 h2902 T2903 F2907 W2916 (⟨f2917, e2918, ct2919, fun z => (sf_pos B2912 (by decide) z)⟩) (sf_aux39 _ _ _ ek2909 R2893))
    · have B2921 : sf_B 8 8 (f2 0) := sf_eqL (Classical.not_not.mp c2763) sf_k8
      refine pm_R_lo pm_M192 (pc_q := 98) rfl rfl rfl ?_
      refine pm_R_op pm_M192 (pc_q := 99) (st_q := [.int 3, .ref 41]) rfl rfl rfl ?_
      refine pm_R_lo pm_M192 (pc_q := 100) rfl rfl rfl ?_
      refine pm_R_cv pm_M192 (pc_q := 103) (a := 41) (ra := [.int a1, .int 3]) (rest := []) (ls_q := [.ref 41, .int 3, .int a1]) rfl rfl (Or.inl rfl) pm_M182 T.2.1 rfl (by decide) (Nat.lt_of_lt_of_le (by decide) T.1) rfl rfl (Nat.le_of_ble_eq_true rfl) rfl rfl ?_
      refine rf_c182 (d := d + 2) T (sf_weak sf_k3 (by decide) (by decide)) Ba1 (fun m2924 w2925 h2926 T2927 F2928 W2929 B2930 => ?_)
      have F2931 := (rf_G.refl [41, 51, 52] h).trans F2928 (by decide)
      have B2932 : sf_B 0 600 (m2924 10) := by rw [W2929 10 (by decide)]; exact B1
      have ek2933 : (m2924 10).toInt = ((m 10)).toInt := by rw [W2929 10 (by decide)]
      have W2934 : rf_W [10, 12, 13, 14, 16, 17, 18, 22] m m2924 := (rf_W.refl [10, 12, 13, 14, 16, 17, 18, 22] m).trans W2929 (by decide)
      have B2935 : sf_B 0 4 (m2924 13) := T2927.2.2.1 13
      have B2936 : sf_B 0 4 (m2924 17) := T2927.2.2.1 17
      have B2937 : sf_B 0 1 (m2924 22) := T2927.2.2.1 22
      show pm_R _ 192 103 [.ref 41, .long a0, pm_no, .int a1, .int 0] [] _ _
      refine pm_R_lo pm_M192 (pc_q := 104) rfl rfl rfl ?_
      refine pm_R_cv pm_M192 (pc_q := 107) (a := 41) (ra := []) (rest := []) (ls_q := [.ref 41, pm_no, pm_no]) rfl rfl (Or.inl rfl) pm_M179 T2927.2.1 rfl (by decide) (Nat.lt_of_lt_of_le (by decide) T2927.1) rfl rfl (Nat.le_of_ble_eq_true rfl) rfl rfl ?_
      refine rf_c179 (d := d + 1) T2927  (fun m2940 w2941 h2942 T2943 F2944 W2945 X2946 X2947 => ?_)
      have F2948 := F2931.trans F2944 (by decide)
      have B2949 : sf_B 1 4 (m2940 17) := by rw [W2945 17 (by decide)]; exact B2930
      have ek2950 : (m2940 17).toInt = ((m2924 17)).toInt := by rw [W2945 17 (by decide)]
      have B2951 : sf_B 0 1 (m2940 22) := by rw [W2945 22 (by decide)]; exact B2937
      have ek2952 : (m2940 22).toInt = ((m2924 22)).toInt := by rw [W2945 22 (by decide)]
      have W2953 : rf_W [10, 12, 13, 14, 16, 17, 18, 22] m m2940 := W2934.trans W2945 (by decide)
      have B2954 : sf_B 0 600 (m2940 10) := T2943.2.2.1 10
      have B2955 : sf_B 0 4 (m2940 13) := T2943.2.2.1 13
      show pm_R _ 192 107 [.ref 41, .long a0, pm_no, .int a1, .int 0] [] _ _
      have R2956 : (m 10).toInt ≤ (m2940 10).toInt := (sf_aux53 _ _ _ ek2933 X2946)
      refine pm_R_lo pm_M192 (pc_q := 108) rfl rfl rfl ?_
      refine pm_R_cv pm_M192 (pc_q := 111) (a := 41) (ra := []) (rest := []) (ls_q := [.ref 41, pm_no]) rfl rfl (Or.inl rfl) pm_M190 T2943.2.1 rfl (by decide) (Nat.lt_of_lt_of_le (by decide) T2943.1) rfl rfl (Nat.le_of_ble_eq_true rfl) rfl rfl ?_
      refine pm_R_op pm_M190 (pc_q := 1) (st_q := [.int 0]) rfl rfl rfl ?_
      refine pm_R_lo pm_M190 (pc_q := 2) (ls_q := [.ref 41, .int 0]) (st_q := []) rfl rfl rfl ?_
      refine pm_R_lo pm_M190 (pc_q := 3) rfl rfl rfl ?_
      refine pm_R_op pm_M190 (pc_q := 4) (st_q := [.int 4, .int 0]) rfl rfl rfl ?_
      refine pm_R_br pm_M190 (pc_q := 7) (st_q := []) rfl rfl ?_
      refine pm_R_lo pm_M190 (pc_q := 8) rfl rfl rfl ?_
      refine rf_R_get pm_M190 T2943 (pc_q := 11) (v := .ref 52) rfl rfl rfl rfl ?_
      refine pm_R_lo pm_M190 (pc_q := 12) rfl rfl rfl ?_
      refine pm_R_op pm_M190 (pc_q := 13) (st_q := [.int (-1), .int 0, .ref 52]) rfl rfl rfl ?_
      obtain ⟨f2957, e2958, b2959⟩ := T2943.2.2.2.1 52 (by decide) (by decide)
      refine rf_R_ist pm_M190 T2943 (pc_q := 14) rfl e2958 (by decide) (by decide) rfl ⟨_, rfl, sf_upd b2959 (sf_weak sf_kn1 (by decide) (by decide)) _⟩ rfl (fun h2960 T2961 F2962 e2963 => ?_)
      have F2964 := F2948.trans F2962 (by decide)
      refine pm_R_lo pm_M190 (pc_q := 17) (ls_q := [.ref 41, .int 1]) (st_q := []) rfl rfl rfl ?_
      refine pm_R_br pm_M190 (pc_q := 2) rfl rfl ?_
      refine pm_R_lo pm_M190 (pc_q := 3) rfl rfl rfl ?_
      refine pm_R_op pm_M190 (pc_q := 4) (st_q := [.int 4, .int 1]) rfl rfl rfl ?_
      refine pm_R_br pm_M190 (pc_q := 7) (st_q := []) rfl rfl ?_
      refine pm_R_lo pm_M190 (pc_q := 8) rfl rfl rfl ?_
      refine rf_R_get pm_M190 T2961 (pc_q := 11) (v := .ref 52) rfl rfl rfl rfl ?_
      refine pm_R_lo pm_M190 (pc_q := 12) rfl rfl rfl ?_
      refine pm_R_op pm_M190 (pc_q := 13) (st_q := [.int (-1), .int 1, .ref 52]) rfl rfl rfl ?_
      refine rf_R_ist pm_M190 T2961 (pc_q := 14) rfl e2963 (by decide) (by decide) rfl ⟨_, rfl, sf_upd (sf_upd b2959 (sf_weak sf_kn1 (by decide) (by decide)) _) (sf_weak sf_kn1 (by decide) (by decide)) _⟩ rfl (fun h2965 T2966 F2967 e2968 => ?_)
      have F2969 := F2964.trans F2967 (by decide)
      refine pm_R_lo pm_M190 (pc_q := 17) (ls_q := [.ref 41, .int 2]) (st_q := []) rfl rfl rfl ?_
      refine pm_R_br pm_M190 (pc_q := 2) rfl rfl ?_
      refine pm_R_lo pm_M190 (pc_q := 3) rfl rfl rfl ?_
      refine pm_R_op pm_M190 (pc_q := 4) (st_q := [.int 4, .int 2]) rfl rfl rfl ?_
      refine pm_R_br pm_M190 (pc_q := 7) (st_q := []) rfl rfl ?_
      refine pm_R_lo pm_M190 (pc_q := 8) rfl rfl rfl ?_
      refine rf_R_get pm_M190 T2966 (pc_q := 11) (v := .ref 52) rfl rfl rfl rfl ?_
      refine pm_R_lo pm_M190 (pc_q := 12) rfl rfl rfl ?_
      refine pm_R_op pm_M190 (pc_q := 13) (st_q := [.int (-1), .int 2, .ref 52]) rfl rfl rfl ?_
      refine rf_R_ist pm_M190 T2966 (pc_q := 14) rfl e2968 (by decide) (by decide) rfl ⟨_, rfl, sf_upd (sf_upd (sf_upd b2959 (sf_weak sf_kn1 (by decide) (by decide)) _) (sf_weak sf_kn1 (by decide) (by decide)) _) (sf_weak sf_kn1 (by decide) (by decide)) _⟩ rfl (fun h2970 T2971 F2972 e2973 => ?_)
      have F2974 := F2969.trans F2972 (by decide)
      refine pm_R_lo pm_M190 (pc_q := 17) (ls_q := [.ref 41, .int 3]) (st_q := []) rfl rfl rfl ?_
      refine pm_R_br pm_M190 (pc_q := 2) rfl rfl ?_
      refine pm_R_lo pm_M190 (pc_q := 3) rfl rfl rfl ?_
      refine pm_R_op pm_M190 (pc_q := 4) (st_q := [.int 4, .int 3]) rfl rfl rfl ?_
      refine pm_R_br pm_M190 (pc_q := 7) (st_q := []) rfl rfl ?_
      refine pm_R_lo pm_M190 (pc_q := 8) rfl rfl rfl ?_
      refine rf_R_get pm_M190 T2971 (pc_q := 11) (v := .ref 52) rfl rfl rfl rfl ?_
      refine pm_R_lo pm_M190 (pc_q := 12) rfl rfl rfl ?_
      refine pm_R_op pm_M190 (pc_q := 13) (st_q := [.int (-1), .int 3, .ref 52]) rfl rfl rfl ?_
      refine rf_R_ist pm_M190 T2971 (pc_q := 14) rfl e2973 (by decide) (by decide) rfl ⟨_, rfl, sf_upd (sf_upd (sf_upd (sf_upd b2959 (sf_weak sf_kn1 (by decide) (by decide)) _) (sf_weak sf_kn1 (by decide) (by decide)) _) (sf_weak sf_kn1 (by decide) (by decide)) _) (sf_weak sf_kn1 (by decide) (by decide)) _⟩ rfl (fun h2975 T2976 F2977 e2978 => ?_)
      have F2979 := F2974.trans F2977 (by decide)
      refine pm_R_lo pm_M190 (pc_q := 17) (ls_q := [.ref 41, .int 4]) (st_q := []) rfl rfl rfl ?_
      refine pm_R_br pm_M190 (pc_q := 2) rfl rfl ?_
      refine pm_R_lo pm_M190 (pc_q := 3) rfl rfl rfl ?_
      refine pm_R_op pm_M190 (pc_q := 4) (st_q := [.int 4, .int 4]) rfl rfl rfl ?_
      refine pm_R_br pm_M190 (pc_q := 20) (st_q := []) rfl rfl ?_
      refine pm_R_ret pm_M190 (r := none) rfl rfl ?_
      show pm_R _ 192 111 [.ref 41, .long a0, pm_no, .int a1, .int 0] [] _ _
      refine pm_R_lo pm_M192 (pc_q := 112) rfl rfl rfl ?_
      refine rf_R_get pm_M192 T2976 (pc_q := 115) (v := .ref 52) rfl rfl rfl rfl ?_
      refine pm_R_op pm_M192 (pc_q := 116) (st_q := [.int 0, .ref 52]) (pm_q192_1 (Nat.le_of_ble_eq_true rfl)) rfl rfl ?_
      refine pm_R_lo pm_M192 (pc_q := 118) (pm_q192_1 (Nat.le_of_ble_eq_true rfl)) rfl rfl ?_
      refine rf_R_ist pm_M192 T2976 (pc_q := 119) (pm_q192_1 (Nat.le_of_ble_eq_true rfl)) e2978 (by decide) (by decide) rfl ⟨_, rfl, sf_upd (sf_upd (sf_upd (sf_upd (sf_upd b2959 (sf_weak sf_kn1 (by decide) (by decide)) _) (sf_weak sf_kn1 (by decide) (by decide)) _) (sf_weak sf_kn1 (by decide) (by decide)) _) (sf_weak sf_kn1 (by decide) (by decide)) _) (sf_weak sf_k0 (by decide) (by decide)) _⟩ rfl (fun h2980 T2981 F2982 e2983 => ?_)
      have F2984 := F2979.trans F2982 (by decide)
      refine pm_R_lo pm_M192 (pc_q := 120) (pm_q192_1 (Nat.le_of_ble_eq_true rfl)) rfl rfl ?_
      refine pm_R_op pm_M192 (pc_q := 121) (st_q := [.int 1, .ref 41]) (pm_q192_1 (Nat.le_of_ble_eq_true rfl)) rfl rfl ?_
      refine pm_R_op pm_M192 (pc_q := 123) (st_q := [.int 9, .int 1, .ref 41]) (pm_q192_1 (Nat.le_of_ble_eq_true rfl)) rfl rfl ?_
      refine pm_R_op pm_M192 (pc_q := 124) (st_q := [.int (-1), .int 9, .int 1, .ref 41]) (pm_q192_1 (Nat.le_of_ble_eq_true rfl)) rfl rfl ?_
      refine pm_R_cv pm_M192 (pc_q := 127) (a := 41) (ra := [.int (-1), .int 9, .int 1]) (rest := []) (ls_q := [.ref 41, .int 1, .int 9, .int (-1)]) (pm_q192_1 (Nat.le_of_ble_eq_true rfl)) rfl (Or.inl rfl) pm_M183 T2981.2.1 rfl (by decide) (Nat.lt_of_lt_of_le (by decide) T2981.1) rfl rfl (Nat.le_of_ble_eq_true rfl) rfl rfl ?_
      refine rf_c183_1_9 (d := d + 0) T2981  (fun m2987 w2988 h2989 T2990 F2991 W2992 X2993 => ?_) (fun m2996 w2997 h2998 T2999 F3000 W3001 X3002 X3003 X3004 X3005 X3006 => ?_) (fun m3009 w3010 h3011 T3012 F3013 W3014 X3015 X3016 X3017 B3018 B3019 => ?_)
      · have F3020 := F2984.trans F2991 (by decide)
        have W3021 : rf_W [10, 12, 13, 14, 16, 17, 18, 22] m m2987 := W2953.trans W2992 (by decide)
        have B3022 : sf_B 0 600 (m2987 10) := T2990.2.2.1 10
        have B3023 : sf_B 0 4 (m2987 13) := T2990.2.2.1 13
        have B3024 : sf_B 0 4 (m2987 17) := T2990.2.2.1 17
        have B3025 : sf_B 0 1 (m2987 22) := T2990.2.2.1 22
        show pm_R _ 192 127 [.ref 41, .long a0, pm_no, .int a1, .int 0] [.int 0] _ _
        have R3026 : (m 10).toInt ≤ (m2987 10).toInt := (sf_aux70 _ _ _ R2956 X2993)
        refine pm_R_br pm_M192 (pc_q := 130) (st_q := []) (pm_q192_1 (Nat.le_of_ble_eq_true rfl)) rfl ?_
        refine pm_R_op pm_M192 (pc_q := 131) (st_q := [.int 0]) (pm_q192_1 (Nat.le_of_ble_eq_true rfl)) rfl rfl ?_
        exact pm_R_ret pm_M192 (r := some (.int 0)) (pm_q192_1 (Nat.le_of_ble_eq_true rfl)) rfl (K0 m2987 w2988 h2989 T2990 F3020 W3021 (sf_aux51 _ _ R3026))
      · have F3027 := F2984.trans F3000 (by decide)
        have W3028 : rf_W [10, 12, 13, 14, 16, 17, 18, 22] m m2996 := W2953.trans W3001 (by decide)
        have B3029 : sf_B 0 600 (m2996 10) := T2999.2.2.1 10
        have B3030 : sf_B 0 4 (m2996 13) := T2999.2.2.1 13
        have B3031 : sf_B 0 4 (m2996 17) := T2999.2.2.1 17
        have B3032 : sf_B 0 1 (m2996 22) := T2999.2.2.1 22
        show pm_R _ 192 127 [.ref 41, .long a0, pm_no, .int a1, .int 0] [.int 1] _ _
        have R3033 : (m 10).toInt ≤ (m2996 10).toInt := (sf_aux70 _ _ _ R2956 X3006)
        obtain ⟨v3034, B3035, e3036⟩ := X3002 _ e2983
        refine pm_R_br pm_M192 (pc_q := 132) (st_q := []) (pm_q192_1 (Nat.le_of_ble_eq_true rfl)) rfl ?_
        refine pm_R_lo pm_M192 (pc_q := 134) (pm_q192_1 (Nat.le_of_ble_eq_true rfl)) rfl rfl ?_
        refine pm_R_op pm_M192 (pc_q := 135) (st_q := [.int 1, .int 0]) (pm_q192_1 (Nat.le_of_ble_eq_true rfl)) rfl rfl ?_
        refine pm_R_br pm_M192 (pc_q := 138) (st_q := []) (pm_q192_1 (Nat.le_of_ble_eq_true rfl)) rfl ?_
        refine pm_R_lo pm_M192 (pc_q := 140) (pm_q192_1 (Nat.le_of_ble_eq_true rfl)) rfl rfl ?_
        refine pm_R_op pm_M192 (pc_q := 141) (st_q := [.int 2, .int 0]) (pm_q192_1 (Nat.le_of_ble_eq_true rfl)) rfl rfl ?_
        refine pm_R_br pm_M192 (pc_q := 144) (st_q := []) (pm_q192_1 (Nat.le_of_ble_eq_true rfl)) rfl ?_
        refine pm_R_lo pm_M192 (pc_q := 146) (pm_q192_1 (Nat.le_of_ble_eq_true rfl)) rfl rfl ?_
        refine pm_R_op pm_M192 (pc_q := 147) (st_q := [.int 3, .int 0]) (pm_q192_1 (Nat.le_of_ble_eq_true rfl)) rfl rfl ?_
        refine pm_R_br pm_M192 (pc_q := 163) (st_q := []) (pm_q192_1 (Nat.le_of_ble_eq_true rfl)) rfl ?_
        refine pm_R_lo pm_M192 (pc_q := 164) (pm_q192_1 (Nat.le_of_ble_eq_true rfl)) rfl rfl ?_
        refine pm_R_op pm_M192 (pc_q := 165) (st_q := [.int 0, .ref 41]) (pm_q192_1 (Nat.le_of_ble_eq_true rfl)) rfl rfl ?_
        refine pm_R_op pm_M192 (pc_q := 166) (st_q := [.int 1, .int 0, .ref 41]) (pm_q192_1 (Nat.le_of_ble_eq_true rfl)) rfl rfl ?_
        refine pm_R_op pm_M192 (pc_q := 167) (st_q := [.int 3, .int 1, .int 0, .ref 41]) (pm_q192_1 (Nat.le_of_ble_eq_true rfl)) rfl rfl ?_
        refine pm_R_op pm_M192 (pc_q := 169) (st_q := [.int 8, .int 3, .int 1, .int 0, .ref 41]) (pm_q192_1 (Nat.le_of_ble_eq_true rfl)) rfl rfl ?_
        refine pm_R_op pm_M192 (pc_q := 170) (st_q := [.int 0, .int 8, .int 3, .int 1, .int 0, .ref 41]) (pm_q192_1 (Nat.le_of_ble_eq_true rfl)) rfl rfl ?_
        refine pm_R_cv pm_M192 (pc_q := 173) (a := 41) (ra := [.int 0, .int 8, .int 3, .int 1, .int 0]) (rest := []) (ls_q := [.ref 41, .int 0, .int 1, .int 3, .int 8, .int 0, pm_no, pm_no]) (pm_q192_1 (Nat.le_of_ble_eq_true rfl)) rfl (Or.inl rfl) pm_M185 T2999.2.1 rfl (by decide) (Nat.lt_of_lt_of_le (by decide) T2999.1) rfl rfl (Nat.le_of_ble_eq_true rfl) rfl rfl ?_
        have e3037 := (F3000.cell (by decide) (F2982.cell (by decide) (F2977.cell (by decide) (F2972.cell (by decide) (F2967.cell (by decide) (F2962.cell (by decide) (F2944.cell (by decide) (F2928.cell (by decide) e3))))))))
        refine rf_c185_l (d := d + 2) T2999 (⟨f2, e3037, ct4, fun z => (sf_pos (sf_eqT X3003 B2949) (by decide) z)⟩) (fun z => sf_pos (sf_eqT X3003 B2949) (by decide) z) (fun m3040 w3041 h3042 T3043 F3044 W3045 X3046 => ?_)
        have F3047 := F3027.trans F3044 (by decide)
        have B3048 : sf_B 0 600 (m3040 10) := by rw [W3045 10 (by decide)]; exact B3029
        have ek3049 : (m3040 10).toInt = ((m2996 10)).toInt := by rw [W3045 10 (by decide)]
        have B3050 : sf_B 0 4 (m3040 13) := by rw [W3045 13 (by decide)]; exact B3030
        have ek3051 : (m3040 13).toInt = ((m2996 13)).toInt := by rw [W3045 13 (by decide)]
        have B3052 : sf_B 1 4 (m3040 17) := by rw [W3045 17 (by decide)]; exact (sf_eqT X3003 B2949)
        have ek3053 : (m3040 17).toInt = ((m2940 17)).toInt := by rw [W3045 17 (by decide)]; exact X3003
        have B3054 : sf_B 0 1 (m3040 22) := by rw [W3045 22 (by decide)]; exact (sf_eqT X3004 B2951)
        have ek3055 : (m3040 22).toInt = ((m2940 22)).toInt := by rw [W3045 22 (by decide)]; exact X3004
        have W3056 : rf_W [10, 12, 13, 14, 16, 17, 18, 22] m m3040 := W3028.trans W3045 (by decide)
        show pm_R _ 192 173 [.ref 41, .long a0, pm_no, .int a1, .int 0] [] _ _
        obtain ⟨f3057, e3058, ct3059, bd3060⟩ := X3046
        refine pm_R_op pm_M192 (pc_q := 174) (st_q := [.int 1]) (pm_q192_1 (Nat.le_of_ble_eq_true rfl)) rfl rfl ?_
        exact pm_R_ret pm_M192 (r := some (.int 1)) (pm_q192_1 (Nat.le_of_ble_eq_true rfl)) rfl (K1 m3040 w3041 h3042 T3043 F3047 W3056 (⟨f3057, e3058, ct3059, fun z => (sf_pos B3052 (by decide) z)⟩) (sf_aux39 _ _ _ ek3049 R3033))
      · have F3061 := F2984.trans F3013 (by decide)
        have W3062 : rf_W [10, 12, 13, 14, 16, 17, 18, 22] m m3009 := W2953.trans W3014 (by decide)
        have B3063 : sf_B 0 600 (m3009 10) := T3012.2.2.1 10
        have B3064 : sf_B 0 4 (m3009 13) := T3012.2.2.1 13
        have B3065 : sf_B 0 4 (m3009 17) := T3012.2.2.1 17
        have B3066 : sf_B 0 1 (m3009 22) := T3012.2.2.1 22
        show pm_R _ 192 127 [.ref 41, .long a0, pm_no, .int a1, .int 0] [.int 1] _ _
        have R3067 : (m 10).toInt ≤ (m3009 10).toInt := (sf_aux70 _ _ _ R2956 X3017)
        obtain ⟨v3068, B3069, e3070⟩ := X3015 _ e2983
        refine pm_R_br pm_M192 (pc_q := 132) (st_q := []) (pm_q192_1 (Nat.le_of_ble_eq_true rfl)) rfl ?_
        refine pm_R_lo pm_M192 (pc_q := 134) (pm_q192_1 (Nat.le_of_ble_eq_true rfl)) rfl rfl ?_
        refine pm_R_op pm_M192 (pc_q := 135) (st_q := [.int 1, .int 0]) (pm_q192_1 (Nat.le_of_ble_eq_true rfl)) rfl rfl ?_
        refine pm_R_br pm_M192 (pc_q := 138) (st_q := []) (pm_q192_1 (Nat.le_of_ble_eq_true rfl)) rfl ?_
        refine pm_R_lo pm_M192 (pc_q := 140) (pm_q192_1 (Nat.le_of_ble_eq_true rfl)) rfl rfl ?_
        refine pm_R_op pm_M192 (pc_q := 141) (st_q := [.int 2, .int 0]) (pm_q192_1 (Nat.le_of_ble_eq_true rfl)) rfl rfl ?_
        refine pm_R_br pm_M192 (pc_q := 144) (st_q := []) (pm_q192_1 (Nat.le_of_ble_eq_true rfl)) rfl ?_
        refine pm_R_lo pm_M192 (pc_q := 146) (pm_q192_1 (Nat.le_of_ble_eq_true rfl)) rfl rfl ?_
        refine pm_R_op pm_M192 (pc_q := 147) (st_q := [.int 3, .int 0]) (pm_q192_1 (Nat.le_of_ble_eq_true rfl)) rfl rfl ?_
        refine pm_R_br pm_M192 (pc_q := 163) (st_q := []) (pm_q192_1 (Nat.le_of_ble_eq_true rfl)) rfl ?_
        refine pm_R_lo pm_M192 (pc_q := 164) (pm_q192_1 (Nat.le_of_ble_eq_true rfl)) rfl rfl ?_
        refine pm_R_op pm_M192 (pc_q := 165) (st_q := [.int 0, .ref 41]) (pm_q192_1 (Nat.le_of_ble_eq_true rfl)) rfl rfl ?_
        refine pm_R_op pm_M192 (pc_q := 166) (st_q := [.int 1, .int 0, .ref 41]) (pm_q192_1 (Nat.le_of_ble_eq_true rfl)) rfl rfl ?_
        refine pm_R_op pm_M192 (pc_q := 167) (st_q := [.int 3, .int 1, .int 0, .ref 41]) (pm_q192_1 (Nat.le_of_ble_eq_true rfl)) rfl rfl ?_
        refine pm_R_op pm_M192 (pc_q := 169) (st_q := [.int 8, .int 3, .int 1, .int 0, .ref 41]) (pm_q192_1 (Nat.le_of_ble_eq_true rfl)) rfl rfl ?_
        refine pm_R_op pm_M192 (pc_q := 170) (st_q := [.int 0, .int 8, .int 3, .int 1, .int 0, .ref 41]) (pm_q192_1 (Nat.le_of_ble_eq_true rfl)) rfl rfl ?_
        refine pm_R_cv pm_M192 (pc_q := 173) (a := 41) (ra := [.int 0, .int 8, .int 3, .int 1, .int 0]) (rest := []) (ls_q := [.ref 41, .int 0, .int 1, .int 3, .int 8, .int 0, pm_no, pm_no]) (pm_q192_1 (Nat.le_of_ble_eq_true rfl)) rfl (Or.inl rfl) pm_M185 T3012.2.1 rfl (by decide) (Nat.lt_of_lt_of_le (by decide) T3012.1) rfl rfl (Nat.le_of_ble_eq_true rfl) rfl rfl ?_
        have e3071 := (F3013.cell (by decide) (F2982.cell (by decide) (F2977.cell (by decide) (F2972.cell (by decide) (F2967.cell (by decide) (F2962.cell (by decide) (F2944.cell (by decide) (F2928.cell (by decide) e3))))))))
        refine rf_c185_l (d := d + 2) T3012 (⟨f2, e3071, ct4, fun z => (sf_pos B3018 (by decide) z)⟩) (fun z => sf_pos B3018 (by decide) z) (fun m3074 w3075 h3076 T3077 F3078 W3079 X3080 => ?_)
        have F3081 := F3061.trans F3078 (by decide)
        have B3082 : sf_B 0 600 (m3074 10) := by rw [W3079 10 (by decide)]; exact B3063
        have ek3083 : (m3074 10).toInt = ((m3009 10)).toInt := by rw [W3079 10 (by decide)]
        have B3084 : sf_B 0 4 (m3074 13) := by rw [W3079 13 (by decide)]; exact B3064
        have ek3085 : (m3074 13).toInt = ((m3009 13)).toInt := by rw [W3079 13 (by decide)]
        have B3086 : sf_B 1 4 (m3074 17) := by rw [W3079 17 (by decide)]; exact B3018
        have ek3087 : (m3074 17).toInt = ((m3009 17)).toInt := by rw [W3079 17 (by decide)]
        have B3088 : sf_B 0 0 (m3074 22) := by rw [W3079 22 (by decide)]; exact B3019
        have ek3089 : (m3074 22).toInt = ((m3009 22)).toInt := by rw [W3079 22 (by decide)]
        have W3090 : rf_W [10, 12, 13, 14, 16, 17, 18, 22] m m3074 := W3062.trans W3079 (by decide)
        show pm_R _ 192 173 [.ref 41, .long a0, pm_no, .int a1, .int 0] [] _ _
        obtain ⟨f3091, e3092, ct3093, bd3094⟩ := X3080
        refine pm_R_op pm_M192 (pc_q := 174) (st_q := [.int 1]) (pm_q192_1 (Nat.le_of_ble_eq_true rfl)) rfl rfl ?_
        exact pm_R_ret pm_M192 (r := some (.int 1)) (pm_q192_1 (Nat.le_of_ble_eq_true rfl)) rfl (K1 m3074 w3075 h3076 T3077 F3081 W3090 (⟨f3091, e3092, ct3093, fun z => (sf_pos B3086 (by decide) z)⟩) (sf_aux39 _ _ _ ek3083 R3067))
