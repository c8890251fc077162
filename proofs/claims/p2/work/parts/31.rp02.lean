theorem sf_aux119 (v0 v1 v2 v3 : Int) (q0 : v0 = 3 * v1) (q1 : v2 = 1 + v0) (q2 : v3 = v2 + 0) : v3 = 1 + 3 * v1 + 0 := by omega
theorem sf_aux120 (v0 v1 v2 v3 : Int) (q0 : v0 = 3 * v1) (q1 : v2 = 1 + v0) (q2 : v3 = v2 + 1) : v3 = 1 + 3 * v1 + 1 := by omega
theorem sf_aux121 (v0 v1 v2 v3 : Int) (q0 : v0 = 3 * v1) (q1 : v2 = 1 + v0) (q2 : v3 = v2 + 2) : v3 = 1 + 3 * v1 + 2 := by omega
theorem sf_aux122 (v0 v1 v2 v3 v4 : Int) (q0 : v0 ≤ v1) (q1 : v2 ≤ v3) : v4 ≤ v3 := by omega
theorem sf_aux123 (v0 v1 v2 v3 : Int) (q0 : v0 ≤ v1) (q1 : v1 ≤ v2) : v3 ≤ v2 := by omega
theorem sf_aux124 (v0 v1 v2 v3 v4 v5 : Int) (q0 : v0 ≤ v1) (q1 : v2 ≤ v3) (q2 : v3 ≤ v4) : v5 ≤ v4 := by omega
theorem sf_aux125 (v0 v1 v2 v3 v4 : Int) (q0 : v0 ≤ v1) (q1 : v1 ≤ v2) (q2 : v2 ≤ v3) : v4 ≤ v3 := by omega
set_option maxRecDepth 100000 in
set_option maxHeartbeats 4000000 in
/-- SilentTableModel.houseLine -/
theorem rf_c192 {d : Nat} {m : Nat → Int32} {w : Int64} {h : pm_H} {Q : Option Value → pm_H → Prop} {a0 : Int64} {a1 : Int32} (T : rf_T m w h) (Ba1 : sf_B 0 600 a1) (X : rf_I 3 (m 17) h) (K0 : ∀ (m' : Nat → Int32) (w' : Int64) (h' : pm_H), rf_T m' w' h' → rf_G [41, 51, 52] h h' → rf_W [10, 12, 13, 14, 16, 17, 18, 22] m m' → (m 10).toInt ≤ (m' 10).toInt → Q (some (.int 0)) h') (K1 : ∀ (m' : Nat → Int32) (w' : Int64) (h' : pm_H), rf_T m' w' h' → rf_G [41, 51, 52] h h' → rf_W [10, 12, 13, 14, 16, 17, 18, 22] m m' → rf_I 3 (m' 17) h' → (m 10).toInt ≤ (m' 10).toInt → Q (some (.int 1)) h') : pm_R (d + 3) 192 0 [.ref 41, .long a0, pm_no, .int a1, pm_no] [] h Q := by
  have B1 : sf_B 0 600 (m 10) := T.2.2.1 10
  obtain ⟨f2, e3, ct4, bd5⟩ := X
  have B6 : sf_B 0 4 (m 17) := T.2.2.1 17
  refine pm_R_lo pm_M192 (pc' := 1) rfl rfl rfl ?_
  refine pm_R_ldc2 pm_M192 (pc' := 4) rfl rfl rfl ?_
  refine sf_R_lcmp pm_M192 (pc' := 5) rfl rfl (fun z7 e8 => ?_)
  refine pm_R_ifc pm_M192 (t := 12) (pc' := 8) rfl rfl rfl (fun c9 => ?_) (fun c9 => ?_)
  · have k10 := sf_lneC e8 c9
    refine pm_R_lo pm_M192 (pc' := 13) rfl rfl rfl ?_
    refine pm_R_ldc2 pm_M192 (pc' := 16) rfl rfl rfl ?_
    refine sf_R_lcmp pm_M192 (pc' := 17) rfl rfl (fun z11 e12 => ?_)
    refine pm_R_ifc pm_M192 (t := 24) (pc' := 20) rfl rfl rfl (fun c13 => ?_) (fun c13 => ?_)
    · have k14 := sf_lneC e12 c13
      refine pm_R_lo pm_M192 (pc' := 25) rfl rfl rfl ?_
      refine pm_R_ldc2 pm_M192 (pc' := 28) rfl rfl rfl ?_
      refine sf_R_lcmp pm_M192 (pc' := 29) rfl rfl (fun z15 e16 => ?_)
      refine pm_R_ifc pm_M192 (t := 36) (pc' := 32) rfl rfl rfl (fun c17 => ?_) (fun c17 => ?_)
      · have k18 := sf_lneC e16 c17
        refine pm_R_lo pm_M192 (pc' := 37) rfl rfl rfl ?_
        refine pm_R_ldc2 pm_M192 (pc' := 40) rfl rfl rfl ?_
        refine sf_R_lcmp pm_M192 (pc' := 41) rfl rfl (fun z19 e20 => ?_)
        refine pm_R_ifc pm_M192 (t := 48) (pc' := 44) rfl rfl rfl (fun c21 => ?_) (fun c21 => ?_)
        · have k22 := sf_lneC e20 c21
          refine pm_R_lo pm_M192 (pc' := 49) rfl rfl rfl ?_
          refine pm_R_ldc2 pm_M192 (pc' := 52) rfl rfl rfl ?_
          refine sf_R_lcmp pm_M192 (pc' := 53) rfl rfl (fun z23 e24 => ?_)
          refine pm_R_ifc pm_M192 (t := 60) (pc' := 56) rfl rfl rfl (fun c25 => ?_) (fun c25 => ?_)
          · have k26 := sf_lneC e24 c25
            refine pm_R_lo pm_M192 (pc' := 61) rfl rfl rfl ?_
            refine pm_R_ldc2 pm_M192 (pc' := 64) rfl rfl rfl ?_
            refine sf_R_lcmp pm_M192 (pc' := 65) rfl rfl (fun z27 e28 => ?_)
            refine pm_R_ifc pm_M192 (t := 72) (pc' := 68) rfl rfl rfl (fun c29 => ?_) (fun c29 => ?_)
            · have k30 := sf_lneC e28 c29
              refine pm_R_op pm_M192 (pc' := 73) (st' := [.int (-1)]) rfl rfl rfl ?_
              refine pm_R_lo pm_M192 (pc' := 75) (ls' := [.ref 41, .long a0, pm_no, .int a1, .int (-1)]) (st' := []) rfl rfl rfl ?_
              refine pm_R_lo pm_M192 (pc' := 77) rfl rfl rfl ?_
              refine pm_R_op pm_M192 (pc' := 78) (st' := [.int (-1), .int (-1)]) rfl rfl rfl ?_
              refine pm_R_br pm_M192 (pc' := 81) (st' := []) rfl rfl ?_
              refine pm_R_lo pm_M192 (pc' := 82) rfl rfl rfl ?_
              refine pm_R_cv pm_M192 (pc' := 85) (a := 41) (ra := []) (rest := []) (ls' := [.ref 41]) rfl rfl (Or.inl rfl) pm_M184 T.2.1 rfl (by decide) (Nat.lt_of_lt_of_le (by decide) T.1) rfl rfl (Nat.le_of_ble_eq_true rfl) rfl rfl ?_
              refine pm_R_lo pm_M184 (pc' := 1) rfl rfl rfl ?_
              refine pm_R_lo pm_M184 (pc' := 2) rfl rfl rfl ?_
              have B31 : sf_B 0 600 (m 12) := T.2.2.1 12
              refine rf_R_get pm_M184 T (pc' := 5) (v := .int (m 12)) rfl rfl rfl rfl ?_
              refine rf_R_put pm_M184 T (pc' := 8) rfl rfl rfl (by decide) rfl rfl B31 rfl rfl (fun h32 m35 em36 T33 F34 => ?_)
              have F37 := (rf_G.refl [41, 51, 52] h).trans F34 (by decide)
              have B38 : sf_B 0 600 (m35 10) := by rw [em36]; exact B1
              have ek39 : (m35 10).toInt = ((m 10)).toInt := by rw [em36]; rfl
              have B40 : sf_B 0 4 (m35 17) := by rw [em36]; exact B6
              have ek41 : (m35 17).toInt = ((m 17)).toInt := by rw [em36]; rfl
              have B42 : sf_B 0 600 (m35 16) := by rw [em36]; exact B31
              have ek43 : (m35 16).toInt = ((m 12)).toInt := by rw [em36]; rfl
              have W44 : rf_W [10, 12, 13, 14, 16, 17, 18, 22] m m35 := by rw [em36]; exact (rf_W.refl [10, 12, 13, 14, 16, 17, 18, 22] m).put (by decide)
              refine pm_R_op pm_M184 (pc' := 9) (st' := [.int 0]) rfl rfl rfl ?_
              refine pm_R_ret pm_M184 (r := some (.int 0)) rfl rfl ?_
              show pm_R _ 192 85 [.ref 41, .long a0, pm_no, .int a1, .int (-1)] [.int 0] _ _
              exact pm_R_ret pm_M192 (r := some (.int 0)) rfl rfl (K0 m35 w h32 T33 F37 W44 (sf_aux51 _ _ ek39))
            · have B45 : sf_B 0 0 z27 := sf_eqL (Classical.not_not.mp c29) sf_k0
              have B46 : lf_B 1936024942 1936024942 a0 := lf_eqB e28 B45 (⟨by decide, by decide⟩ : lf_B 1936024942 1936024942 1936024942)
              refine pm_R_op pm_M192 (pc' := 69) (st' := [.int 5]) rfl rfl rfl ?_
              refine pm_R_br pm_M192 (pc' := 73) rfl rfl ?_
              refine pm_R_lo pm_M192 (pc' := 75) (ls' := [.ref 41, .long a0, pm_no, .int a1, .int 5]) (st' := []) rfl rfl rfl ?_
              refine pm_R_lo pm_M192 (pc' := 77) rfl rfl rfl ?_
              refine pm_R_op pm_M192 (pc' := 78) (st' := [.int (-1), .int 5]) rfl rfl rfl ?_
              refine pm_R_br pm_M192 (pc' := 86) (st' := []) rfl rfl ?_
              refine pm_R_lo pm_M192 (pc' := 87) rfl rfl rfl ?_
              refine rf_R_get pm_M192 T (pc' := 90) (v := .ref 51) rfl rfl rfl rfl ?_
              refine pm_R_op pm_M192 (pc' := 91) (st' := [.int 0, .ref 51]) rfl rfl rfl ?_
              refine pm_R_iald pm_M192 (pc' := 92) (v := (f2 0)) rfl e3 (Nat.lt_of_lt_of_le (by decide) T.1) rfl rfl rfl ?_
              refine pm_R_op pm_M192 (pc' := 94) (st' := [.int 8, .int (f2 0)]) rfl rfl rfl ?_
              refine pm_R_icmp pm_M192 (t := 103) (pc' := 97) rfl rfl rfl (fun c49 => ?_) (fun c49 => ?_)
              · have B50 : sf_B 0 7 (f2 0) := sf_neH0 c49 sf_k8 ct4
                refine pm_R_lo pm_M192 (pc' := 104) rfl rfl rfl ?_
                refine pm_R_cv pm_M192 (pc' := 107) (a := 41) (ra := []) (rest := []) (ls' := [.ref 41, pm_no, pm_no]) rfl rfl (Or.inl rfl) pm_M179 T.2.1 rfl (by decide) (Nat.lt_of_lt_of_le (by decide) T.1) rfl rfl (Nat.le_of_ble_eq_true rfl) rfl rfl ?_
                refine rf_c179 (d := d + 1) T  (fun m53 w54 h55 T56 F57 W58 X59 X60 => ?_)
                have F61 := (rf_G.refl [41, 51, 52] h).trans F57 (by decide)
                have B62 : sf_B 0 4 (m53 17) := by rw [W58 17 (by decide)]; exact B6
                have ek63 : (m53 17).toInt = ((m 17)).toInt := by rw [W58 17 (by decide)]
                have W64 : rf_W [10, 12, 13, 14, 16, 17, 18, 22] m m53 := (rf_W.refl [10, 12, 13, 14, 16, 17, 18, 22] m).trans W58 (by decide)
                show pm_R _ 192 107 [.ref 41, .long a0, pm_no, .int a1, .int 5] [] _ _
                refine pm_R_lo pm_M192 (pc' := 108) rfl rfl rfl ?_
                refine pm_R_cv pm_M192 (pc' := 111) (a := 41) (ra := []) (rest := []) (ls' := [.ref 41, pm_no]) rfl rfl (Or.inl rfl) pm_M190 T56.2.1 rfl (by decide) (Nat.lt_of_lt_of_le (by decide) T56.1) rfl rfl (Nat.le_of_ble_eq_true rfl) rfl rfl ?_
                refine pm_R_op pm_M190 (pc' := 1) (st' := [.int 0]) rfl rfl rfl ?_
                refine pm_R_lo pm_M190 (pc' := 2) (ls' := [.ref 41, .int 0]) (st' := []) rfl rfl rfl ?_
                refine pm_R_lo pm_M190 (pc' := 3) rfl rfl rfl ?_
                refine pm_R_op pm_M190 (pc' := 4) (st' := [.int 4, .int 0]) rfl rfl rfl ?_
                refine pm_R_br pm_M190 (pc' := 7) (st' := []) rfl rfl ?_
                refine pm_R_lo pm_M190 (pc' := 8) rfl rfl rfl ?_
                refine rf_R_get pm_M190 T56 (pc' := 11) (v := .ref 52) rfl rfl rfl rfl ?_
                refine pm_R_lo pm_M190 (pc' := 12) rfl rfl rfl ?_
                refine pm_R_op pm_M190 (pc' := 13) (st' := [.int (-1), .int 0, .ref 52]) rfl rfl rfl ?_
                obtain ⟨f65, e66, b67⟩ := T56.2.2.2.1 52 (by decide) (by decide)
                refine rf_R_ist pm_M190 T56 (pc' := 14) rfl e66 (by decide) (by decide) rfl ⟨_, rfl, sf_upd b67 (sf_weak sf_kn1 (by decide) (by decide)) _⟩ rfl (fun h68 T69 F70 e71 => ?_)
                have F72 := F61.trans F70 (by decide)
                refine pm_R_lo pm_M190 (pc' := 17) (ls' := [.ref 41, .int 1]) (st' := []) rfl rfl rfl ?_
                refine pm_R_br pm_M190 (pc' := 2) rfl rfl ?_
                refine pm_R_lo pm_M190 (pc' := 3) rfl rfl rfl ?_
                refine pm_R_op pm_M190 (pc' := 4) (st' := [.int 4, .int 1]) rfl rfl rfl ?_
                refine pm_R_br pm_M190 (pc' := 7) (st' := []) rfl rfl ?_
                refine pm_R_lo pm_M190 (pc' := 8) rfl rfl rfl ?_
                refine rf_R_get pm_M190 T69 (pc' := 11) (v := .ref 52) rfl rfl rfl rfl ?_
                refine pm_R_lo pm_M190 (pc' := 12) rfl rfl rfl ?_
                refine pm_R_op pm_M190 (pc' := 13) (st' := [.int (-1), .int 1, .ref 52]) rfl rfl rfl ?_
                refine rf_R_ist pm_M190 T69 (pc' := 14) rfl e71 (by decide) (by decide) rfl ⟨_, rfl, sf_upd (sf_upd b67 (sf_weak sf_kn1 (by decide) (by decide)) _) (sf_weak sf_kn1 (by decide) (by decide)) _⟩ rfl (fun h73 T74 F75 e76 => ?_)
                have F77 := F72.trans F75 (by decide)
                refine pm_R_lo pm_M190 (pc' := 17) (ls' := [.ref 41, .int 2]) (st' := []) rfl rfl rfl ?_
                refine pm_R_br pm_M190 (pc' := 2) rfl rfl ?_
                refine pm_R_lo pm_M190 (pc' := 3) rfl rfl rfl ?_
                refine pm_R_op pm_M190 (pc' := 4) (st' := [.int 4, .int 2]) rfl rfl rfl ?_
                refine pm_R_br pm_M190 (pc' := 7) (st' := []) rfl rfl ?_
                refine pm_R_lo pm_M190 (pc' := 8) rfl rfl rfl ?_
                refine rf_R_get pm_M190 T74 (pc' := 11) (v := .ref 52) rfl rfl rfl rfl ?_
                refine pm_R_lo pm_M190 (pc' := 12) rfl rfl rfl ?_
                refine pm_R_op pm_M190 (pc' := 13) (st' := [.int (-1), .int 2, .ref 52]) rfl rfl rfl ?_
                refine rf_R_ist pm_M190 T74 (pc' := 14) rfl e76 (by decide) (by decide) rfl ⟨_, rfl, sf_upd (sf_upd (sf_upd b67 (sf_weak sf_kn1 (by decide) (by decide)) _) (sf_weak sf_kn1 (by decide) (by decide)) _) (sf_weak sf_kn1 (by decide) (by decide)) _⟩ rfl (fun h78 T79 F80 e81 => ?_)
                have F82 := F77.trans F80 (by decide)
                refine pm_R_lo pm_M190 (pc' := 17) (ls' := [.ref 41, .int 3]) (st' := []) rfl rfl rfl ?_
                refine pm_R_br pm_M190 (pc' := 2) rfl rfl ?_
                refine pm_R_lo pm_M190 (pc' := 3) rfl rfl rfl ?_
                refine pm_R_op pm_M190 (pc' := 4) (st' := [.int 4, .int 3]) rfl rfl rfl ?_
                refine pm_R_br pm_M190 (pc' := 7) (st' := []) rfl rfl ?_
                refine pm_R_lo pm_M190 (pc' := 8) rfl rfl rfl ?_
                refine rf_R_get pm_M190 T79 (pc' := 11) (v := .ref 52) rfl rfl rfl rfl ?_
                refine pm_R_lo pm_M190 (pc' := 12) rfl rfl rfl ?_
                refine pm_R_op pm_M190 (pc' := 13) (st' := [.int (-1), .int 3, .ref 52]) rfl rfl rfl ?_
                refine rf_R_ist pm_M190 T79 (pc' := 14) rfl e81 (by decide) (by decide) rfl ⟨_, rfl, sf_upd (sf_upd (sf_upd (sf_upd b67 (sf_weak sf_kn1 (by decide) (by decide)) _) (sf_weak sf_kn1 (by decide) (by decide)) _) (sf_weak sf_kn1 (by decide) (by decide)) _) (sf_weak sf_kn1 (by decide) (by decide)) _⟩ rfl (fun h83 T84 F85 e86 => ?_)
                have F87 := F82.trans F85 (by decide)
                refine pm_R_lo pm_M190 (pc' := 17) (ls' := [.ref 41, .int 4]) (st' := []) rfl rfl rfl ?_
                refine pm_R_br pm_M190 (pc' := 2) rfl rfl ?_
                refine pm_R_lo pm_M190 (pc' := 3) rfl rfl rfl ?_
                refine pm_R_op pm_M190 (pc' := 4) (st' := [.int 4, .int 4]) rfl rfl rfl ?_
                refine pm_R_br pm_M190 (pc' := 20) (st' := []) rfl rfl ?_
                refine pm_R_ret pm_M190 (r := none) rfl rfl ?_
                show pm_R _ 192 111 [.ref 41, .long a0, pm_no, .int a1, .int 5] [] _ _
                refine pm_R_lo pm_M192 (pc' := 112) rfl rfl rfl ?_
                refine rf_R_get pm_M192 T84 (pc' := 115) (v := .ref 52) rfl rfl rfl rfl ?_
                refine pm_R_op pm_M192 (pc' := 116) (st' := [.int 0, .ref 52]) (pm_q192_1 (Nat.le_of_ble_eq_true rfl)) rfl rfl ?_
                refine pm_R_lo pm_M192 (pc' := 118) (pm_q192_1 (Nat.le_of_ble_eq_true rfl)) rfl rfl ?_
                refine rf_R_ist pm_M192 T84 (pc' := 119) (pm_q192_1 (Nat.le_of_ble_eq_true rfl)) e86 (by decide) (by decide) rfl ⟨_, rfl, sf_upd (sf_upd (sf_upd (sf_upd (sf_upd b67 (sf_weak sf_kn1 (by decide) (by decide)) _) (sf_weak sf_kn1 (by decide) (by decide)) _) (sf_weak sf_kn1 (by decide) (by decide)) _) (sf_weak sf_kn1 (by decide) (by decide)) _) (sf_weak sf_k5 (by decide) (by decide)) _⟩ rfl (fun h88 T89 F90 e91 => ?_)
                have F92 := F87.trans F90 (by decide)
                refine pm_R_lo pm_M192 (pc' := 120) (pm_q192_1 (Nat.le_of_ble_eq_true rfl)) rfl rfl ?_
                refine pm_R_op pm_M192 (pc' := 121) (st' := [.int 1, .ref 41]) (pm_q192_1 (Nat.le_of_ble_eq_true rfl)) rfl rfl ?_
                refine pm_R_op pm_M192 (pc' := 123) (st' := [.int 9, .int 1, .ref 41]) (pm_q192_1 (Nat.le_of_ble_eq_true rfl)) rfl rfl ?_
                refine pm_R_op pm_M192 (pc' := 124) (st' := [.int (-1), .int 9, .int 1, .ref 41]) (pm_q192_1 (Nat.le_of_ble_eq_true rfl)) rfl rfl ?_
                refine pm_R_cv pm_M192 (pc' := 127) (a := 41) (ra := [.int (-1), .int 9, .int 1]) (rest := []) (ls' := [.ref 41, .int 1, .int 9, .int (-1)]) (pm_q192_1 (Nat.le_of_ble_eq_true rfl)) rfl (Or.inl rfl) pm_M183 T89.2.1 rfl (by decide) (Nat.lt_of_lt_of_le (by decide) T89.1) rfl rfl (Nat.le_of_ble_eq_true rfl) rfl rfl ?_
                refine pm_R_lo pm_M183 (pc' := 1) rfl rfl rfl ?_
                have B93 : sf_B 0 4 (m53 13) := T89.2.2.1 13
                refine rf_R_get pm_M183 T89 (pc' := 4) (v := .int (m53 13)) rfl rfl rfl rfl ?_
                refine pm_R_op pm_M183 (pc' := 5) (st' := [.int 3, .int (m53 13)]) rfl rfl rfl ?_
                refine pm_R_icmp pm_M183 (t := 13) (pc' := 8) rfl rfl rfl (fun c94 => ?_) (fun c94 => ?_)
                · have B95 : sf_B 3 3 (m53 13) := sf_eqL c94 sf_k3
                  refine pm_R_lo pm_M183 (pc' := 14) rfl rfl rfl ?_
                  refine rf_R_get pm_M183 T89 (pc' := 17) (v := .ref 52) rfl rfl rfl rfl ?_
                  refine pm_R_lo pm_M183 (pc' := 18) rfl rfl rfl ?_
                  refine pm_R_lo pm_M183 (pc' := 19) rfl rfl rfl ?_
                  have B96 : sf_B 0 99 (m53 14) := T89.2.2.1 14
                  refine rf_R_get pm_M183 T89 (pc' := 22) (v := .int (m53 14)) rfl rfl rfl rfl ?_
                  refine rf_R_ist pm_M183 T89 (pc' := 23) rfl e91 (by decide) (by decide) rfl ⟨_, rfl, sf_upd (sf_upd (sf_upd (sf_upd (sf_upd (sf_upd b67 (sf_weak sf_kn1 (by decide) (by decide)) _) (sf_weak sf_kn1 (by decide) (by decide)) _) (sf_weak sf_kn1 (by decide) (by decide)) _) (sf_weak sf_kn1 (by decide) (by decide)) _) (sf_weak sf_k5 (by decide) (by decide)) _) (sf_weak B96 (by decide) (by decide)) _⟩ rfl (fun h97 T98 F99 e100 => ?_)
                  have F101 := F92.trans F99 (by decide)
                  refine pm_R_lo pm_M183 (pc' := 24) rfl rfl rfl ?_
                  refine rf_R_get pm_M183 T98 (pc' := 27) (v := .int (m53 14)) rfl rfl rfl rfl ?_
                  refine pm_R_lo pm_M183 (pc' := 28) rfl rfl rfl ?_
                  refine pm_R_icmp pm_M183 (t := 39) (pc' := 31) rfl rfl rfl (fun c102 => ?_) (fun c102 => ?_)
                  · have B103 : sf_B 10 99 (m53 14) := sf_ltR c102 sf_k9 B96
                    refine pm_R_lo pm_M183 (pc' := 40) rfl rfl rfl ?_
                    refine pm_R_op pm_M183 (pc' := 41) (st' := [.int 2, .ref 41]) rfl rfl rfl ?_
                    refine pm_R_lo pm_M183 (pc' := 42) rfl rfl rfl ?_
                    have B104 : sf_B 0 600 (m53 12) := T98.2.2.1 12
                    refine rf_R_get pm_M183 T98 (pc' := 45) (v := .int (m53 12)) rfl rfl rfl rfl ?_
                    refine pm_R_cv pm_M183 (pc' := 48) (a := 41) (ra := [.int (m53 12), .int 2]) (rest := []) (ls' := [.ref 41, .int 2, .int (m53 12)]) rfl rfl (Or.inl rfl) pm_M182 T98.2.1 rfl (by decide) (Nat.lt_of_lt_of_le (by decide) T98.1) rfl rfl (Nat.le_of_ble_eq_true rfl) rfl rfl ?_
                    refine rf_c182 (d := d + 1) T98 (sf_weak sf_k2 (by decide) (by decide)) B104 (fun m107 w108 h109 T110 F111 W112 B113 => ?_)
                    have F114 := F101.trans F111 (by decide)
                    have B115 : sf_B 3 3 (m107 13) := by rw [W112 13 (by decide)]; exact B95
                    have B116 : sf_B 10 99 (m107 14) := by rw [W112 14 (by decide)]; exact B103
                    have W117 : rf_W [10, 12, 13, 14, 16, 17, 18, 22] m m107 := W64.trans W112 (by decide)
                    show pm_R _ 183 48 [.ref 41, .int 1, .int 9, .int (-1)] [] _ _
                    refine pm_R_lo pm_M183 (pc' := 49) rfl rfl rfl ?_
                    refine pm_R_op pm_M183 (pc' := 50) (st' := [.int 0, .ref 41]) rfl rfl rfl ?_
                    refine rf_R_put pm_M183 T110 (pc' := 53) rfl rfl rfl (by decide) rfl rfl (sf_weak sf_k0 (by decide) (by decide)) rfl rfl (fun h118 m121 em122 T119 F120 => ?_)
                    have F123 := F114.trans F120 (by decide)
                    have B124 : sf_B 3 3 (m121 13) := by rw [em122]; exact B115
                    have B125 : sf_B 10 99 (m121 14) := by rw [em122]; exact B116
                    have B126 : sf_B 1 4 (m121 17) := by rw [em122]; exact B113
                    have ek127 : (m121 17).toInt = ((m107 17)).toInt := by rw [em122]; rfl
                    have B128 : sf_B 0 0 (m121 22) := by rw [em122]; exact sf_k0
                    have W130 : rf_W [10, 12, 13, 14, 16, 17, 18, 22] m m121 := by rw [em122]; exact W117.put (by decide)
                    refine pm_R_lo pm_M183 (pc' := 54) rfl rfl rfl ?_
                    refine pm_R_cv pm_M183 (pc' := 57) (a := 41) (ra := []) (rest := []) (ls' := [.ref 41, pm_no, pm_no]) rfl rfl (Or.inl rfl) pm_M179 T119.2.1 rfl (by decide) (Nat.lt_of_lt_of_le (by decide) T119.1) rfl rfl (Nat.le_of_ble_eq_true rfl) rfl rfl ?_
                    have B131 : sf_B 0 600 (m121 10) := T119.2.2.1 10
                    refine rf_c179 (d := d + 0) T119  (fun m134 w135 h136 T137 F138 W139 X140 X141 => ?_)
                    have F142 := F123.trans F138 (by decide)
                    have B143 : sf_B 1 4 (m134 17) := by rw [W139 17 (by decide)]; exact B126
                    have ek144 : (m134 17).toInt = ((m107 17)).toInt := by rw [W139 17 (by decide)]; exact ek127
                    have B145 : sf_B 0 0 (m134 22) := by rw [W139 22 (by decide)]; exact B128
                    have W146 : rf_W [10, 12, 13, 14, 16, 17, 18, 22] m m134 := W130.trans W139 (by decide)
                    show pm_R _ 183 57 [.ref 41, .int 1, .int 9, .int (-1)] [] _ _
                    refine pm_R_op pm_M183 (pc' := 58) (st' := [.int 1]) rfl rfl rfl ?_
                    refine pm_R_ret pm_M183 (r := some (.int 1)) rfl rfl ?_
                    show pm_R _ 192 127 [.ref 41, .long a0, pm_no, .int a1, .int 5] [.int 1] _ _
                    refine pm_R_br pm_M192 (pc' := 132) (st' := []) (pm_q192_1 (Nat.le_of_ble_eq_true rfl)) rfl ?_
                    refine pm_R_lo pm_M192 (pc' := 134) (pm_q192_1 (Nat.le_of_ble_eq_true rfl)) rfl rfl ?_
                    refine pm_R_op pm_M192 (pc' := 135) (st' := [.int 1, .int 5]) (pm_q192_1 (Nat.le_of_ble_eq_true rfl)) rfl rfl ?_
                    refine pm_R_br pm_M192 (pc' := 138) (st' := []) (pm_q192_1 (Nat.le_of_ble_eq_true rfl)) rfl ?_
                    refine pm_R_lo pm_M192 (pc' := 140) (pm_q192_1 (Nat.le_of_ble_eq_true rfl)) rfl rfl ?_
                    refine pm_R_op pm_M192 (pc' := 141) (st' := [.int 2, .int 5]) (pm_q192_1 (Nat.le_of_ble_eq_true rfl)) rfl rfl ?_
                    refine pm_R_br pm_M192 (pc' := 144) (st' := []) (pm_q192_1 (Nat.le_of_ble_eq_true rfl)) rfl ?_
                    refine pm_R_lo pm_M192 (pc' := 146) (pm_q192_1 (Nat.le_of_ble_eq_true rfl)) rfl rfl ?_
                    refine pm_R_op pm_M192 (pc' := 147) (st' := [.int 3, .int 5]) (pm_q192_1 (Nat.le_of_ble_eq_true rfl)) rfl rfl ?_
                    refine pm_R_br pm_M192 (pc' := 163) (st' := []) (pm_q192_1 (Nat.le_of_ble_eq_true rfl)) rfl ?_
                    refine pm_R_lo pm_M192 (pc' := 164) (pm_q192_1 (Nat.le_of_ble_eq_true rfl)) rfl rfl ?_
                    refine pm_R_op pm_M192 (pc' := 165) (st' := [.int 0, .ref 41]) (pm_q192_1 (Nat.le_of_ble_eq_true rfl)) rfl rfl ?_
                    refine pm_R_op pm_M192 (pc' := 166) (st' := [.int 1, .int 0, .ref 41]) (pm_q192_1 (Nat.le_of_ble_eq_true rfl)) rfl rfl ?_
                    refine pm_R_op pm_M192 (pc' := 167) (st' := [.int 3, .int 1, .int 0, .ref 41]) (pm_q192_1 (Nat.le_of_ble_eq_true rfl)) rfl rfl ?_
                    refine pm_R_op pm_M192 (pc' := 169) (st' := [.int 8, .int 3, .int 1, .int 0, .ref 41]) (pm_q192_1 (Nat.le_of_ble_eq_true rfl)) rfl rfl ?_
                    refine pm_R_op pm_M192 (pc' := 170) (st' := [.int 0, .int 8, .int 3, .int 1, .int 0, .ref 41]) (pm_q192_1 (Nat.le_of_ble_eq_true rfl)) rfl rfl ?_
                    refine pm_R_cv pm_M192 (pc' := 173) (a := 41) (ra := [.int 0, .int 8, .int 3, .int 1, .int 0]) (rest := []) (ls' := [.ref 41, .int 0, .int 1, .int 3, .int 8, .int 0, pm_no, pm_no]) (pm_q192_1 (Nat.le_of_ble_eq_true rfl)) rfl (Or.inl rfl) pm_M185 T137.2.1 rfl (by decide) (Nat.lt_of_lt_of_le (by decide) T137.1) rfl rfl (Nat.le_of_ble_eq_true rfl) rfl rfl ?_
                    refine pm_R_lo pm_M185 (pc' := 1) rfl rfl rfl ?_
                    refine rf_R_get pm_M185 T137 (pc' := 4) (v := .ref 51) rfl rfl rfl rfl ?_
                    refine pm_R_lo pm_M185 (pc' := 5) rfl rfl rfl ?_
                    have e147 := (F138.cell (by decide) (F120.cell (by decide) (F111.cell (by decide) (F99.cell (by decide) (F90.cell (by decide) (F85.cell (by decide) (F80.cell (by decide) (F75.cell (by decide) (F70.cell (by decide) (F57.cell (by decide) e3))))))))))
                    refine pm_R_iald pm_M185 (pc' := 6) (v := (f2 0)) rfl e147 (Nat.lt_of_lt_of_le (by decide) T137.1) rfl rfl rfl ?_
                    refine pm_R_lo pm_M185 (pc' := 8) (ls' := [.ref 41, .int 0, .int 1, .int 3, .int 8, .int 0, .int (f2 0), pm_no]) (st' := []) rfl rfl rfl ?_
                    refine pm_R_lo pm_M185 (pc' := 10) rfl rfl rfl ?_
                    refine pm_R_lo pm_M185 (pc' := 12) rfl rfl rfl ?_
                    refine pm_R_icmp pm_M185 (t := 16) (pc' := 15) rfl rfl rfl (fun c150 => ?_) (fun c150 => absurd (Classical.not_not.mp c150) (sf_neq2 B50 sf_k8 (by decide)))
                    skip
                    refine pm_R_op pm_M185 (pc' := 17) (st' := [.int 0]) rfl rfl rfl ?_
                    refine pm_R_lo pm_M185 (pc' := 19) (ls' := [.ref 41, .int 0, .int 1, .int 3, .int 8, .int 0, .int (f2 0), .int 0]) (st' := []) rfl rfl rfl ?_
                    refine pm_R_lo pm_M185 (pc' := 21) rfl rfl rfl ?_
                    refine pm_R_lo pm_M185 (pc' := 22) rfl rfl rfl ?_
                    refine pm_R_br pm_M185 (pc' := 25) (st' := []) rfl rfl ?_
                    refine pm_R_lo pm_M185 (pc' := 26) rfl rfl rfl ?_
                    refine rf_R_get pm_M185 T137 (pc' := 29) (v := .ref 51) rfl rfl rfl rfl ?_
                    refine pm_R_lo pm_M185 (pc' := 30) rfl rfl rfl ?_
                    refine pm_R_lo pm_M185 (pc' := 31) rfl rfl rfl ?_
                    refine pm_R_lo pm_M185 (pc' := 33) rfl rfl rfl ?_
                    refine sf_R_imul pm_M185 (pc' := 34) rfl rfl sf_k3 B50 (by decide) (by decide) (by decide) (fun z151 e152 B153 => ?_)
                    refine sf_R_iadd pm_M185 (pc' := 35) rfl rfl sf_k1 B153 (by decide) (by decide) (fun z154 e155 B156 => ?_)
                    refine pm_R_lo pm_M185 (pc' := 37) rfl rfl rfl ?_
                    refine sf_R_iadd pm_M185 (pc' := 38) rfl rfl B156 sf_k0 (by decide) (by decide) (fun z157 e158 B159 => ?_)
                    refine pm_R_lo pm_M185 (pc' := 39) rfl rfl rfl ?_
                    refine rf_R_get pm_M185 T137 (pc' := 42) (v := .ref 52) rfl rfl rfl rfl ?_
                    refine pm_R_lo pm_M185 (pc' := 44) rfl rfl rfl ?_
                    refine pm_R_lo pm_M185 (pc' := 46) rfl rfl rfl ?_
                    refine pm_R_op pm_M185 (pc' := 47) (st' := [.int 0, .ref 52, .int z157, .ref 51]) rfl rfl rfl ?_
                    have e160 := (F138.cell (by decide) (F120.cell (by decide) (F111.cell (by decide) e100)))
                    refine pm_R_iald pm_M185 (pc' := 48) (v := 5) rfl e160 (Nat.lt_of_lt_of_le (by decide) T137.1) rfl (Eq.trans (show (upd (upd (upd (upd (upd (upd f65 (Int32.toNatClampNeg 0) (-1)) (Int32.toNatClampNeg 1) (-1)) (Int32.toNatClampNeg 2) (-1)) (Int32.toNatClampNeg 3) (-1)) (Int32.toNatClampNeg 0) 5) (Int32.toNatClampNeg 1) (m53 14)) (Int32.toNatClampNeg 0) = (upd (upd (upd (upd (upd f65 (Int32.toNatClampNeg 0) (-1)) (Int32.toNatClampNeg 1) (-1)) (Int32.toNatClampNeg 2) (-1)) (Int32.toNatClampNeg 3) (-1)) (Int32.toNatClampNeg 0) 5) (Int32.toNatClampNeg 0) from rfl) rfl) rfl ?_
                    refine rf_R_ist pm_M185 T137 (pc' := 49) rfl e147 (by decide) (by decide) (sf_in B159 (by decide) (by decide)) ⟨_, rfl⟩ rfl (fun h163 T164 F165 e166 => ?_)
                    have F167 := F142.trans F165 (by decide)
                    have ct168 : rf_ct 3 (upd f2 (Int32.toNatClampNeg z157) 5) := (sf_eqL (Eq.trans (sf_upd_ne (j := Int32.toNatClampNeg 0) B159 (by decide) (by decide)) rfl) (sf_weak B50 (by decide) (by decide)))
                    have bd169 : (m134 17).toInt = 0 → rf_bd 3 (upd f2 (Int32.toNatClampNeg z157) 5) := fun z => (sf_pos B143 (by decide) z)
                    refine pm_R_lo pm_M185 (pc' := 52) (ls' := [.ref 41, .int 0, .int 1, .int 3, .int 8, .int 0, .int (f2 0), .int 1]) (st' := []) rfl rfl rfl ?_
                    refine pm_R_br pm_M185 (pc' := 19) rfl rfl ?_
                    refine pm_R_lo pm_M185 (pc' := 21) rfl rfl rfl ?_
                    refine pm_R_lo pm_M185 (pc' := 22) rfl rfl rfl ?_
                    refine pm_R_br pm_M185 (pc' := 25) (st' := []) rfl rfl ?_
                    refine pm_R_lo pm_M185 (pc' := 26) rfl rfl rfl ?_
                    refine rf_R_get pm_M185 T164 (pc' := 29) (v := .ref 51) rfl rfl rfl rfl ?_
                    refine pm_R_lo pm_M185 (pc' := 30) rfl rfl rfl ?_
                    refine pm_R_lo pm_M185 (pc' := 31) rfl rfl rfl ?_
                    refine pm_R_lo pm_M185 (pc' := 33) rfl rfl rfl ?_
                    refine sf_R_imulV pm_M185 (pc' := 34) rfl rfl sf_k3 B50 (by decide) (by decide) (by decide) e152 ?_
                    refine sf_R_iaddV pm_M185 (pc' := 35) rfl rfl sf_k1 B153 (by decide) (by decide) e155 ?_
                    refine pm_R_lo pm_M185 (pc' := 37) rfl rfl rfl ?_
                    refine sf_R_iadd pm_M185 (pc' := 38) rfl rfl B156 sf_k1 (by decide) (by decide) (fun z170 e171 B172 => ?_)
                    refine pm_R_lo pm_M185 (pc' := 39) rfl rfl rfl ?_
                    refine rf_R_get pm_M185 T164 (pc' := 42) (v := .ref 52) rfl rfl rfl rfl ?_
                    refine pm_R_lo pm_M185 (pc' := 44) rfl rfl rfl ?_
                    refine pm_R_lo pm_M185 (pc' := 46) rfl rfl rfl ?_
                    refine pm_R_op pm_M185 (pc' := 47) (st' := [.int 1, .ref 52, .int z170, .ref 51]) rfl rfl rfl ?_
                    have e173 := (F165.cell (by decide) e160)
                    refine pm_R_iald pm_M185 (pc' := 48) (v := (m53 14)) rfl e173 (Nat.lt_of_lt_of_le (by decide) T164.1) rfl rfl rfl ?_
                    refine rf_R_ist pm_M185 T164 (pc' := 49) rfl e166 (by decide) (by decide) (sf_in B172 (by decide) (by decide)) ⟨_, rfl⟩ rfl (fun h176 T177 F178 e179 => ?_)
                    have F180 := F167.trans F178 (by decide)
                    have ct181 : rf_ct 3 (upd (upd f2 (Int32.toNatClampNeg z157) 5) (Int32.toNatClampNeg z170) (m53 14)) := (sf_eqL (Eq.trans (sf_upd_ne (j := Int32.toNatClampNeg 0) B172 (by decide) (by decide)) (Eq.trans (sf_upd_ne (j := Int32.toNatClampNeg 0) B159 (by decide) (by decide)) rfl)) (sf_weak B50 (by decide) (by decide)))
                    have bd182 : (m134 17).toInt = 0 → rf_bd 3 (upd (upd f2 (Int32.toNatClampNeg z157) 5) (Int32.toNatClampNeg z170) (m53 14)) := fun z => (sf_pos B143 (by decide) z)
                    refine pm_R_lo pm_M185 (pc' := 52) (ls' := [.ref 41, .int 0, .int 1, .int 3, .int 8, .int 0, .int (f2 0), .int 2]) (st' := []) rfl rfl rfl ?_
                    refine pm_R_br pm_M185 (pc' := 19) rfl rfl ?_
                    refine pm_R_lo pm_M185 (pc' := 21) rfl rfl rfl ?_
                    refine pm_R_lo pm_M185 (pc' := 22) rfl rfl rfl ?_
                    refine pm_R_br pm_M185 (pc' := 25) (st' := []) rfl rfl ?_
                    refine pm_R_lo pm_M185 (pc' := 26) rfl rfl rfl ?_
                    refine rf_R_get pm_M185 T177 (pc' := 29) (v := .ref 51) rfl rfl rfl rfl ?_
                    refine pm_R_lo pm_M185 (pc' := 30) rfl rfl rfl ?_
                    refine pm_R_lo pm_M185 (pc' := 31) rfl rfl rfl ?_
                    refine pm_R_lo pm_M185 (pc' := 33) rfl rfl rfl ?_
                    refine sf_R_imulV pm_M185 (pc' := 34) rfl rfl sf_k3 B50 (by decide) (by decide) (by decide) e152 ?_
                    refine sf_R_iaddV pm_M185 (pc' := 35) rfl rfl sf_k1 B153 (by decide) (by decide) e155 ?_
                    refine pm_R_lo pm_M185 (pc' := 37) rfl rfl rfl ?_
                    refine sf_R_iadd pm_M185 (pc' := 38) rfl rfl B156 sf_k2 (by decide) (by decide) (fun z183 e184 B185 => ?_)
                    refine pm_R_lo pm_M185 (pc' := 39) rfl rfl rfl ?_
                    refine rf_R_get pm_M185 T177 (pc' := 42) (v := .ref 52) rfl rfl rfl rfl ?_
                    refine pm_R_lo pm_M185 (pc' := 44) rfl rfl rfl ?_
                    refine pm_R_lo pm_M185 (pc' := 46) rfl rfl rfl ?_
                    refine pm_R_op pm_M185 (pc' := 47) (st' := [.int 2, .ref 52, .int z183, .ref 51]) rfl rfl rfl ?_
                    have e186 := (F178.cell (by decide) e173)
                    refine pm_R_iald pm_M185 (pc' := 48) (v := (-1)) rfl e186 (Nat.lt_of_lt_of_le (by decide) T177.1) rfl (Eq.trans (show (upd (upd (upd (upd (upd (upd f65 (Int32.toNatClampNeg 0) (-1)) (Int32.toNatClampNeg 1) (-1)) (Int32.toNatClampNeg 2) (-1)) (Int32.toNatClampNeg 3) (-1)) (Int32.toNatClampNeg 0) 5) (Int32.toNatClampNeg 1) (m53 14)) (Int32.toNatClampNeg 2) = (upd (upd (upd (upd (upd f65 (Int32.toNatClampNeg 0) (-1)) (Int32.toNatClampNeg 1) (-1)) (Int32.toNatClampNeg 2) (-1)) (Int32.toNatClampNeg 3) (-1)) (Int32.toNatClampNeg 0) 5) (Int32.toNatClampNeg 2) from rfl) (Eq.trans (show (upd (upd (upd (upd (upd f65 (Int32.toNatClampNeg 0) (-1)) (Int32.toNatClampNeg 1) (-1)) (Int32.toNatClampNeg 2) (-1)) (Int32.toNatClampNeg 3) (-1)) (Int32.toNatClampNeg 0) 5) (Int32.toNatClampNeg 2) = (upd (upd (upd (upd f65 (Int32.toNatClampNeg 0) (-1)) (Int32.toNatClampNeg 1) (-1)) (Int32.toNatClampNeg 2) (-1)) (Int32.toNatClampNeg 3) (-1)) (Int32.toNatClampNeg 2) from rfl) (Eq.trans (show (upd (upd (upd (upd f65 (Int32.toNatClampNeg 0) (-1)) (Int32.toNatClampNeg 1) (-1)) (Int32.toNatClampNeg 2) (-1)) (Int32.toNatClampNeg 3) (-1)) (Int32.toNatClampNeg 2) = (upd (upd (upd f65 (Int32.toNatClampNeg 0) (-1)) (Int32.toNatClampNeg 1) (-1)) (Int32.toNatClampNeg 2) (-1)) (Int32.toNatClampNeg 2) from rfl) rfl))) rfl ?_
                    refine rf_R_ist pm_M185 T177 (pc' := 49) rfl e179 (by decide) (by decide) (sf_in B185 (by decide) (by decide)) ⟨_, rfl⟩ rfl (fun h189 T190 F191 e192 => ?_)
                    have F193 := F180.trans F191 (by decide)
                    have ct194 : rf_ct 3 (upd (upd (upd f2 (Int32.toNatClampNeg z157) 5) (Int32.toNatClampNeg z170) (m53 14)) (Int32.toNatClampNeg z183) (-1)) := (sf_eqL (Eq.trans (sf_upd_ne (j := Int32.toNatClampNeg 0) B185 (by decide) (by decide)) (Eq.trans (sf_upd_ne (j := Int32.toNatClampNeg 0) B172 (by decide) (by decide)) (Eq.trans (sf_upd_ne (j := Int32.toNatClampNeg 0) B159 (by decide) (by decide)) rfl))) (sf_weak B50 (by decide) (by decide)))
                    have bd195 : (m134 17).toInt = 0 → rf_bd 3 (upd (upd (upd f2 (Int32.toNatClampNeg z157) 5) (Int32.toNatClampNeg z170) (m53 14)) (Int32.toNatClampNeg z183) (-1)) := fun z => (sf_pos B143 (by decide) z)
                    refine pm_R_lo pm_M185 (pc' := 52) (ls' := [.ref 41, .int 0, .int 1, .int 3, .int 8, .int 0, .int (f2 0), .int 3]) (st' := []) rfl rfl rfl ?_
                    refine pm_R_br pm_M185 (pc' := 19) rfl rfl ?_
                    refine pm_R_lo pm_M185 (pc' := 21) rfl rfl rfl ?_
                    refine pm_R_lo pm_M185 (pc' := 22) rfl rfl rfl ?_
                    refine pm_R_br pm_M185 (pc' := 55) (st' := []) rfl rfl ?_
                    refine pm_R_lo pm_M185 (pc' := 56) rfl rfl rfl ?_
                    refine rf_R_get pm_M185 T190 (pc' := 59) (v := .ref 51) rfl rfl rfl rfl ?_
                    refine pm_R_lo pm_M185 (pc' := 60) rfl rfl rfl ?_
                    refine pm_R_op pm_M185 (pc' := 61) (st' := [.int 0, .ref 51, .int 0, .ref 51]) rfl rfl rfl ?_
                    refine pm_R_iald pm_M185 (pc' := 62) (v := (f2 0)) rfl e192 (Nat.lt_of_lt_of_le (by decide) T190.1) rfl (Eq.trans (sf_upd_ne (j := Int32.toNatClampNeg 0) B185 (by decide) (by decide)) (Eq.trans (sf_upd_ne (j := Int32.toNatClampNeg 0) B172 (by decide) (by decide)) (Eq.trans (sf_upd_ne (j := Int32.toNatClampNeg 0) B159 (by decide) (by decide)) rfl))) rfl ?_
                    refine pm_R_op pm_M185 (pc' := 63) (st' := [.int 1, .int (f2 0), .int 0, .ref 51]) rfl rfl rfl ?_
                    refine sf_R_iadd pm_M185 (pc' := 64) rfl rfl B50 sf_k1 (by decide) (by decide) (fun z198 e199 B200 => ?_)
                    refine rf_R_ist pm_M185 T190 (pc' := 65) rfl e192 (by decide) (by decide) rfl ⟨_, rfl⟩ rfl (fun h201 T202 F203 e204 => ?_)
                    have F205 := F193.trans F203 (by decide)
                    have ct206 : rf_ct 3 (upd (upd (upd (upd f2 (Int32.toNatClampNeg z157) 5) (Int32.toNatClampNeg z170) (m53 14)) (Int32.toNatClampNeg z183) (-1)) (Int32.toNatClampNeg 0) z198) := (sf_eqL rfl (sf_weak B200 (by decide) (by decide)))
                    have bd207 : (m134 17).toInt = 0 → rf_bd 3 (upd (upd (upd (upd f2 (Int32.toNatClampNeg z157) 5) (Int32.toNatClampNeg z170) (m53 14)) (Int32.toNatClampNeg z183) (-1)) (Int32.toNatClampNeg 0) z198) := fun z => (sf_pos B143 (by decide) z)
                    refine pm_R_ret pm_M185 (r := none) rfl rfl ?_
                    show pm_R _ 192 173 [.ref 41, .long a0, pm_no, .int a1, .int 5] [] _ _
                    refine pm_R_op pm_M192 (pc' := 174) (st' := [.int 1]) (pm_q192_1 (Nat.le_of_ble_eq_true rfl)) rfl rfl ?_
                    have B208 : sf_B 0 600 (m134 10) := T202.2.2.1 10
                    exact pm_R_ret pm_M192 (r := some (.int 1)) (pm_q192_1 (Nat.le_of_ble_eq_true rfl)) rfl (K1 m134 w135 h201 T202 F205 W146 (⟨(upd (upd (upd (upd f2 (Int32.toNatClampNeg z157) 5) (Int32.toNatClampNeg z170) (m53 14)) (Int32.toNatClampNeg z183) (-1)) (Int32.toNatClampNeg 0) z198), e204, ct206, fun z => (sf_pos B143 (by decide) z)⟩) (sf_aux115 _ _ _ _ X59 X140))
                  · have B209 : sf_B 0 9 (m53 14) := sf_leL (Int32.not_lt.mp c102) B96 sf_k9
                    refine pm_R_lo pm_M183 (pc' := 32) rfl rfl rfl ?_
                    refine rf_R_get pm_M183 T98 (pc' := 35) (v := .int (m53 14)) rfl rfl rfl rfl ?_
                    refine pm_R_lo pm_M183 (pc' := 36) rfl rfl rfl ?_
                    refine pm_R_icmp pm_M183 (t := 53) (pc' := 39) rfl rfl rfl (fun c210 => ?_) (fun c210 => absurd (Classical.not_not.mp c210) (sf_neq1 B209 sf_kn1 (by decide)))
                    skip
                    refine pm_R_lo pm_M183 (pc' := 54) rfl rfl rfl ?_
                    refine pm_R_cv pm_M183 (pc' := 57) (a := 41) (ra := []) (rest := []) (ls' := [.ref 41, pm_no, pm_no]) rfl rfl (Or.inl rfl) pm_M179 T98.2.1 rfl (by decide) (Nat.lt_of_lt_of_le (by decide) T98.1) rfl rfl (Nat.le_of_ble_eq_true rfl) rfl rfl ?_
                    have B211 : sf_B 0 600 (m53 10) := T98.2.2.1 10
                    refine rf_c179 (d := d + 0) T98  (fun m214 w215 h216 T217 F218 W219 X220 X221 => ?_)
                    have F222 := F101.trans F218 (by decide)
                    have B223 : sf_B 0 4 (m214 17) := by rw [W219 17 (by decide)]; exact B62
                    have ek224 : (m214 17).toInt = ((m 17)).toInt := by rw [W219 17 (by decide)]; exact ek63
                    have W225 : rf_W [10, 12, 13, 14, 16, 17, 18, 22] m m214 := W64.trans W219 (by decide)
                    show pm_R _ 183 57 [.ref 41, .int 1, .int 9, .int (-1)] [] _ _
                    refine pm_R_op pm_M183 (pc' := 58) (st' := [.int 1]) rfl rfl rfl ?_
                    refine pm_R_ret pm_M183 (r := some (.int 1)) rfl rfl ?_
                    show pm_R _ 192 127 [.ref 41, .long a0, pm_no, .int a1, .int 5] [.int 1] _ _
                    refine pm_R_br pm_M192 (pc' := 132) (st' := []) (pm_q192_1 (Nat.le_of_ble_eq_true rfl)) rfl ?_
                    refine pm_R_lo pm_M192 (pc' := 134) (pm_q192_1 (Nat.le_of_ble_eq_true rfl)) rfl rfl ?_
                    refine pm_R_op pm_M192 (pc' := 135) (st' := [.int 1, .int 5]) (pm_q192_1 (Nat.le_of_ble_eq_true rfl)) rfl rfl ?_
                    refine pm_R_br pm_M192 (pc' := 138) (st' := []) (pm_q192_1 (Nat.le_of_ble_eq_true rfl)) rfl ?_
                    refine pm_R_lo pm_M192 (pc' := 140) (pm_q192_1 (Nat.le_of_ble_eq_true rfl)) rfl rfl ?_
                    refine pm_R_op pm_M192 (pc' := 141) (st' := [.int 2, .int 5]) (pm_q192_1 (Nat.le_of_ble_eq_true rfl)) rfl rfl ?_
                    refine pm_R_br pm_M192 (pc' := 144) (st' := []) (pm_q192_1 (Nat.le_of_ble_eq_true rfl)) rfl ?_
                    refine pm_R_lo pm_M192 (pc' := 146) (pm_q192_1 (Nat.le_of_ble_eq_true rfl)) rfl rfl ?_
                    refine pm_R_op pm_M192 (pc' := 147) (st' := [.int 3, .int 5]) (pm_q192_1 (Nat.le_of_ble_eq_true rfl)) rfl rfl ?_
                    refine pm_R_br pm_M192 (pc' := 163) (st' := []) (pm_q192_1 (Nat.le_of_ble_eq_true rfl)) rfl ?_
                    refine pm_R_lo pm_M192 (pc' := 164) (pm_q192_1 (Nat.le_of_ble_eq_true rfl)) rfl rfl ?_
                    refine pm_R_op pm_M192 (pc' := 165) (st' := [.int 0, .ref 41]) (pm_q192_1 (Nat.le_of_ble_eq_true rfl)) rfl rfl ?_
                    refine pm_R_op pm_M192 (pc' := 166) (st' := [.int 1, .int 0, .ref 41]) (pm_q192_1 (Nat.le_of_ble_eq_true rfl)) rfl rfl ?_
                    refine pm_R_op pm_M192 (pc' := 167) (st' := [.int 3, .int 1, .int 0, .ref 41]) (pm_q192_1 (Nat.le_of_ble_eq_true rfl)) rfl rfl ?_
                    refine pm_R_op pm_M192 (pc' := 169) (st' := [.int 8, .int 3, .int 1, .int 0, .ref 41]) (pm_q192_1 (Nat.le_of_ble_eq_true rfl)) rfl rfl ?_
                    refine pm_R_op pm_M192 (pc' := 170) (st' := [.int 0, .int 8, .int 3, .int 1, .int 0, .ref 41]) (pm_q192_1 (Nat.le_of_ble_eq_true rfl)) rfl rfl ?_
                    refine pm_R_cv pm_M192 (pc' := 173) (a := 41) (ra := [.int 0, .int 8, .int 3, .int 1, .int 0]) (rest := []) (ls' := [.ref 41, .int 0, .int 1, .int 3, .int 8, .int 0, pm_no, pm_no]) (pm_q192_1 (Nat.le_of_ble_eq_true rfl)) rfl (Or.inl rfl) pm_M185 T217.2.1 rfl (by decide) (Nat.lt_of_lt_of_le (by decide) T217.1) rfl rfl (Nat.le_of_ble_eq_true rfl) rfl rfl ?_
                    refine pm_R_lo pm_M185 (pc' := 1) rfl rfl rfl ?_
                    refine rf_R_get pm_M185 T217 (pc' := 4) (v := .ref 51) rfl rfl rfl rfl ?_
                    refine pm_R_lo pm_M185 (pc' := 5) rfl rfl rfl ?_
                    have e226 := (F218.cell (by decide) (F99.cell (by decide) (F90.cell (by decide) (F85.cell (by decide) (F80.cell (by decide) (F75.cell (by decide) (F70.cell (by decide) (F57.cell (by decide) e3))))))))
                    refine pm_R_iald pm_M185 (pc' := 6) (v := (f2 0)) rfl e226 (Nat.lt_of_lt_of_le (by decide) T217.1) rfl rfl rfl ?_
                    refine pm_R_lo pm_M185 (pc' := 8) (ls' := [.ref 41, .int 0, .int 1, .int 3, .int 8, .int 0, .int (f2 0), pm_no]) (st' := []) rfl rfl rfl ?_
                    refine pm_R_lo pm_M185 (pc' := 10) rfl rfl rfl ?_
                    refine pm_R_lo pm_M185 (pc' := 12) rfl rfl rfl ?_
                    refine pm_R_icmp pm_M185 (t := 16) (pc' := 15) rfl rfl rfl (fun c229 => ?_) (fun c229 => absurd (Classical.not_not.mp c229) (sf_neq2 B50 sf_k8 (by decide)))
                    skip
                    refine pm_R_op pm_M185 (pc' := 17) (st' := [.int 0]) rfl rfl rfl ?_
                    refine pm_R_lo pm_M185 (pc' := 19) (ls' := [.ref 41, .int 0, .int 1, .int 3, .int 8, .int 0, .int (f2 0), .int 0]) (st' := []) rfl rfl rfl ?_
                    refine pm_R_lo pm_M185 (pc' := 21) rfl rfl rfl ?_
                    refine pm_R_lo pm_M185 (pc' := 22) rfl rfl rfl ?_
                    refine pm_R_br pm_M185 (pc' := 25) (st' := []) rfl rfl ?_
                    refine pm_R_lo pm_M185 (pc' := 26) rfl rfl rfl ?_
                    refine rf_R_get pm_M185 T217 (pc' := 29) (v := .ref 51) rfl rfl rfl rfl ?_
                    refine pm_R_lo pm_M185 (pc' := 30) rfl rfl rfl ?_
                    refine pm_R_lo pm_M185 (pc' := 31) rfl rfl rfl ?_
                    refine pm_R_lo pm_M185 (pc' := 33) rfl rfl rfl ?_
                    refine sf_R_imul pm_M185 (pc' := 34) rfl rfl sf_k3 B50 (by decide) (by decide) (by decide) (fun z230 e231 B232 => ?_)
                    refine sf_R_iadd pm_M185 (pc' := 35) rfl rfl sf_k1 B232 (by decide) (by decide) (fun z233 e234 B235 => ?_)
                    refine pm_R_lo pm_M185 (pc' := 37) rfl rfl rfl ?_
                    refine sf_R_iadd pm_M185 (pc' := 38) rfl rfl B235 sf_k0 (by decide) (by decide) (fun z236 e237 B238 => ?_)
                    refine pm_R_lo pm_M185 (pc' := 39) rfl rfl rfl ?_
                    refine rf_R_get pm_M185 T217 (pc' := 42) (v := .ref 52) rfl rfl rfl rfl ?_
                    refine pm_R_lo pm_M185 (pc' := 44) rfl rfl rfl ?_
                    refine pm_R_lo pm_M185 (pc' := 46) rfl rfl rfl ?_
                    refine pm_R_op pm_M185 (pc' := 47) (st' := [.int 0, .ref 52, .int z236, .ref 51]) rfl rfl rfl ?_
                    have e239 := (F218.cell (by decide) e100)
                    refine pm_R_iald pm_M185 (pc' := 48) (v := 5) rfl e239 (Nat.lt_of_lt_of_le (by decide) T217.1) rfl (Eq.trans (show (upd (upd (upd (upd (upd (upd f65 (Int32.toNatClampNeg 0) (-1)) (Int32.toNatClampNeg 1) (-1)) (Int32.toNatClampNeg 2) (-1)) (Int32.toNatClampNeg 3) (-1)) (Int32.toNatClampNeg 0) 5) (Int32.toNatClampNeg 1) (m53 14)) (Int32.toNatClampNeg 0) = (upd (upd (upd (upd (upd f65 (Int32.toNatClampNeg 0) (-1)) (Int32.toNatClampNeg 1) (-1)) (Int32.toNatClampNeg 2) (-1)) (Int32.toNatClampNeg 3) (-1)) (Int32.toNatClampNeg 0) 5) (Int32.toNatClampNeg 0) from rfl) rfl) rfl ?_
                    refine rf_R_ist pm_M185 T217 (pc' := 49) rfl e226 (by decide) (by decide) (sf_in B238 (by decide) (by decide)) ⟨_, rfl⟩ rfl (fun h242 T243 F244 e245 => ?_)
                    have F246 := F222.trans F244 (by decide)
                    have w247 := rf_w3s (sf_aux119 _ _ _ _ e231 e234 e237) B50
                    have ct248 : rf_ct 3 (upd f2 (Int32.toNatClampNeg z236) 5) := (sf_eqL (Eq.trans (sf_upd_ne (j := Int32.toNatClampNeg 0) B238 (by decide) (by decide)) rfl) (sf_weak B50 (by decide) (by decide)))
                    have bd249 : (m214 17).toInt = 0 → rf_bd 3 (upd f2 (Int32.toNatClampNeg z236) 5) := fun z => ((bd5 (sf_aux53 _ _ ek224 z)).set (k := z236) (sf_weak sf_k5 (by decide) (by decide)) w247.1 w247.2)
                    refine pm_R_lo pm_M185 (pc' := 52) (ls' := [.ref 41, .int 0, .int 1, .int 3, .int 8, .int 0, .int (f2 0), .int 1]) (st' := []) rfl rfl rfl ?_
                    refine pm_R_br pm_M185 (pc' := 19) rfl rfl ?_
                    refine pm_R_lo pm_M185 (pc' := 21) rfl rfl rfl ?_
                    refine pm_R_lo pm_M185 (pc' := 22) rfl rfl rfl ?_
                    refine pm_R_br pm_M185 (pc' := 25) (st' := []) rfl rfl ?_
                    refine pm_R_lo pm_M185 (pc' := 26) rfl rfl rfl ?_
                    refine rf_R_get pm_M185 T243 (pc' := 29) (v := .ref 51) rfl rfl rfl rfl ?_
                    refine pm_R_lo pm_M185 (pc' := 30) rfl rfl rfl ?_
                    refine pm_R_lo pm_M185 (pc' := 31) rfl rfl rfl ?_
                    refine pm_R_lo pm_M185 (pc' := 33) rfl rfl rfl ?_
                    refine sf_R_imulV pm_M185 (pc' := 34) rfl rfl sf_k3 B50 (by decide) (by decide) (by decide) e231 ?_
                    refine sf_R_iaddV pm_M185 (pc' := 35) rfl rfl sf_k1 B232 (by decide) (by decide) e234 ?_
                    refine pm_R_lo pm_M185 (pc' := 37) rfl rfl rfl ?_
                    refine sf_R_iadd pm_M185 (pc' := 38) rfl rfl B235 sf_k1 (by decide) (by decide) (fun z250 e251 B252 => ?_)
                    refine pm_R_lo pm_M185 (pc' := 39) rfl rfl rfl ?_
                    refine rf_R_get pm_M185 T243 (pc' := 42) (v := .ref 52) rfl rfl rfl rfl ?_
                    refine pm_R_lo pm_M185 (pc' := 44) rfl rfl rfl ?_
                    refine pm_R_lo pm_M185 (pc' := 46) rfl rfl rfl ?_
                    refine pm_R_op pm_M185 (pc' := 47) (st' := [.int 1, .ref 52, .int z250, .ref 51]) rfl rfl rfl ?_
                    have e253 := (F244.cell (by decide) e239)
                    refine pm_R_iald pm_M185 (pc' := 48) (v := (m53 14)) rfl e253 (Nat.lt_of_lt_of_le (by decide) T243.1) rfl rfl rfl ?_
                    refine rf_R_ist pm_M185 T243 (pc' := 49) rfl e245 (by decide) (by decide) (sf_in B252 (by decide) (by decide)) ⟨_, rfl⟩ rfl (fun h256 T257 F258 e259 => ?_)
                    have F260 := F246.trans F258 (by decide)
                    have w261 := rf_w3f (sf_aux120 _ _ _ _ e231 e234 e251) B50
                    have ct262 : rf_ct 3 (upd (upd f2 (Int32.toNatClampNeg z236) 5) (Int32.toNatClampNeg z250) (m53 14)) := (sf_eqL (Eq.trans (sf_upd_ne (j := Int32.toNatClampNeg 0) B252 (by decide) (by decide)) (Eq.trans (sf_upd_ne (j := Int32.toNatClampNeg 0) B238 (by decide) (by decide)) rfl)) (sf_weak B50 (by decide) (by decide)))
                    have bd263 : (m214 17).toInt = 0 → rf_bd 3 (upd (upd f2 (Int32.toNatClampNeg z236) 5) (Int32.toNatClampNeg z250) (m53 14)) := fun z => ((bd249 z).set (k := z250) B209 w261.1 w261.2)
                    refine pm_R_lo pm_M185 (pc' := 52) (ls' := [.ref 41, .int 0, .int 1, .int 3, .int 8, .int 0, .int (f2 0), .int 2]) (st' := []) rfl rfl rfl ?_
                    refine pm_R_br pm_M185 (pc' := 19) rfl rfl ?_
                    refine pm_R_lo pm_M185 (pc' := 21) rfl rfl rfl ?_
                    refine pm_R_lo pm_M185 (pc' := 22) rfl rfl rfl ?_
                    refine pm_R_br pm_M185 (pc' := 25) (st' := []) rfl rfl ?_
                    refine pm_R_lo pm_M185 (pc' := 26) rfl rfl rfl ?_
                    refine rf_R_get pm_M185 T257 (pc' := 29) (v := .ref 51) rfl rfl rfl rfl ?_
                    refine pm_R_lo pm_M185 (pc' := 30) rfl rfl rfl ?_
                    refine pm_R_lo pm_M185 (pc' := 31) rfl rfl rfl ?_
                    refine pm_R_lo pm_M185 (pc' := 33) rfl rfl rfl ?_
                    refine sf_R_imulV pm_M185 (pc' := 34) rfl rfl sf_k3 B50 (by decide) (by decide) (by decide) e231 ?_
                    refine sf_R_iaddV pm_M185 (pc' := 35) rfl rfl sf_k1 B232 (by decide) (by decide) e234 ?_
                    refine pm_R_lo pm_M185 (pc' := 37) rfl rfl rfl ?_
                    refine sf_R_iadd pm_M185 (pc' := 38) rfl rfl B235 sf_k2 (by decide) (by decide) (fun z264 e265 B266 => ?_)
                    refine pm_R_lo pm_M185 (pc' := 39) rfl rfl rfl ?_
                    refine rf_R_get pm_M185 T257 (pc' := 42) (v := .ref 52) rfl rfl rfl rfl ?_
                    refine pm_R_lo pm_M185 (pc' := 44) rfl rfl rfl ?_
                    refine pm_R_lo pm_M185 (pc' := 46) rfl rfl rfl ?_
                    refine pm_R_op pm_M185 (pc' := 47) (st' := [.int 2, .ref 52, .int z264, .ref 51]) rfl rfl rfl ?_
                    have e267 := (F258.cell (by decide) e253)
                    refine pm_R_iald pm_M185 (pc' := 48) (v := (-1)) rfl e267 (Nat.lt_of_lt_of_le (by decide) T257.1) rfl (Eq.trans (show (upd (upd (upd (upd (upd (upd f65 (Int32.toNatClampNeg 0) (-1)) (Int32.toNatClampNeg 1) (-1)) (Int32.toNatClampNeg 2) (-1)) (Int32.toNatClampNeg 3) (-1)) (Int32.toNatClampNeg 0) 5) (Int32.toNatClampNeg 1) (m53 14)) (Int32.toNatClampNeg 2) = (upd (upd (upd (upd (upd f65 (Int32.toNatClampNeg 0) (-1)) (Int32.toNatClampNeg 1) (-1)) (Int32.toNatClampNeg 2) (-1)) (Int32.toNatClampNeg 3) (-1)) (Int32.toNatClampNeg 0) 5) (Int32.toNatClampNeg 2) from rfl) (Eq.trans (show (upd (upd (upd (upd (upd f65 (Int32.toNatClampNeg 0) (-1)) (Int32.toNatClampNeg 1) (-1)) (Int32.toNatClampNeg 2) (-1)) (Int32.toNatClampNeg 3) (-1)) (Int32.toNatClampNeg 0) 5) (Int32.toNatClampNeg 2) = (upd (upd (upd (upd f65 (Int32.toNatClampNeg 0) (-1)) (Int32.toNatClampNeg 1) (-1)) (Int32.toNatClampNeg 2) (-1)) (Int32.toNatClampNeg 3) (-1)) (Int32.toNatClampNeg 2) from rfl) (Eq.trans (show (upd (upd (upd (upd f65 (Int32.toNatClampNeg 0) (-1)) (Int32.toNatClampNeg 1) (-1)) (Int32.toNatClampNeg 2) (-1)) (Int32.toNatClampNeg 3) (-1)) (Int32.toNatClampNeg 2) = (upd (upd (upd f65 (Int32.toNatClampNeg 0) (-1)) (Int32.toNatClampNeg 1) (-1)) (Int32.toNatClampNeg 2) (-1)) (Int32.toNatClampNeg 2) from rfl) rfl))) rfl ?_
                    refine rf_R_ist pm_M185 T257 (pc' := 49) rfl e259 (by decide) (by decide) (sf_in B266 (by decide) (by decide)) ⟨_, rfl⟩ rfl (fun h270 T271 F272 e273 => ?_)
                    have F274 := F260.trans F272 (by decide)
                    have w275 := rf_w3o (sf_aux121 _ _ _ _ e231 e234 e265) B50
                    have ct276 : rf_ct 3 (upd (upd (upd f2 (Int32.toNatClampNeg z236) 5) (Int32.toNatClampNeg z250) (m53 14)) (Int32.toNatClampNeg z264) (-1)) := (sf_eqL (Eq.trans (sf_upd_ne (j := Int32.toNatClampNeg 0) B266 (by decide) (by decide)) (Eq.trans (sf_upd_ne (j := Int32.toNatClampNeg 0) B252 (by decide) (by decide)) (Eq.trans (sf_upd_ne (j := Int32.toNatClampNeg 0) B238 (by decide) (by decide)) rfl))) (sf_weak B50 (by decide) (by decide)))
                    have bd277 : (m214 17).toInt = 0 → rf_bd 3 (upd (upd (upd f2 (Int32.toNatClampNeg z236) 5) (Int32.toNatClampNeg z250) (m53 14)) (Int32.toNatClampNeg z264) (-1)) := fun z => ((bd263 z).set (k := z264) (sf_weak sf_kn1 (by decide) (by decide)) w275.1 w275.2)
                    refine pm_R_lo pm_M185 (pc' := 52) (ls' := [.ref 41, .int 0, .int 1, .int 3, .int 8, .int 0, .int (f2 0), .int 3]) (st' := []) rfl rfl rfl ?_
                    refine pm_R_br pm_M185 (pc' := 19) rfl rfl ?_
                    refine pm_R_lo pm_M185 (pc' := 21) rfl rfl rfl ?_
                    refine pm_R_lo pm_M185 (pc' := 22) rfl rfl rfl ?_
                    refine pm_R_br pm_M185 (pc' := 55) (st' := []) rfl rfl ?_
                    refine pm_R_lo pm_M185 (pc' := 56) rfl rfl rfl ?_
                    refine rf_R_get pm_M185 T271 (pc' := 59) (v := .ref 51) rfl rfl rfl rfl ?_
                    refine pm_R_lo pm_M185 (pc' := 60) rfl rfl rfl ?_
                    refine pm_R_op pm_M185 (pc' := 61) (st' := [.int 0, .ref 51, .int 0, .ref 51]) rfl rfl rfl ?_
                    refine pm_R_iald pm_M185 (pc' := 62) (v := (f2 0)) rfl e273 (Nat.lt_of_lt_of_le (by decide) T271.1) rfl (Eq.trans (sf_upd_ne (j := Int32.toNatClampNeg 0) B266 (by decide) (by decide)) (Eq.trans (sf_upd_ne (j := Int32.toNatClampNeg 0) B252 (by decide) (by decide)) (Eq.trans (sf_upd_ne (j := Int32.toNatClampNeg 0) B238 (by decide) (by decide)) rfl))) rfl ?_
                    refine pm_R_op pm_M185 (pc' := 63) (st' := [.int 1, .int (f2 0), .int 0, .ref 51]) rfl rfl rfl ?_
                    refine sf_R_iadd pm_M185 (pc' := 64) rfl rfl B50 sf_k1 (by decide) (by decide) (fun z280 e281 B282 => ?_)
                    refine rf_R_ist pm_M185 T271 (pc' := 65) rfl e273 (by decide) (by decide) rfl ⟨_, rfl⟩ rfl (fun h283 T284 F285 e286 => ?_)
                    have F287 := F274.trans F285 (by decide)
                    have ct288 : rf_ct 3 (upd (upd (upd (upd f2 (Int32.toNatClampNeg z236) 5) (Int32.toNatClampNeg z250) (m53 14)) (Int32.toNatClampNeg z264) (-1)) (Int32.toNatClampNeg 0) z280) := (sf_eqL rfl (sf_weak B282 (by decide) (by decide)))
                    have bd289 : (m214 17).toInt = 0 → rf_bd 3 (upd (upd (upd (upd f2 (Int32.toNatClampNeg z236) 5) (Int32.toNatClampNeg z250) (m53 14)) (Int32.toNatClampNeg z264) (-1)) (Int32.toNatClampNeg 0) z280) := fun z => ((bd277 z).set (k := 0) B282 (by decide) (by decide))
                    refine pm_R_ret pm_M185 (r := none) rfl rfl ?_
                    show pm_R _ 192 173 [.ref 41, .long a0, pm_no, .int a1, .int 5] [] _ _
                    refine pm_R_op pm_M192 (pc' := 174) (st' := [.int 1]) (pm_q192_1 (Nat.le_of_ble_eq_true rfl)) rfl rfl ?_
                    have B290 : sf_B 0 600 (m214 10) := T284.2.2.1 10
                    exact pm_R_ret pm_M192 (r := some (.int 1)) (pm_q192_1 (Nat.le_of_ble_eq_true rfl)) rfl (K1 m214 w215 h283 T284 F287 W225 (⟨(upd (upd (upd (upd f2 (Int32.toNatClampNeg z236) 5) (Int32.toNatClampNeg z250) (m53 14)) (Int32.toNatClampNeg z264) (-1)) (Int32.toNatClampNeg 0) z280), e286, ct288, fun z => (bd289 z)⟩) (sf_aux116 _ _ _ X59 X220))
                · skip
                  refine pm_R_lo pm_M183 (pc' := 9) rfl rfl rfl ?_
                  refine pm_R_cv pm_M183 (pc' := 12) (a := 41) (ra := []) (rest := []) (ls' := [.ref 41]) rfl rfl (Or.inl rfl) pm_M184 T89.2.1 rfl (by decide) (Nat.lt_of_lt_of_le (by decide) T89.1) rfl rfl (Nat.le_of_ble_eq_true rfl) rfl rfl ?_
                  refine pm_R_lo pm_M184 (pc' := 1) rfl rfl rfl ?_
                  refine pm_R_lo pm_M184 (pc' := 2) rfl rfl rfl ?_
                  have B291 : sf_B 0 600 (m53 12) := T89.2.2.1 12
                  refine rf_R_get pm_M184 T89 (pc' := 5) (v := .int (m53 12)) rfl rfl rfl rfl ?_
                  refine rf_R_put pm_M184 T89 (pc' := 8) rfl rfl rfl (by decide) rfl rfl B291 rfl rfl (fun h292 m295 em296 T293 F294 => ?_)
                  have F297 := F92.trans F294 (by decide)
                  have B298 : sf_B 0 4 (m295 17) := by rw [em296]; exact B62
                  have ek299 : (m295 17).toInt = ((m 17)).toInt := by rw [em296]; exact ek63
                  have B300 : sf_B 0 600 (m295 16) := by rw [em296]; exact B291
                  have ek301 : (m295 16).toInt = ((m53 12)).toInt := by rw [em296]; rfl
                  have W302 : rf_W [10, 12, 13, 14, 16, 17, 18, 22] m m295 := by rw [em296]; exact W64.put (by decide)
                  refine pm_R_op pm_M184 (pc' := 9) (st' := [.int 0]) rfl rfl rfl ?_
                  refine pm_R_ret pm_M184 (r := some (.int 0)) rfl rfl ?_
                  show pm_R _ 183 12 [.ref 41, .int 1, .int 9, .int (-1)] [.int 0] _ _
                  refine pm_R_ret pm_M183 (r := some (.int 0)) rfl rfl ?_
                  show pm_R _ 192 127 [.ref 41, .long a0, pm_no, .int a1, .int 5] [.int 0] _ _
                  refine pm_R_br pm_M192 (pc' := 130) (st' := []) (pm_q192_1 (Nat.le_of_ble_eq_true rfl)) rfl ?_
                  refine pm_R_op pm_M192 (pc' := 131) (st' := [.int 0]) (pm_q192_1 (Nat.le_of_ble_eq_true rfl)) rfl rfl ?_
                  have B303 : sf_B 0 600 (m295 10) := T293.2.2.1 10
                  exact pm_R_ret pm_M192 (r := some (.int 0)) (pm_q192_1 (Nat.le_of_ble_eq_true rfl)) rfl (K0 m295 w54 h292 T293 F297 W302 (sf_aux91 _ _ _ X59))
              · have B304 : sf_B 8 8 (f2 0) := sf_eqL (Classical.not_not.mp c49) sf_k8
                refine pm_R_lo pm_M192 (pc' := 98) rfl rfl rfl ?_
                refine pm_R_op pm_M192 (pc' := 99) (st' := [.int 3, .ref 41]) rfl rfl rfl ?_
                refine pm_R_lo pm_M192 (pc' := 100) rfl rfl rfl ?_
                refine pm_R_cv pm_M192 (pc' := 103) (a := 41) (ra := [.int a1, .int 3]) (rest := []) (ls' := [.ref 41, .int 3, .int a1]) rfl rfl (Or.inl rfl) pm_M182 T.2.1 rfl (by decide) (Nat.lt_of_lt_of_le (by decide) T.1) rfl rfl (Nat.le_of_ble_eq_true rfl) rfl rfl ?_
                refine rf_c182 (d := d + 2) T (sf_weak sf_k3 (by decide) (by decide)) Ba1 (fun m307 w308 h309 T310 F311 W312 B313 => ?_)
                have F314 := (rf_G.refl [41, 51, 52] h).trans F311 (by decide)
                have B315 : sf_B 0 600 (m307 10) := by rw [W312 10 (by decide)]; exact B1
                have ek316 : (m307 10).toInt = ((m 10)).toInt := by rw [W312 10 (by decide)]
                have W317 : rf_W [10, 12, 13, 14, 16, 17, 18, 22] m m307 := (rf_W.refl [10, 12, 13, 14, 16, 17, 18, 22] m).trans W312 (by decide)
                show pm_R _ 192 103 [.ref 41, .long a0, pm_no, .int a1, .int 5] [] _ _
                refine pm_R_lo pm_M192 (pc' := 104) rfl rfl rfl ?_
                refine pm_R_cv pm_M192 (pc' := 107) (a := 41) (ra := []) (rest := []) (ls' := [.ref 41, pm_no, pm_no]) rfl rfl (Or.inl rfl) pm_M179 T310.2.1 rfl (by decide) (Nat.lt_of_lt_of_le (by decide) T310.1) rfl rfl (Nat.le_of_ble_eq_true rfl) rfl rfl ?_
                refine rf_c179 (d := d + 1) T310  (fun m320 w321 h322 T323 F324 W325 X326 X327 => ?_)
                have F328 := F314.trans F324 (by decide)
                have B329 : sf_B 1 4 (m320 17) := by rw [W325 17 (by decide)]; exact B313
                have ek330 : (m320 17).toInt = ((m307 17)).toInt := by rw [W325 17 (by decide)]
                have W331 : rf_W [10, 12, 13, 14, 16, 17, 18, 22] m m320 := W317.trans W325 (by decide)
                show pm_R _ 192 107 [.ref 41, .long a0, pm_no, .int a1, .int 5] [] _ _
                refine pm_R_lo pm_M192 (pc' := 108) rfl rfl rfl ?_
                refine pm_R_cv pm_M192 (pc' := 111) (a := 41) (ra := []) (rest := []) (ls' := [.ref 41, pm_no]) rfl rfl (Or.inl rfl) pm_M190 T323.2.1 rfl (by decide) (Nat.lt_of_lt_of_le (by decide) T323.1) rfl rfl (Nat.le_of_ble_eq_true rfl) rfl rfl ?_
                refine pm_R_op pm_M190 (pc' := 1) (st' := [.int 0]) rfl rfl rfl ?_
                refine pm_R_lo pm_M190 (pc' := 2) (ls' := [.ref 41, .int 0]) (st' := []) rfl rfl rfl ?_
                refine pm_R_lo pm_M190 (pc' := 3) rfl rfl rfl ?_
                refine pm_R_op pm_M190 (pc' := 4) (st' := [.int 4, .int 0]) rfl rfl rfl ?_
                refine pm_R_br pm_M190 (pc' := 7) (st' := []) rfl rfl ?_
                refine pm_R_lo pm_M190 (pc' := 8) rfl rfl rfl ?_
                refine rf_R_get pm_M190 T323 (pc' := 11) (v := .ref 52) rfl rfl rfl rfl ?_
                refine pm_R_lo pm_M190 (pc' := 12) rfl rfl rfl ?_
                refine pm_R_op pm_M190 (pc' := 13) (st' := [.int (-1), .int 0, .ref 52]) rfl rfl rfl ?_
                obtain ⟨f332, e333, b334⟩ := T323.2.2.2.1 52 (by decide) (by decide)
                refine rf_R_ist pm_M190 T323 (pc' := 14) rfl e333 (by decide) (by decide) rfl ⟨_, rfl, sf_upd b334 (sf_weak sf_kn1 (by decide) (by decide)) _⟩ rfl (fun h335 T336 F337 e338 => ?_)
                have F339 := F328.trans F337 (by decide)
                refine pm_R_lo pm_M190 (pc' := 17) (ls' := [.ref 41, .int 1]) (st' := []) rfl rfl rfl ?_
                refine pm_R_br pm_M190 (pc' := 2) rfl rfl ?_
                refine pm_R_lo pm_M190 (pc' := 3) rfl rfl rfl ?_
                refine pm_R_op pm_M190 (pc' := 4) (st' := [.int 4, .int 1]) rfl rfl rfl ?_
                refine pm_R_br pm_M190 (pc' := 7) (st' := []) rfl rfl ?_
                refine pm_R_lo pm_M190 (pc' := 8) rfl rfl rfl ?_
                refine rf_R_get pm_M190 T336 (pc' := 11) (v := .ref 52) rfl rfl rfl rfl ?_
                refine pm_R_lo pm_M190 (pc' := 12) rfl rfl rfl ?_
                refine pm_R_op pm_M190 (pc' := 13) (st' := [.int (-1), .int 1, .ref 52]) rfl rfl rfl ?_
                refine rf_R_ist pm_M190 T336 (pc' := 14) rfl e338 (by decide) (by decide) rfl ⟨_, rfl, sf_upd (sf_upd b334 (sf_weak sf_kn1 (by decide) (by decide)) _) (sf_weak sf_kn1 (by decide) (by decide)) _⟩ rfl (fun h340 T341 F342 e343 => ?_)
                have F344 := F339.trans F342 (by decide)
                refine pm_R_lo pm_M190 (pc' := 17) (ls' := [.ref 41, .int 2]) (st' := []) rfl rfl rfl ?_
                refine pm_R_br pm_M190 (pc' := 2) rfl rfl ?_
                refine pm_R_lo pm_M190 (pc' := 3) rfl rfl rfl ?_
                refine pm_R_op pm_M190 (pc' := 4) (st' := [.int 4, .int 2]) rfl rfl rfl ?_
                refine pm_R_br pm_M190 (pc' := 7) (st' := []) rfl rfl ?_
                refine pm_R_lo pm_M190 (pc' := 8) rfl rfl rfl ?_
                refine rf_R_get pm_M190 T341 (pc' := 11) (v := .ref 52) rfl rfl rfl rfl ?_
                refine pm_R_lo pm_M190 (pc' := 12) rfl rfl rfl ?_
                refine pm_R_op pm_M190 (pc' := 13) (st' := [.int (-1), .int 2, .ref 52]) rfl rfl rfl ?_
                refine rf_R_ist pm_M190 T341 (pc' := 14) rfl e343 (by decide) (by decide) rfl ⟨_, rfl, sf_upd (sf_upd (sf_upd b334 (sf_weak sf_kn1 (by decide) (by decide)) _) (sf_weak sf_kn1 (by decide) (by decide)) _) (sf_weak sf_kn1 (by decide) (by decide)) _⟩ rfl (fun h345 T346 F347 e348 => ?_)
                have F349 := F344.trans F347 (by decide)
                refine pm_R_lo pm_M190 (pc' := 17) (ls' := [.ref 41, .int 3]) (st' := []) rfl rfl rfl ?_
                refine pm_R_br pm_M190 (pc' := 2) rfl rfl ?_
                refine pm_R_lo pm_M190 (pc' := 3) rfl rfl rfl ?_
                refine pm_R_op pm_M190 (pc' := 4) (st' := [.int 4, .int 3]) rfl rfl rfl ?_
                refine pm_R_br pm_M190 (pc' := 7) (st' := []) rfl rfl ?_
                refine pm_R_lo pm_M190 (pc' := 8) rfl rfl rfl ?_
                refine rf_R_get pm_M190 T346 (pc' := 11) (v := .ref 52) rfl rfl rfl rfl ?_
                refine pm_R_lo pm_M190 (pc' := 12) rfl rfl rfl ?_
                refine pm_R_op pm_M190 (pc' := 13) (st' := [.int (-1), .int 3, .ref 52]) rfl rfl rfl ?_
                refine rf_R_ist pm_M190 T346 (pc' := 14) rfl e348 (by decide) (by decide) rfl ⟨_, rfl, sf_upd (sf_upd (sf_upd (sf_upd b334 (sf_weak sf_kn1 (by decide) (by decide)) _) (sf_weak sf_kn1 (by decide) (by decide)) _) (sf_weak sf_kn1 (by decide) (by decide)) _) (sf_weak sf_kn1 (by decide) (by decide)) _⟩ rfl (fun h350 T351 F352 e353 => ?_)
                have F354 := F349.trans F352 (by decide)
                refine pm_R_lo pm_M190 (pc' := 17) (ls' := [.ref 41, .int 4]) (st' := []) rfl rfl rfl ?_
                refine pm_R_br pm_M190 (pc' := 2) rfl rfl ?_
                refine pm_R_lo pm_M190 (pc' := 3) rfl rfl rfl ?_
                refine pm_R_op pm_M190 (pc' := 4) (st' := [.int 4, .int 4]) rfl rfl rfl ?_
                refine pm_R_br pm_M190 (pc' := 20) (st' := []) rfl rfl ?_
                refine pm_R_ret pm_M190 (r := none) rfl rfl ?_
                show pm_R _ 192 111 [.ref 41, .long a0, pm_no, .int a1, .int 5] [] _ _
                refine pm_R_lo pm_M192 (pc' := 112) rfl rfl rfl ?_
                refine rf_R_get pm_M192 T351 (pc' := 115) (v := .ref 52) rfl rfl rfl rfl ?_
                refine pm_R_op pm_M192 (pc' := 116) (st' := [.int 0, .ref 52]) (pm_q192_1 (Nat.le_of_ble_eq_true rfl)) rfl rfl ?_
                refine pm_R_lo pm_M192 (pc' := 118) (pm_q192_1 (Nat.le_of_ble_eq_true rfl)) rfl rfl ?_
                refine rf_R_ist pm_M192 T351 (pc' := 119) (pm_q192_1 (Nat.le_of_ble_eq_true rfl)) e353 (by decide) (by decide) rfl ⟨_, rfl, sf_upd (sf_upd (sf_upd (sf_upd (sf_upd b334 (sf_weak sf_kn1 (by decide) (by decide)) _) (sf_weak sf_kn1 (by decide) (by decide)) _) (sf_weak sf_kn1 (by decide) (by decide)) _) (sf_weak sf_kn1 (by decide) (by decide)) _) (sf_weak sf_k5 (by decide) (by decide)) _⟩ rfl (fun h355 T356 F357 e358 => ?_)
                have F359 := F354.trans F357 (by decide)
                refine pm_R_lo pm_M192 (pc' := 120) (pm_q192_1 (Nat.le_of_ble_eq_true rfl)) rfl rfl ?_
                refine pm_R_op pm_M192 (pc' := 121) (st' := [.int 1, .ref 41]) (pm_q192_1 (Nat.le_of_ble_eq_true rfl)) rfl rfl ?_
                refine pm_R_op pm_M192 (pc' := 123) (st' := [.int 9, .int 1, .ref 41]) (pm_q192_1 (Nat.le_of_ble_eq_true rfl)) rfl rfl ?_
                refine pm_R_op pm_M192 (pc' := 124) (st' := [.int (-1), .int 9, .int 1, .ref 41]) (pm_q192_1 (Nat.le_of_ble_eq_true rfl)) rfl rfl ?_
                refine pm_R_cv pm_M192 (pc' := 127) (a := 41) (ra := [.int (-1), .int 9, .int 1]) (rest := []) (ls' := [.ref 41, .int 1, .int 9, .int (-1)]) (pm_q192_1 (Nat.le_of_ble_eq_true rfl)) rfl (Or.inl rfl) pm_M183 T356.2.1 rfl (by decide) (Nat.lt_of_lt_of_le (by decide) T356.1) rfl rfl (Nat.le_of_ble_eq_true rfl) rfl rfl ?_
                refine pm_R_lo pm_M183 (pc' := 1) rfl rfl rfl ?_
                have B360 : sf_B 0 4 (m320 13) := T356.2.2.1 13
                refine rf_R_get pm_M183 T356 (pc' := 4) (v := .int (m320 13)) rfl rfl rfl rfl ?_
                refine pm_R_op pm_M183 (pc' := 5) (st' := [.int 3, .int (m320 13)]) rfl rfl rfl ?_
                refine pm_R_icmp pm_M183 (t := 13) (pc' := 8) rfl rfl rfl (fun c361 => ?_) (fun c361 => ?_)
                · have B362 : sf_B 3 3 (m320 13) := sf_eqL c361 sf_k3
                  refine pm_R_lo pm_M183 (pc' := 14) rfl rfl rfl ?_
                  refine rf_R_get pm_M183 T356 (pc' := 17) (v := .ref 52) rfl rfl rfl rfl ?_
                  refine pm_R_lo pm_M183 (pc' := 18) rfl rfl rfl ?_
                  refine pm_R_lo pm_M183 (pc' := 19) rfl rfl rfl ?_
                  have B363 : sf_B 0 99 (m320 14) := T356.2.2.1 14
                  refine rf_R_get pm_M183 T356 (pc' := 22) (v := .int (m320 14)) rfl rfl rfl rfl ?_
                  refine rf_R_ist pm_M183 T356 (pc' := 23) rfl e358 (by decide) (by decide) rfl ⟨_, rfl, sf_upd (sf_upd (sf_upd (sf_upd (sf_upd (sf_upd b334 (sf_weak sf_kn1 (by decide) (by decide)) _) (sf_weak sf_kn1 (by decide) (by decide)) _) (sf_weak sf_kn1 (by decide) (by decide)) _) (sf_weak sf_kn1 (by decide) (by decide)) _) (sf_weak sf_k5 (by decide) (by decide)) _) (sf_weak B363 (by decide) (by decide)) _⟩ rfl (fun h364 T365 F366 e367 => ?_)
                  have F368 := F359.trans F366 (by decide)
                  refine pm_R_lo pm_M183 (pc' := 24) rfl rfl rfl ?_
                  refine rf_R_get pm_M183 T365 (pc' := 27) (v := .int (m320 14)) rfl rfl rfl rfl ?_
                  refine pm_R_lo pm_M183 (pc' := 28) rfl rfl rfl ?_
                  refine pm_R_icmp pm_M183 (t := 39) (pc' := 31) rfl rfl rfl (fun c369 => ?_) (fun c369 => ?_)
                  · have B370 : sf_B 10 99 (m320 14) := sf_ltR c369 sf_k9 B363
                    refine pm_R_lo pm_M183 (pc' := 40) rfl rfl rfl ?_
                    refine pm_R_op pm_M183 (pc' := 41) (st' := [.int 2, .ref 41]) rfl rfl rfl ?_
                    refine pm_R_lo pm_M183 (pc' := 42) rfl rfl rfl ?_
                    have B371 : sf_B 0 600 (m320 12) := T365.2.2.1 12
                    refine rf_R_get pm_M183 T365 (pc' := 45) (v := .int (m320 12)) rfl rfl rfl rfl ?_
                    refine pm_R_cv pm_M183 (pc' := 48) (a := 41) (ra := [.int (m320 12), .int 2]) (rest := []) (ls' := [.ref 41, .int 2, .int (m320 12)]) rfl rfl (Or.inl rfl) pm_M182 T365.2.1 rfl (by decide) (Nat.lt_of_lt_of_le (by decide) T365.1) rfl rfl (Nat.le_of_ble_eq_true rfl) rfl rfl ?_
                    refine rf_c182 (d := d + 1) T365 (sf_weak sf_k2 (by decide) (by decide)) B371 (fun m374 w375 h376 T377 F378 W379 B380 => ?_)
                    have F381 := F368.trans F378 (by decide)
                    have B382 : sf_B 3 3 (m374 13) := by rw [W379 13 (by decide)]; exact B362
                    have B383 : sf_B 10 99 (m374 14) := by rw [W379 14 (by decide)]; exact B370
                    have W384 : rf_W [10, 12, 13, 14, 16, 17, 18, 22] m m374 := W331.trans W379 (by decide)
                    show pm_R _ 183 48 [.ref 41, .int 1, .int 9, .int (-1)] [] _ _
                    refine pm_R_lo pm_M183 (pc' := 49) rfl rfl rfl ?_
                    refine pm_R_op pm_M183 (pc' := 50) (st' := [.int 0, .ref 41]) rfl rfl rfl ?_
                    refine rf_R_put pm_M183 T377 (pc' := 53) rfl rfl rfl (by decide) rfl rfl (sf_weak sf_k0 (by decide) (by decide)) rfl rfl (fun h385 m388 em389 T386 F387 => ?_)
                    have F390 := F381.trans F387 (by decide)
                    have B391 : sf_B 3 3 (m388 13) := by rw [em389]; exact B382
                    have B392 : sf_B 10 99 (m388 14) := by rw [em389]; exact B383
                    have B393 : sf_B 1 4 (m388 17) := by rw [em389]; exact B380
                    have ek394 : (m388 17).toInt = ((m374 17)).toInt := by rw [em389]; rfl
                    have B395 : sf_B 0 0 (m388 22) := by rw [em389]; exact sf_k0
                    have W397 : rf_W [10, 12, 13, 14, 16, 17, 18, 22] m m388 := by rw [em389]; exact W384.put (by decide)
                    refine pm_R_lo pm_M183 (pc' := 54) rfl rfl rfl ?_
                    refine pm_R_cv pm_M183 (pc' := 57) (a := 41) (ra := []) (rest := []) (ls' := [.ref 41, pm_no, pm_no]) rfl rfl (Or.inl rfl) pm_M179 T386.2.1 rfl (by decide) (Nat.lt_of_lt_of_le (by decide) T386.1) rfl rfl (Nat.le_of_ble_eq_true rfl) rfl rfl ?_
                    have B398 : sf_B 0 600 (m388 10) := T386.2.2.1 10
                    refine rf_c179 (d := d + 0) T386  (fun m401 w402 h403 T404 F405 W406 X407 X408 => ?_)
                    have F409 := F390.trans F405 (by decide)
                    have B410 : sf_B 1 4 (m401 17) := by rw [W406 17 (by decide)]; exact B393
                    have ek411 : (m401 17).toInt = ((m374 17)).toInt := by rw [W406 17 (by decide)]; exact ek394
                    have B412 : sf_B 0 0 (m401 22) := by rw [W406 22 (by decide)]; exact B395
                    have W413 : rf_W [10, 12, 13, 14, 16, 17, 18, 22] m m401 := W397.trans W406 (by decide)
                    show pm_R _ 183 57 [.ref 41, .int 1, .int 9, .int (-1)] [] _ _
                    refine pm_R_op pm_M183 (pc' := 58) (st' := [.int 1]) rfl rfl rfl ?_
                    refine pm_R_ret pm_M183 (r := some (.int 1)) rfl rfl ?_
                    show pm_R _ 192 127 [.ref 41, .long a0, pm_no, .int a1, .int 5] [.int 1] _ _
                    refine pm_R_br pm_M192 (pc' := 132) (st' := []) (pm_q192_1 (Nat.le_of_ble_eq_true rfl)) rfl ?_
                    refine pm_R_lo pm_M192 (pc' := 134) (pm_q192_1 (Nat.le_of_ble_eq_true rfl)) rfl rfl ?_
                    refine pm_R_op pm_M192 (pc' := 135) (st' := [.int 1, .int 5]) (pm_q192_1 (Nat.le_of_ble_eq_true rfl)) rfl rfl ?_
                    refine pm_R_br pm_M192 (pc' := 138) (st' := []) (pm_q192_1 (Nat.le_of_ble_eq_true rfl)) rfl ?_
                    refine pm_R_lo pm_M192 (pc' := 140) (pm_q192_1 (Nat.le_of_ble_eq_true rfl)) rfl rfl ?_
                    refine pm_R_op pm_M192 (pc' := 141) (st' := [.int 2, .int 5]) (pm_q192_1 (Nat.le_of_ble_eq_true rfl)) rfl rfl ?_
                    refine pm_R_br pm_M192 (pc' := 144) (st' := []) (pm_q192_1 (Nat.le_of_ble_eq_true rfl)) rfl ?_
                    refine pm_R_lo pm_M192 (pc' := 146) (pm_q192_1 (Nat.le_of_ble_eq_true rfl)) rfl rfl ?_
                    refine pm_R_op pm_M192 (pc' := 147) (st' := [.int 3, .int 5]) (pm_q192_1 (Nat.le_of_ble_eq_true rfl)) rfl rfl ?_
                    refine pm_R_br pm_M192 (pc' := 163) (st' := []) (pm_q192_1 (Nat.le_of_ble_eq_true rfl)) rfl ?_
                    refine pm_R_lo pm_M192 (pc' := 164) (pm_q192_1 (Nat.le_of_ble_eq_true rfl)) rfl rfl ?_
                    refine pm_R_op pm_M192 (pc' := 165) (st' := [.int 0, .ref 41]) (pm_q192_1 (Nat.le_of_ble_eq_true rfl)) rfl rfl ?_
                    refine pm_R_op pm_M192 (pc' := 166) (st' := [.int 1, .int 0, .ref 41]) (pm_q192_1 (Nat.le_of_ble_eq_true rfl)) rfl rfl ?_
                    refine pm_R_op pm_M192 (pc' := 167) (st' := [.int 3, .int 1, .int 0, .ref 41]) (pm_q192_1 (Nat.le_of_ble_eq_true rfl)) rfl rfl ?_
                    refine pm_R_op pm_M192 (pc' := 169) (st' := [.int 8, .int 3, .int 1, .int 0, .ref 41]) (pm_q192_1 (Nat.le_of_ble_eq_true rfl)) rfl rfl ?_
                    refine pm_R_op pm_M192 (pc' := 170) (st' := [.int 0, .int 8, .int 3, .int 1, .int 0, .ref 41]) (pm_q192_1 (Nat.le_of_ble_eq_true rfl)) rfl rfl ?_
                    refine pm_R_cv pm_M192 (pc' := 173) (a := 41) (ra := [.int 0, .int 8, .int 3, .int 1, .int 0]) (rest := []) (ls' := [.ref 41, .int 0, .int 1, .int 3, .int 8, .int 0, pm_no, pm_no]) (pm_q192_1 (Nat.le_of_ble_eq_true rfl)) rfl (Or.inl rfl) pm_M185 T404.2.1 rfl (by decide) (Nat.lt_of_lt_of_le (by decide) T404.1) rfl rfl (Nat.le_of_ble_eq_true rfl) rfl rfl ?_
                    refine pm_R_lo pm_M185 (pc' := 1) rfl rfl rfl ?_
                    refine rf_R_get pm_M185 T404 (pc' := 4) (v := .ref 51) rfl rfl rfl rfl ?_
                    refine pm_R_lo pm_M185 (pc' := 5) rfl rfl rfl ?_
                    have e414 := (F405.cell (by decide) (F387.cell (by decide) (F378.cell (by decide) (F366.cell (by decide) (F357.cell (by decide) (F352.cell (by decide) (F347.cell (by decide) (F342.cell (by decide) (F337.cell (by decide) (F324.cell (by decide) (F311.cell (by decide) e3)))))))))))
                    refine pm_R_iald pm_M185 (pc' := 6) (v := (f2 0)) rfl e414 (Nat.lt_of_lt_of_le (by decide) T404.1) rfl rfl rfl ?_
                    refine pm_R_lo pm_M185 (pc' := 8) (ls' := [.ref 41, .int 0, .int 1, .int 3, .int 8, .int 0, .int (f2 0), pm_no]) (st' := []) rfl rfl rfl ?_
                    refine pm_R_lo pm_M185 (pc' := 10) rfl rfl rfl ?_
                    refine pm_R_lo pm_M185 (pc' := 12) rfl rfl rfl ?_
                    refine pm_R_icmp pm_M185 (t := 16) (pc' := 15) rfl rfl rfl (fun c417 => absurd (sf_pt2 B304 sf_k8) c417) (fun c417 => ?_)
                    refine pm_R_ret pm_M185 (r := none) rfl rfl ?_
                    show pm_R _ 192 173 [.ref 41, .long a0, pm_no, .int a1, .int 5] [] _ _
                    refine pm_R_op pm_M192 (pc' := 174) (st' := [.int 1]) (pm_q192_1 (Nat.le_of_ble_eq_true rfl)) rfl rfl ?_
                    have B418 : sf_B 0 600 (m401 10) := T404.2.2.1 10
                    exact pm_R_ret pm_M192 (r := some (.int 1)) (pm_q192_1 (Nat.le_of_ble_eq_true rfl)) rfl (K1 m401 w402 h403 T404 F409 W413 (⟨f2, e414, ct4, fun z => (sf_pos B410 (by decide) z)⟩) (sf_aux122 _ _ _ _ _ X326 X407))
                  · have B419 : sf_B 0 9 (m320 14) := sf_leL (Int32.not_lt.mp c369) B363 sf_k9
                    refine pm_R_lo pm_M183 (pc' := 32) rfl rfl rfl ?_
                    refine rf_R_get pm_M183 T365 (pc' := 35) (v := .int (m320 14)) rfl rfl rfl rfl ?_
                    refine pm_R_lo pm_M183 (pc' := 36) rfl rfl rfl ?_
                    refine pm_R_icmp pm_M183 (t := 53) (pc' := 39) rfl rfl rfl (fun c420 => ?_) (fun c420 => absurd (Classical.not_not.mp c420) (sf_neq1 B419 sf_kn1 (by decide)))
                    skip
                    refine pm_R_lo pm_M183 (pc' := 54) rfl rfl rfl ?_
                    refine pm_R_cv pm_M183 (pc' := 57) (a := 41) (ra := []) (rest := []) (ls' := [.ref 41, pm_no, pm_no]) rfl rfl (Or.inl rfl) pm_M179 T365.2.1 rfl (by decide) (Nat.lt_of_lt_of_le (by decide) T365.1) rfl rfl (Nat.le_of_ble_eq_true rfl) rfl rfl ?_
                    have B421 : sf_B 0 600 (m320 10) := T365.2.2.1 10
                    refine rf_c179 (d := d + 0) T365  (fun m424 w425 h426 T427 F428 W429 X430 X431 => ?_)
                    have F432 := F368.trans F428 (by decide)
                    have B433 : sf_B 1 4 (m424 17) := by rw [W429 17 (by decide)]; exact B329
                    have ek434 : (m424 17).toInt = ((m307 17)).toInt := by rw [W429 17 (by decide)]; exact ek330
                    have W435 : rf_W [10, 12, 13, 14, 16, 17, 18, 22] m m424 := W331.trans W429 (by decide)
                    show pm_R _ 183 57 [.ref 41, .int 1, .int 9, .int (-1)] [] _ _
                    refine pm_R_op pm_M183 (pc' := 58) (st' := [.int 1]) rfl rfl rfl ?_
                    refine pm_R_ret pm_M183 (r := some (.int 1)) rfl rfl ?_
                    show pm_R _ 192 127 [.ref 41, .long a0, pm_no, .int a1, .int 5] [.int 1] _ _
                    refine pm_R_br pm_M192 (pc' := 132) (st' := []) (pm_q192_1 (Nat.le_of_ble_eq_true rfl)) rfl ?_
                    refine pm_R_lo pm_M192 (pc' := 134) (pm_q192_1 (Nat.le_of_ble_eq_true rfl)) rfl rfl ?_
                    refine pm_R_op pm_M192 (pc' := 135) (st' := [.int 1, .int 5]) (pm_q192_1 (Nat.le_of_ble_eq_true rfl)) rfl rfl ?_
                    refine pm_R_br pm_M192 (pc' := 138) (st' := []) (pm_q192_1 (Nat.le_of_ble_eq_true rfl)) rfl ?_
                    refine pm_R_lo pm_M192 (pc' := 140) (pm_q192_1 (Nat.le_of_ble_eq_true rfl)) rfl rfl ?_
                    refine pm_R_op pm_M192 (pc' := 141) (st' := [.int 2, .int 5]) (pm_q192_1 (Nat.le_of_ble_eq_true rfl)) rfl rfl ?_
                    refine pm_R_br pm_M192 (pc' := 144) (st' := []) (pm_q192_1 (Nat.le_of_ble_eq_true rfl)) rfl ?_
                    refine pm_R_lo pm_M192 (pc' := 146) (pm_q192_1 (Nat.le_of_ble_eq_true rfl)) rfl rfl ?_
                    refine pm_R_op pm_M192 (pc' := 147) (st' := [.int 3, .int 5]) (pm_q192_1 (Nat.le_of_ble_eq_true rfl)) rfl rfl ?_
                    refine pm_R_br pm_M192 (pc' := 163) (st' := []) (pm_q192_1 (Nat.le_of_ble_eq_true rfl)) rfl ?_
                    refine pm_R_lo pm_M192 (pc' := 164) (pm_q192_1 (Nat.le_of_ble_eq_true rfl)) rfl rfl ?_
                    refine pm_R_op pm_M192 (pc' := 165) (st' := [.int 0, .ref 41]) (pm_q192_1 (Nat.le_of_ble_eq_true rfl)) rfl rfl ?_
                    refine pm_R_op pm_M192 (pc' := 166) (st' := [.int 1, .int 0, .ref 41]) (pm_q192_1 (Nat.le_of_ble_eq_true rfl)) rfl rfl ?_
                    refine pm_R_op pm_M192 (pc' := 167) (st' := [.int 3, .int 1, .int 0, .ref 41]) (pm_q192_1 (Nat.le_of_ble_eq_true rfl)) rfl rfl ?_
                    refine pm_R_op pm_M192 (pc' := 169) (st' := [.int 8, .int 3, .int 1, .int 0, .ref 41]) (pm_q192_1 (Nat.le_of_ble_eq_true rfl)) rfl rfl ?_
                    refine pm_R_op pm_M192 (pc' := 170) (st' := [.int 0, .int 8, .int 3, .int 1, .int 0, .ref 41]) (pm_q192_1 (Nat.le_of_ble_eq_true rfl)) rfl rfl ?_
                    refine pm_R_cv pm_M192 (pc' := 173) (a := 41) (ra := [.int 0, .int 8, .int 3, .int 1, .int 0]) (rest := []) (ls' := [.ref 41, .int 0, .int 1, .int 3, .int 8, .int 0, pm_no, pm_no]) (pm_q192_1 (Nat.le_of_ble_eq_true rfl)) rfl (Or.inl rfl) pm_M185 T427.2.1 rfl (by decide) (Nat.lt_of_lt_of_le (by decide) T427.1) rfl rfl (Nat.le_of_ble_eq_true rfl) rfl rfl ?_
                    refine pm_R_lo pm_M185 (pc' := 1) rfl rfl rfl ?_
                    refine rf_R_get pm_M185 T427 (pc' := 4) (v := .ref 51) rfl rfl rfl rfl ?_
                    refine pm_R_lo pm_M185 (pc' := 5) rfl rfl rfl ?_
                    have e436 := (F428.cell (by decide) (F366.cell (by decide) (F357.cell (by decide) (F352.cell (by decide) (F347.cell (by decide) (F342.cell (by decide) (F337.cell (by decide) (F324.cell (by decide) (F311.cell (by decide) e3)))))))))
                    refine pm_R_iald pm_M185 (pc' := 6) (v := (f2 0)) rfl e436 (Nat.lt_of_lt_of_le (by decide) T427.1) rfl rfl rfl ?_
                    refine pm_R_lo pm_M185 (pc' := 8) (ls' := [.ref 41, .int 0, .int 1, .int 3, .int 8, .int 0, .int (f2 0), pm_no]) (st' := []) rfl rfl rfl ?_
                    refine pm_R_lo pm_M185 (pc' := 10) rfl rfl rfl ?_
                    refine pm_R_lo pm_M185 (pc' := 12) rfl rfl rfl ?_
                    refine pm_R_icmp pm_M185 (t := 16) (pc' := 15) rfl rfl rfl (fun c439 => absurd (sf_pt2 B304 sf_k8) c439) (fun c439 => ?_)
                    refine pm_R_ret pm_M185 (r := none) rfl rfl ?_
                    show pm_R _ 192 173 [.ref 41, .long a0, pm_no, .int a1, .int 5] [] _ _
                    refine pm_R_op pm_M192 (pc' := 174) (st' := [.int 1]) (pm_q192_1 (Nat.le_of_ble_eq_true rfl)) rfl rfl ?_
                    have B440 : sf_B 0 600 (m424 10) := T427.2.2.1 10
                    exact pm_R_ret pm_M192 (r := some (.int 1)) (pm_q192_1 (Nat.le_of_ble_eq_true rfl)) rfl (K1 m424 w425 h426 T427 F432 W435 (⟨f2, e436, ct4, fun z => (sf_pos B433 (by decide) z)⟩) (sf_aux123 _ _ _ _ X326 X430))
                · skip
                  refine pm_R_lo pm_M183 (pc' := 9) rfl rfl rfl ?_
                  refine pm_R_cv pm_M183 (pc' := 12) (a := 41) (ra := []) (rest := []) (ls' := [.ref 41]) rfl rfl (Or.inl rfl) pm_M184 T356.2.1 rfl (by decide) (Nat.lt_of_lt_of_le (by decide) T356.1) rfl rfl (Nat.le_of_ble_eq_true rfl) rfl rfl ?_
                  refine pm_R_lo pm_M184 (pc' := 1) rfl rfl rfl ?_
                  refine pm_R_lo pm_M184 (pc' := 2) rfl rfl rfl ?_
                  have B441 : sf_B 0 600 (m320 12) := T356.2.2.1 12
                  refine rf_R_get pm_M184 T356 (pc' := 5) (v := .int (m320 12)) rfl rfl rfl rfl ?_
                  refine rf_R_put pm_M184 T356 (pc' := 8) rfl rfl rfl (by decide) rfl rfl B441 rfl rfl (fun h442 m445 em446 T443 F444 => ?_)
                  have F447 := F359.trans F444 (by decide)
                  have B448 : sf_B 1 4 (m445 17) := by rw [em446]; exact B329
                  have ek449 : (m445 17).toInt = ((m307 17)).toInt := by rw [em446]; exact ek330
                  have B450 : sf_B 0 600 (m445 16) := by rw [em446]; exact B441
                  have ek451 : (m445 16).toInt = ((m320 12)).toInt := by rw [em446]; rfl
                  have W452 : rf_W [10, 12, 13, 14, 16, 17, 18, 22] m m445 := by rw [em446]; exact W331.put (by decide)
                  refine pm_R_op pm_M184 (pc' := 9) (st' := [.int 0]) rfl rfl rfl ?_
                  refine pm_R_ret pm_M184 (r := some (.int 0)) rfl rfl ?_
                  show pm_R _ 183 12 [.ref 41, .int 1, .int 9, .int (-1)] [.int 0] _ _
                  refine pm_R_ret pm_M183 (r := some (.int 0)) rfl rfl ?_
                  show pm_R _ 192 127 [.ref 41, .long a0, pm_no, .int a1, .int 5] [.int 0] _ _
                  refine pm_R_br pm_M192 (pc' := 130) (st' := []) (pm_q192_1 (Nat.le_of_ble_eq_true rfl)) rfl ?_
                  refine pm_R_op pm_M192 (pc' := 131) (st' := [.int 0]) (pm_q192_1 (Nat.le_of_ble_eq_true rfl)) rfl rfl ?_
                  have B453 : sf_B 0 600 (m445 10) := T443.2.2.1 10
                  exact pm_R_ret pm_M192 (r := some (.int 0)) (pm_q192_1 (Nat.le_of_ble_eq_true rfl)) rfl (K0 m445 w321 h442 T443 F447 W452 (sf_aux76 _ _ _ _ X326))
          · have B454 : sf_B 0 0 z23 := sf_eqL (Classical.not_not.mp c25) sf_k0
            have B455 : lf_B 114801865155950 114801865155950 a0 := lf_eqB e24 B454 (⟨by decide, by decide⟩ : lf_B 114801865155950 114801865155950 114801865155950)
            refine pm_R_op pm_M192 (pc' := 57) (st' := [.int 4]) rfl rfl rfl ?_
            refine pm_R_br pm_M192 (pc' := 73) rfl rfl ?_
            refine pm_R_lo pm_M192 (pc' := 75) (ls' := [.ref 41, .long a0, pm_no, .int a1, .int 4]) (st' := []) rfl rfl rfl ?_
            refine pm_R_lo pm_M192 (pc' := 77) rfl rfl rfl ?_
            refine pm_R_op pm_M192 (pc' := 78) (st' := [.int (-1), .int 4]) rfl rfl rfl ?_
            refine pm_R_br pm_M192 (pc' := 86) (st' := []) rfl rfl ?_
            refine pm_R_lo pm_M192 (pc' := 87) rfl rfl rfl ?_
            refine rf_R_get pm_M192 T (pc' := 90) (v := .ref 51) rfl rfl rfl rfl ?_
            refine pm_R_op pm_M192 (pc' := 91) (st' := [.int 0, .ref 51]) rfl rfl rfl ?_
            refine pm_R_iald pm_M192 (pc' := 92) (v := (f2 0)) rfl e3 (Nat.lt_of_lt_of_le (by decide) T.1) rfl rfl rfl ?_
            refine pm_R_op pm_M192 (pc' := 94) (st' := [.int 8, .int (f2 0)]) rfl rfl rfl ?_
            refine pm_R_icmp pm_M192 (t := 103) (pc' := 97) rfl rfl rfl (fun c458 => ?_) (fun c458 => ?_)
            · have B459 : sf_B 0 7 (f2 0) := sf_neH0 c458 sf_k8 ct4
              refine pm_R_lo pm_M192 (pc' := 104) rfl rfl rfl ?_
              refine pm_R_cv pm_M192 (pc' := 107) (a := 41) (ra := []) (rest := []) (ls' := [.ref 41, pm_no, pm_no]) rfl rfl (Or.inl rfl) pm_M179 T.2.1 rfl (by decide) (Nat.lt_of_lt_of_le (by decide) T.1) rfl rfl (Nat.le_of_ble_eq_true rfl) rfl rfl ?_
              refine rf_c179 (d := d + 1) T  (fun m462 w463 h464 T465 F466 W467 X468 X469 => ?_)
              have F470 := (rf_G.refl [41, 51, 52] h).trans F466 (by decide)
              have B471 : sf_B 0 4 (m462 17) := by rw [W467 17 (by decide)]; exact B6
              have ek472 : (m462 17).toInt = ((m 17)).toInt := by rw [W467 17 (by decide)]
              have W473 : rf_W [10, 12, 13, 14, 16, 17, 18, 22] m m462 := (rf_W.refl [10, 12, 13, 14, 16, 17, 18, 22] m).trans W467 (by decide)
              show pm_R _ 192 107 [.ref 41, .long a0, pm_no, .int a1, .int 4] [] _ _
              refine pm_R_lo pm_M192 (pc' := 108) rfl rfl rfl ?_
              refine pm_R_cv pm_M192 (pc' := 111) (a := 41) (ra := []) (rest := []) (ls' := [.ref 41, pm_no]) rfl rfl (Or.inl rfl) pm_M190 T465.2.1 rfl (by decide) (Nat.lt_of_lt_of_le (by decide) T465.1) rfl rfl (Nat.le_of_ble_eq_true rfl) rfl rfl ?_
              refine pm_R_op pm_M190 (pc' := 1) (st' := [.int 0]) rfl rfl rfl ?_
              refine pm_R_lo pm_M190 (pc' := 2) (ls' := [.ref 41, .int 0]) (st' := []) rfl rfl rfl ?_
              refine pm_R_lo pm_M190 (pc' := 3) rfl rfl rfl ?_
              refine pm_R_op pm_M190 (pc' := 4) (st' := [.int 4, .int 0]) rfl rfl rfl ?_
              refine pm_R_br pm_M190 (pc' := 7) (st' := []) rfl rfl ?_
              refine pm_R_lo pm_M190 (pc' := 8) rfl rfl rfl ?_
              refine rf_R_get pm_M190 T465 (pc' := 11) (v := .ref 52) rfl rfl rfl rfl ?_
              refine pm_R_lo pm_M190 (pc' := 12) rfl rfl rfl ?_
              refine pm_R_op pm_M190 (pc' := 13) (st' := [.int (-1), .int 0, .ref 52]) rfl rfl rfl ?_
              obtain ⟨f474, e475, b476⟩ := T465.2.2.2.1 52 (by decide) (by decide)
              refine rf_R_ist pm_M190 T465 (pc' := 14) rfl e475 (by decide) (by decide) rfl ⟨_, rfl, sf_upd b476 (sf_weak sf_kn1 (by decide) (by decide)) _⟩ rfl (fun h477 T478 F479 e480 => ?_)
              have F481 := F470.trans F479 (by decide)
              refine pm_R_lo pm_M190 (pc' := 17) (ls' := [.ref 41, .int 1]) (st' := []) rfl rfl rfl ?_
              refine pm_R_br pm_M190 (pc' := 2) rfl rfl ?_
              refine pm_R_lo pm_M190 (pc' := 3) rfl rfl rfl ?_
              refine pm_R_op pm_M190 (pc' := 4) (st' := [.int 4, .int 1]) rfl rfl rfl ?_
              refine pm_R_br pm_M190 (pc' := 7) (st' := []) rfl rfl ?_
              refine pm_R_lo pm_M190 (pc' := 8) rfl rfl rfl ?_
              refine rf_R_get pm_M190 T478 (pc' := 11) (v := .ref 52) rfl rfl rfl rfl ?_
              refine pm_R_lo pm_M190 (pc' := 12) rfl rfl rfl ?_
              refine pm_R_op pm_M190 (pc' := 13) (st' := [.int (-1), .int 1, .ref 52]) rfl rfl rfl ?_
              refine rf_R_ist pm_M190 T478 (pc' := 14) rfl e480 (by decide) (by decide) rfl ⟨_, rfl, sf_upd (sf_upd b476 (sf_weak sf_kn1 (by decide) (by decide)) _) (sf_weak sf_kn1 (by decide) (by decide)) _⟩ rfl (fun h482 T483 F484 e485 => ?_)
              have F486 := F481.trans F484 (by decide)
              refine pm_R_lo pm_M190 (pc' := 17) (ls' := [.ref 41, .int 2]) (st' := []) rfl rfl rfl ?_
              refine pm_R_br pm_M190 (pc' := 2) rfl rfl ?_
              refine pm_R_lo pm_M190 (pc' := 3) rfl rfl rfl ?_
              refine pm_R_op pm_M190 (pc' := 4) (st' := [.int 4, .int 2]) rfl rfl rfl ?_
              refine pm_R_br pm_M190 (pc' := 7) (st' := []) rfl rfl ?_
              refine pm_R_lo pm_M190 (pc' := 8) rfl rfl rfl ?_
              refine rf_R_get pm_M190 T483 (pc' := 11) (v := .ref 52) rfl rfl rfl rfl ?_
              refine pm_R_lo pm_M190 (pc' := 12) rfl rfl rfl ?_
              refine pm_R_op pm_M190 (pc' := 13) (st' := [.int (-1), .int 2, .ref 52]) rfl rfl rfl ?_
              refine rf_R_ist pm_M190 T483 (pc' := 14) rfl e485 (by decide) (by decide) rfl ⟨_, rfl, sf_upd (sf_upd (sf_upd b476 (sf_weak sf_kn1 (by decide) (by decide)) _) (sf_weak sf_kn1 (by decide) (by decide)) _) (sf_weak sf_kn1 (by decide) (by decide)) _⟩ rfl (fun h487 T488 F489 e490 => ?_)
              have F491 := F486.trans F489 (by decide)
              refine pm_R_lo pm_M190 (pc' := 17) (ls' := [.ref 41, .int 3]) (st' := []) rfl rfl rfl ?_
              refine pm_R_br pm_M190 (pc' := 2) rfl rfl ?_
              refine pm_R_lo pm_M190 (pc' := 3) rfl rfl rfl ?_
              refine pm_R_op pm_M190 (pc' := 4) (st' := [.int 4, .int 3]) rfl rfl rfl ?_
              refine pm_R_br pm_M190 (pc' := 7) (st' := []) rfl rfl ?_
              refine pm_R_lo pm_M190 (pc' := 8) rfl rfl rfl ?_
              refine rf_R_get pm_M190 T488 (pc' := 11) (v := .ref 52) rfl rfl rfl rfl ?_
              refine pm_R_lo pm_M190 (pc' := 12) rfl rfl rfl ?_
              refine pm_R_op pm_M190 (pc' := 13) (st' := [.int (-1), .int 3, .ref 52]) rfl rfl rfl ?_
              refine rf_R_ist pm_M190 T488 (pc' := 14) rfl e490 (by decide) (by decide) rfl ⟨_, rfl, sf_upd (sf_upd (sf_upd (sf_upd b476 (sf_weak sf_kn1 (by decide) (by decide)) _) (sf_weak sf_kn1 (by decide) (by decide)) _) (sf_weak sf_kn1 (by decide) (by decide)) _) (sf_weak sf_kn1 (by decide) (by decide)) _⟩ rfl (fun h492 T493 F494 e495 => ?_)
              have F496 := F491.trans F494 (by decide)
              refine pm_R_lo pm_M190 (pc' := 17) (ls' := [.ref 41, .int 4]) (st' := []) rfl rfl rfl ?_
              refine pm_R_br pm_M190 (pc' := 2) rfl rfl ?_
              refine pm_R_lo pm_M190 (pc' := 3) rfl rfl rfl ?_
              refine pm_R_op pm_M190 (pc' := 4) (st' := [.int 4, .int 4]) rfl rfl rfl ?_
              refine pm_R_br pm_M190 (pc' := 20) (st' := []) rfl rfl ?_
              refine pm_R_ret pm_M190 (r := none) rfl rfl ?_
              show pm_R _ 192 111 [.ref 41, .long a0, pm_no, .int a1, .int 4] [] _ _
              refine pm_R_lo pm_M192 (pc' := 112) rfl rfl rfl ?_
              refine rf_R_get pm_M192 T493 (pc' := 115) (v := .ref 52) rfl rfl rfl rfl ?_
              refine pm_R_op pm_M192 (pc' := 116) (st' := [.int 0, .ref 52]) (pm_q192_1 (Nat.le_of_ble_eq_true rfl)) rfl rfl ?_
              refine pm_R_lo pm_M192 (pc' := 118) (pm_q192_1 (Nat.le_of_ble_eq_true rfl)) rfl rfl ?_
              refine rf_R_ist pm_M192 T493 (pc' := 119) (pm_q192_1 (Nat.le_of_ble_eq_true rfl)) e495 (by decide) (by decide) rfl ⟨_, rfl, sf_upd (sf_upd (sf_upd (sf_upd (sf_upd b476 (sf_weak sf_kn1 (by decide) (by decide)) _) (sf_weak sf_kn1 (by decide) (by decide)) _) (sf_weak sf_kn1 (by decide) (by decide)) _) (sf_weak sf_kn1 (by decide) (by decide)) _) (sf_weak sf_k4 (by decide) (by decide)) _⟩ rfl (fun h497 T498 F499 e500 => ?_)
              have F501 := F496.trans F499 (by decide)
              refine pm_R_lo pm_M192 (pc' := 120) (pm_q192_1 (Nat.le_of_ble_eq_true rfl)) rfl rfl ?_
              refine pm_R_op pm_M192 (pc' := 121) (st' := [.int 1, .ref 41]) (pm_q192_1 (Nat.le_of_ble_eq_true rfl)) rfl rfl ?_
              refine pm_R_op pm_M192 (pc' := 123) (st' := [.int 9, .int 1, .ref 41]) (pm_q192_1 (Nat.le_of_ble_eq_true rfl)) rfl rfl ?_
              refine pm_R_op pm_M192 (pc' := 124) (st' := [.int (-1), .int 9, .int 1, .ref 41]) (pm_q192_1 (Nat.le_of_ble_eq_true rfl)) rfl rfl ?_
              refine pm_R_cv pm_M192 (pc' := 127) (a := 41) (ra := [.int (-1), .int 9, .int 1]) (rest := []) (ls' := [.ref 41, .int 1, .int 9, .int (-1)]) (pm_q192_1 (Nat.le_of_ble_eq_true rfl)) rfl (Or.inl rfl) pm_M183 T498.2.1 rfl (by decide) (Nat.lt_of_lt_of_le (by decide) T498.1) rfl rfl (Nat.le_of_ble_eq_true rfl) rfl rfl ?_
              refine pm_R_lo pm_M183 (pc' := 1) rfl rfl rfl ?_
              have B502 : sf_B 0 4 (m462 13) := T498.2.2.1 13
              refine rf_R_get pm_M183 T498 (pc' := 4) (v := .int (m462 13)) rfl rfl rfl rfl ?_
              refine pm_R_op pm_M183 (pc' := 5) (st' := [.int 3, .int (m462 13)]) rfl rfl rfl ?_
              refine pm_R_icmp pm_M183 (t := 13) (pc' := 8) rfl rfl rfl (fun c503 => ?_) (fun c503 => ?_)
              · have B504 : sf_B 3 3 (m462 13) := sf_eqL c503 sf_k3
                refine pm_R_lo pm_M183 (pc' := 14) rfl rfl rfl ?_
                refine rf_R_get pm_M183 T498 (pc' := 17) (v := .ref 52) rfl rfl rfl rfl ?_
                refine pm_R_lo pm_M183 (pc' := 18) rfl rfl rfl ?_
                refine pm_R_lo pm_M183 (pc' := 19) rfl rfl rfl ?_
                have B505 : sf_B 0 99 (m462 14) := T498.2.2.1 14
                refine rf_R_get pm_M183 T498 (pc' := 22) (v := .int (m462 14)) rfl rfl rfl rfl ?_
                refine rf_R_ist pm_M183 T498 (pc' := 23) rfl e500 (by decide) (by decide) rfl ⟨_, rfl, sf_upd (sf_upd (sf_upd (sf_upd (sf_upd (sf_upd b476 (sf_weak sf_kn1 (by decide) (by decide)) _) (sf_weak sf_kn1 (by decide) (by decide)) _) (sf_weak sf_kn1 (by decide) (by decide)) _) (sf_weak sf_kn1 (by decide) (by decide)) _) (sf_weak sf_k4 (by decide) (by decide)) _) (sf_weak B505 (by decide) (by decide)) _⟩ rfl (fun h506 T507 F508 e509 => ?_)
                have F510 := F501.trans F508 (by decide)
                refine pm_R_lo pm_M183 (pc' := 24) rfl rfl rfl ?_
                refine rf_R_get pm_M183 T507 (pc' := 27) (v := .int (m462 14)) rfl rfl rfl rfl ?_
                refine pm_R_lo pm_M183 (pc' := 28) rfl rfl rfl ?_
                refine pm_R_icmp pm_M183 (t := 39) (pc' := 31) rfl rfl rfl (fun c511 => ?_) (fun c511 => ?_)
                · have B512 : sf_B 10 99 (m462 14) := sf_ltR c511 sf_k9 B505
                  refine pm_R_lo pm_M183 (pc' := 40) rfl rfl rfl ?_
                  refine pm_R_op pm_M183 (pc' := 41) (st' := [.int 2, .ref 41]) rfl rfl rfl ?_
                  refine pm_R_lo pm_M183 (pc' := 42) rfl rfl rfl ?_
                  have B513 : sf_B 0 600 (m462 12) := T507.2.2.1 12
                  refine rf_R_get pm_M183 T507 (pc' := 45) (v := .int (m462 12)) rfl rfl rfl rfl ?_
                  refine pm_R_cv pm_M183 (pc' := 48) (a := 41) (ra := [.int (m462 12), .int 2]) (rest := []) (ls' := [.ref 41, .int 2, .int (m462 12)]) rfl rfl (Or.inl rfl) pm_M182 T507.2.1 rfl (by decide) (Nat.lt_of_lt_of_le (by decide) T507.1) rfl rfl (Nat.le_of_ble_eq_true rfl) rfl rfl ?_
                  refine rf_c182 (d := d + 1) T507 (sf_weak sf_k2 (by decide) (by decide)) B513 (fun m516 w517 h518 T519 F520 W521 B522 => ?_)
                  have F523 := F510.trans F520 (by decide)
                  have B524 : sf_B 3 3 (m516 13) := by rw [W521 13 (by decide)]; exact B504
                  have B525 : sf_B 10 99 (m516 14) := by rw [W521 14 (by decide)]; exact B512
                  have W526 : rf_W [10, 12, 13, 14, 16, 17, 18, 22] m m516 := W473.trans W521 (by decide)
                  show pm_R _ 183 48 [.ref 41, .int 1, .int 9, .int (-1)] [] _ _
                  refine pm_R_lo pm_M183 (pc' := 49) rfl rfl rfl ?_
                  refine pm_R_op pm_M183 (pc' := 50) (st' := [.int 0, .ref 41]) rfl rfl rfl ?_
                  refine rf_R_put pm_M183 T519 (pc' := 53) rfl rfl rfl (by decide) rfl rfl (sf_weak sf_k0 (by decide) (by decide)) rfl rfl (fun h527 m530 em531 T528 F529 => ?_)
                  have F532 := F523.trans F529 (by decide)
                  have B533 : sf_B 3 3 (m530 13) := by rw [em531]; exact B524
                  have B534 : sf_B 10 99 (m530 14) := by rw [em531]; exact B525
                  have B535 : sf_B 1 4 (m530 17) := by rw [em531]; exact B522
                  have ek536 : (m530 17).toInt = ((m516 17)).toInt := by rw [em531]; rfl
                  have B537 : sf_B 0 0 (m530 22) := by rw [em531]; exact sf_k0
                  have W539 : rf_W [10, 12, 13, 14, 16, 17, 18, 22] m m530 := by rw [em531]; exact W526.put (by decide)
                  refine pm_R_lo pm_M183 (pc' := 54) rfl rfl rfl ?_
                  refine pm_R_cv pm_M183 (pc' := 57) (a := 41) (ra := []) (rest := []) (ls' := [.ref 41, pm_no, pm_no]) rfl rfl (Or.inl rfl) pm_M179 T528.2.1 rfl (by decide) (Nat.lt_of_lt_of_le (by decide) T528.1) rfl rfl (Nat.le_of_ble_eq_true rfl) rfl rfl ?_
                  have B540 : sf_B 0 600 (m530 10) := T528.2.2.1 10
                  refine rf_c179 (d := d + 0) T528  (fun m543 w544 h545 T546 F547 W548 X549 X550 => ?_)
                  have F551 := F532.trans F547 (by decide)
                  have B552 : sf_B 1 4 (m543 17) := by rw [W548 17 (by decide)]; exact B535
                  have ek553 : (m543 17).toInt = ((m516 17)).toInt := by rw [W548 17 (by decide)]; exact ek536
                  have B554 : sf_B 0 0 (m543 22) := by rw [W548 22 (by decide)]; exact B537
                  have W555 : rf_W [10, 12, 13, 14, 16, 17, 18, 22] m m543 := W539.trans W548 (by decide)
                  show pm_R _ 183 57 [.ref 41, .int 1, .int 9, .int (-1)] [] _ _
                  refine pm_R_op pm_M183 (pc' := 58) (st' := [.int 1]) rfl rfl rfl ?_
                  refine pm_R_ret pm_M183 (r := some (.int 1)) rfl rfl ?_
                  show pm_R _ 192 127 [.ref 41, .long a0, pm_no, .int a1, .int 4] [.int 1] _ _
                  refine pm_R_br pm_M192 (pc' := 132) (st' := []) (pm_q192_1 (Nat.le_of_ble_eq_true rfl)) rfl ?_
                  refine pm_R_lo pm_M192 (pc' := 134) (pm_q192_1 (Nat.le_of_ble_eq_true rfl)) rfl rfl ?_
                  refine pm_R_op pm_M192 (pc' := 135) (st' := [.int 1, .int 4]) (pm_q192_1 (Nat.le_of_ble_eq_true rfl)) rfl rfl ?_
                  refine pm_R_br pm_M192 (pc' := 138) (st' := []) (pm_q192_1 (Nat.le_of_ble_eq_true rfl)) rfl ?_
                  refine pm_R_lo pm_M192 (pc' := 140) (pm_q192_1 (Nat.le_of_ble_eq_true rfl)) rfl rfl ?_
                  refine pm_R_op pm_M192 (pc' := 141) (st' := [.int 2, .int 4]) (pm_q192_1 (Nat.le_of_ble_eq_true rfl)) rfl rfl ?_
                  refine pm_R_br pm_M192 (pc' := 144) (st' := []) (pm_q192_1 (Nat.le_of_ble_eq_true rfl)) rfl ?_
                  refine pm_R_lo pm_M192 (pc' := 146) (pm_q192_1 (Nat.le_of_ble_eq_true rfl)) rfl rfl ?_
                  refine pm_R_op pm_M192 (pc' := 147) (st' := [.int 3, .int 4]) (pm_q192_1 (Nat.le_of_ble_eq_true rfl)) rfl rfl ?_
                  refine pm_R_br pm_M192 (pc' := 163) (st' := []) (pm_q192_1 (Nat.le_of_ble_eq_true rfl)) rfl ?_
                  refine pm_R_lo pm_M192 (pc' := 164) (pm_q192_1 (Nat.le_of_ble_eq_true rfl)) rfl rfl ?_
                  refine pm_R_op pm_M192 (pc' := 165) (st' := [.int 0, .ref 41]) (pm_q192_1 (Nat.le_of_ble_eq_true rfl)) rfl rfl ?_
                  refine pm_R_op pm_M192 (pc' := 166) (st' := [.int 1, .int 0, .ref 41]) (pm_q192_1 (Nat.le_of_ble_eq_true rfl)) rfl rfl ?_
                  refine pm_R_op pm_M192 (pc' := 167) (st' := [.int 3, .int 1, .int 0, .ref 41]) (pm_q192_1 (Nat.le_of_ble_eq_true rfl)) rfl rfl ?_
                  refine pm_R_op pm_M192 (pc' := 169) (st' := [.int 8, .int 3, .int 1, .int 0, .ref 41]) (pm_q192_1 (Nat.le_of_ble_eq_true rfl)) rfl rfl ?_
                  refine pm_R_op pm_M192 (pc' := 170) (st' := [.int 0, .int 8, .int 3, .int 1, .int 0, .ref 41]) (pm_q192_1 (Nat.le_of_ble_eq_true rfl)) rfl rfl ?_
                  refine pm_R_cv pm_M192 (pc' := 173) (a := 41) (ra := [.int 0, .int 8, .int 3, .int 1, .int 0]) (rest := []) (ls' := [.ref 41, .int 0, .int 1, .int 3, .int 8, .int 0, pm_no, pm_no]) (pm_q192_1 (Nat.le_of_ble_eq_true rfl)) rfl (Or.inl rfl) pm_M185 T546.2.1 rfl (by decide) (Nat.lt_of_lt_of_le (by decide) T546.1) rfl rfl (Nat.le_of_ble_eq_true rfl) rfl rfl ?_
                  refine pm_R_lo pm_M185 (pc' := 1) rfl rfl rfl ?_
                  refine rf_R_get pm_M185 T546 (pc' := 4) (v := .ref 51) rfl rfl rfl rfl ?_
                  refine pm_R_lo pm_M185 (pc' := 5) rfl rfl rfl ?_
                  have e556 := (F547.cell (by decide) (F529.cell (by decide) (F520.cell (by decide) (F508.cell (by decide) (F499.cell (by decide) (F494.cell (by decide) (F489.cell (by decide) (F484.cell (by decide) (F479.cell (by decide) (F466.cell (by decide) e3))))))))))
                  refine pm_R_iald pm_M185 (pc' := 6) (v := (f2 0)) rfl e556 (Nat.lt_of_lt_of_le (by decide) T546.1) rfl rfl rfl ?_
                  refine pm_R_lo pm_M185 (pc' := 8) (ls' := [.ref 41, .int 0, .int 1, .int 3, .int 8, .int 0, .int (f2 0), pm_no]) (st' := []) rfl rfl rfl ?_
                  refine pm_R_lo pm_M185 (pc' := 10) rfl rfl rfl ?_
                  refine pm_R_lo pm_M185 (pc' := 12) rfl rfl rfl ?_
                  refine pm_R_icmp pm_M185 (t := 16) (pc' := 15) rfl rfl rfl (fun c559 => ?_) (fun c559 => absurd (Classical.not_not.mp c559) (sf_neq2 B459 sf_k8 (by decide)))
                  skip
                  refine pm_R_op pm_M185 (pc' := 17) (st' := [.int 0]) rfl rfl rfl ?_
                  refine pm_R_lo pm_M185 (pc' := 19) (ls' := [.ref 41, .int 0, .int 1, .int 3, .int 8, .int 0, .int (f2 0), .int 0]) (st' := []) rfl rfl rfl ?_
                  refine pm_R_lo pm_M185 (pc' := 21) rfl rfl rfl ?_
                  refine pm_R_lo pm_M185 (pc' := 22) rfl rfl rfl ?_
                  refine pm_R_br pm_M185 (pc' := 25) (st' := []) rfl rfl ?_
                  refine pm_R_lo pm_M185 (pc' := 26) rfl rfl rfl ?_
                  refine rf_R_get pm_M185 T546 (pc' := 29) (v := .ref 51) rfl rfl rfl rfl ?_
                  refine pm_R_lo pm_M185 (pc' := 30) rfl rfl rfl ?_
                  refine pm_R_lo pm_M185 (pc' := 31) rfl rfl rfl ?_
                  refine pm_R_lo pm_M185 (pc' := 33) rfl rfl rfl ?_
                  refine sf_R_imul pm_M185 (pc' := 34) rfl rfl sf_k3 B459 (by decide) (by decide) (by decide) (fun z560 e561 B562 => ?_)
                  refine sf_R_iadd pm_M185 (pc' := 35) rfl rfl sf_k1 B562 (by decide) (by decide) (fun z563 e564 B565 => ?_)
                  refine pm_R_lo pm_M185 (pc' := 37) rfl rfl rfl ?_
                  refine sf_R_iadd pm_M185 (pc' := 38) rfl rfl B565 sf_k0 (by decide) (by decide) (fun z566 e567 B568 => ?_)
                  refine pm_R_lo pm_M185 (pc' := 39) rfl rfl rfl ?_
                  refine rf_R_get pm_M185 T546 (pc' := 42) (v := .ref 52) rfl rfl rfl rfl ?_
                  refine pm_R_lo pm_M185 (pc' := 44) rfl rfl rfl ?_
                  refine pm_R_lo pm_M185 (pc' := 46) rfl rfl rfl ?_
                  refine pm_R_op pm_M185 (pc' := 47) (st' := [.int 0, .ref 52, .int z566, .ref 51]) rfl rfl rfl ?_
                  have e569 := (F547.cell (by decide) (F529.cell (by decide) (F520.cell (by decide) e509)))
                  refine pm_R_iald pm_M185 (pc' := 48) (v := 4) rfl e569 (Nat.lt_of_lt_of_le (by decide) T546.1) rfl (Eq.trans (show (upd (upd (upd (upd (upd (upd f474 (Int32.toNatClampNeg 0) (-1)) (Int32.toNatClampNeg 1) (-1)) (Int32.toNatClampNeg 2) (-1)) (Int32.toNatClampNeg 3) (-1)) (Int32.toNatClampNeg 0) 4) (Int32.toNatClampNeg 1) (m462 14)) (Int32.toNatClampNeg 0) = (upd (upd (upd (upd (upd f474 (Int32.toNatClampNeg 0) (-1)) (Int32.toNatClampNeg 1) (-1)) (Int32.toNatClampNeg 2) (-1)) (Int32.toNatClampNeg 3) (-1)) (Int32.toNatClampNeg 0) 4) (Int32.toNatClampNeg 0) from rfl) rfl) rfl ?_
                  refine rf_R_ist pm_M185 T546 (pc' := 49) rfl e556 (by decide) (by decide) (sf_in B568 (by decide) (by decide)) ⟨_, rfl⟩ rfl (fun h572 T573 F574 e575 => ?_)
                  have F576 := F551.trans F574 (by decide)
                  have ct577 : rf_ct 3 (upd f2 (Int32.toNatClampNeg z566) 4) := (sf_eqL (Eq.trans (sf_upd_ne (j := Int32.toNatClampNeg 0) B568 (by decide) (by decide)) rfl) (sf_weak B459 (by decide) (by decide)))
                  have bd578 : (m543 17).toInt = 0 → rf_bd 3 (upd f2 (Int32.toNatClampNeg z566) 4) := fun z => (sf_pos B552 (by decide) z)
                  refine pm_R_lo pm_M185 (pc' := 52) (ls' := [.ref 41, .int 0, .int 1, .int 3, .int 8, .int 0, .int (f2 0), .int 1]) (st' := []) rfl rfl rfl ?_
                  refine pm_R_br pm_M185 (pc' := 19) rfl rfl ?_
                  refine pm_R_lo pm_M185 (pc' := 21) rfl rfl rfl ?_
                  refine pm_R_lo pm_M185 (pc' := 22) rfl rfl rfl ?_
                  refine pm_R_br pm_M185 (pc' := 25) (st' := []) rfl rfl ?_
                  refine pm_R_lo pm_M185 (pc' := 26) rfl rfl rfl ?_
                  refine rf_R_get pm_M185 T573 (pc' := 29) (v := .ref 51) rfl rfl rfl rfl ?_
                  refine pm_R_lo pm_M185 (pc' := 30) rfl rfl rfl ?_
                  refine pm_R_lo pm_M185 (pc' := 31) rfl rfl rfl ?_
                  refine pm_R_lo pm_M185 (pc' := 33) rfl rfl rfl ?_
                  refine sf_R_imulV pm_M185 (pc' := 34) rfl rfl sf_k3 B459 (by decide) (by decide) (by decide) e561 ?_
                  refine sf_R_iaddV pm_M185 (pc' := 35) rfl rfl sf_k1 B562 (by decide) (by decide) e564 ?_
                  refine pm_R_lo pm_M185 (pc' := 37) rfl rfl rfl ?_
                  refine sf_R_iadd pm_M185 (pc' := 38) rfl rfl B565 sf_k1 (by decide) (by decide) (fun z579 e580 B581 => ?_)
                  refine pm_R_lo pm_M185 (pc' := 39) rfl rfl rfl ?_
                  refine rf_R_get pm_M185 T573 (pc' := 42) (v := .ref 52) rfl rfl rfl rfl ?_
                  refine pm_R_lo pm_M185 (pc' := 44) rfl rfl rfl ?_
                  refine pm_R_lo pm_M185 (pc' := 46) rfl rfl rfl ?_
                  refine pm_R_op pm_M185 (pc' := 47) (st' := [.int 1, .ref 52, .int z579, .ref 51]) rfl rfl rfl ?_
                  have e582 := (F574.cell (by decide) e569)
                  refine pm_R_iald pm_M185 (pc' := 48) (v := (m462 14)) rfl e582 (Nat.lt_of_lt_of_le (by decide) T573.1) rfl rfl rfl ?_
                  refine rf_R_ist pm_M185 T573 (pc' := 49) rfl e575 (by decide) (by decide) (sf_in B581 (by decide) (by decide)) ⟨_, rfl⟩ rfl (fun h585 T586 F587 e588 => ?_)
                  have F589 := F576.trans F587 (by decide)
                  have ct590 : rf_ct 3 (upd (upd f2 (Int32.toNatClampNeg z566) 4) (Int32.toNatClampNeg z579) (m462 14)) := (sf_eqL (Eq.trans (sf_upd_ne (j := Int32.toNatClampNeg 0) B581 (by decide) (by decide)) (Eq.trans (sf_upd_ne (j := Int32.toNatClampNeg 0) B568 (by decide) (by decide)) rfl)) (sf_weak B459 (by decide) (by decide)))
                  have bd591 : (m543 17).toInt = 0 → rf_bd 3 (upd (upd f2 (Int32.toNatClampNeg z566) 4) (Int32.toNatClampNeg z579) (m462 14)) := fun z => (sf_pos B552 (by decide) z)
                  refine pm_R_lo pm_M185 (pc' := 52) (ls' := [.ref 41, .int 0, .int 1, .int 3, .int 8, .int 0, .int (f2 0), .int 2]) (st' := []) rfl rfl rfl ?_
                  refine pm_R_br pm_M185 (pc' := 19) rfl rfl ?_
                  refine pm_R_lo pm_M185 (pc' := 21) rfl rfl rfl ?_
                  refine pm_R_lo pm_M185 (pc' := 22) rfl rfl rfl ?_
                  refine pm_R_br pm_M185 (pc' := 25) (st' := []) rfl rfl ?_
                  refine pm_R_lo pm_M185 (pc' := 26) rfl rfl rfl ?_
                  refine rf_R_get pm_M185 T586 (pc' := 29) (v := .ref 51) rfl rfl rfl rfl ?_
                  refine pm_R_lo pm_M185 (pc' := 30) rfl rfl rfl ?_
                  refine pm_R_lo pm_M185 (pc' := 31) rfl rfl rfl ?_
                  refine pm_R_lo pm_M185 (pc' := 33) rfl rfl rfl ?_
                  refine sf_R_imulV pm_M185 (pc' := 34) rfl rfl sf_k3 B459 (by decide) (by decide) (by decide) e561 ?_
                  refine sf_R_iaddV pm_M185 (pc' := 35) rfl rfl sf_k1 B562 (by decide) (by decide) e564 ?_
                  refine pm_R_lo pm_M185 (pc' := 37) rfl rfl rfl ?_
                  refine sf_R_iadd pm_M185 (pc' := 38) rfl rfl B565 sf_k2 (by decide) (by decide) (fun z592 e593 B594 => ?_)
                  refine pm_R_lo pm_M185 (pc' := 39) rfl rfl rfl ?_
                  refine rf_R_get pm_M185 T586 (pc' := 42) (v := .ref 52) rfl rfl rfl rfl ?_
                  refine pm_R_lo pm_M185 (pc' := 44) rfl rfl rfl ?_
                  refine pm_R_lo pm_M185 (pc' := 46) rfl rfl rfl ?_
                  refine pm_R_op pm_M185 (pc' := 47) (st' := [.int 2, .ref 52, .int z592, .ref 51]) rfl rfl rfl ?_
                  have e595 := (F587.cell (by decide) e582)
                  refine pm_R_iald pm_M185 (pc' := 48) (v := (-1)) rfl e595 (Nat.lt_of_lt_of_le (by decide) T586.1) rfl (Eq.trans (show (upd (upd (upd (upd (upd (upd f474 (Int32.toNatClampNeg 0) (-1)) (Int32.toNatClampNeg 1) (-1)) (Int32.toNatClampNeg 2) (-1)) (Int32.toNatClampNeg 3) (-1)) (Int32.toNatClampNeg 0) 4) (Int32.toNatClampNeg 1) (m462 14)) (Int32.toNatClampNeg 2) = (upd (upd (upd (upd (upd f474 (Int32.toNatClampNeg 0) (-1)) (Int32.toNatClampNeg 1) (-1)) (Int32.toNatClampNeg 2) (-1)) (Int32.toNatClampNeg 3) (-1)) (Int32.toNatClampNeg 0) 4) (Int32.toNatClampNeg 2) from rfl) (Eq.trans (show (upd (upd (upd (upd (upd f474 (Int32.toNatClampNeg 0) (-1)) (Int32.toNatClampNeg 1) (-1)) (Int32.toNatClampNeg 2) (-1)) (Int32.toNatClampNeg 3) (-1)) (Int32.toNatClampNeg 0) 4) (Int32.toNatClampNeg 2) = (upd (upd (upd (upd f474 (Int32.toNatClampNeg 0) (-1)) (Int32.toNatClampNeg 1) (-1)) (Int32.toNatClampNeg 2) (-1)) (Int32.toNatClampNeg 3) (-1)) (Int32.toNatClampNeg 2) from rfl) (Eq.trans (show (upd (upd (upd (upd f474 (Int32.toNatClampNeg 0) (-1)) (Int32.toNatClampNeg 1) (-1)) (Int32.toNatClampNeg 2) (-1)) (Int32.toNatClampNeg 3) (-1)) (Int32.toNatClampNeg 2) = (upd (upd (upd f474 (Int32.toNatClampNeg 0) (-1)) (Int32.toNatClampNeg 1) (-1)) (Int32.toNatClampNeg 2) (-1)) (Int32.toNatClampNeg 2) from rfl) rfl))) rfl ?_
                  refine rf_R_ist pm_M185 T586 (pc' := 49) rfl e588 (by decide) (by decide) (sf_in B594 (by decide) (by decide)) ⟨_, rfl⟩ rfl (fun h598 T599 F600 e601 => ?_)
                  have F602 := F589.trans F600 (by decide)
                  have ct603 : rf_ct 3 (upd (upd (upd f2 (Int32.toNatClampNeg z566) 4) (Int32.toNatClampNeg z579) (m462 14)) (Int32.toNatClampNeg z592) (-1)) := (sf_eqL (Eq.trans (sf_upd_ne (j := Int32.toNatClampNeg 0) B594 (by decide) (by decide)) (Eq.trans (sf_upd_ne (j := Int32.toNatClampNeg 0) B581 (by decide) (by decide)) (Eq.trans (sf_upd_ne (j := Int32.toNatClampNeg 0) B568 (by decide) (by decide)) rfl))) (sf_weak B459 (by decide) (by decide)))
                  have bd604 : (m543 17).toInt = 0 → rf_bd 3 (upd (upd (upd f2 (Int32.toNatClampNeg z566) 4) (Int32.toNatClampNeg z579) (m462 14)) (Int32.toNatClampNeg z592) (-1)) := fun z => (sf_pos B552 (by decide) z)
                  refine pm_R_lo pm_M185 (pc' := 52) (ls' := [.ref 41, .int 0, .int 1, .int 3, .int 8, .int 0, .int (f2 0), .int 3]) (st' := []) rfl rfl rfl ?_
                  refine pm_R_br pm_M185 (pc' := 19) rfl rfl ?_
                  refine pm_R_lo pm_M185 (pc' := 21) rfl rfl rfl ?_
                  refine pm_R_lo pm_M185 (pc' := 22) rfl rfl rfl ?_
                  refine pm_R_br pm_M185 (pc' := 55) (st' := []) rfl rfl ?_
                  refine pm_R_lo pm_M185 (pc' := 56) rfl rfl rfl ?_
                  refine rf_R_get pm_M185 T599 (pc' := 59) (v := .ref 51) rfl rfl rfl rfl ?_
                  refine pm_R_lo pm_M185 (pc' := 60) rfl rfl rfl ?_
                  refine pm_R_op pm_M185 (pc' := 61) (st' := [.int 0, .ref 51, .int 0, .ref 51]) rfl rfl rfl ?_
                  refine pm_R_iald pm_M185 (pc' := 62) (v := (f2 0)) rfl e601 (Nat.lt_of_lt_of_le (by decide) T599.1) rfl (Eq.trans (sf_upd_ne (j := Int32.toNatClampNeg 0) B594 (by decide) (by decide)) (Eq.trans (sf_upd_ne (j := Int32.toNatClampNeg 0) B581 (by decide) (by decide)) (Eq.trans (sf_upd_ne (j := Int32.toNatClampNeg 0) B568 (by decide) (by decide)) rfl))) rfl ?_
                  refine pm_R_op pm_M185 (pc' := 63) (st' := [.int 1, .int (f2 0), .int 0, .ref 51]) rfl rfl rfl ?_
                  refine sf_R_iadd pm_M185 (pc' := 64) rfl rfl B459 sf_k1 (by decide) (by decide) (fun z607 e608 B609 => ?_)
                  refine rf_R_ist pm_M185 T599 (pc' := 65) rfl e601 (by decide) (by decide) rfl ⟨_, rfl⟩ rfl (fun h610 T611 F612 e613 => ?_)
                  have F614 := F602.trans F612 (by decide)
                  have ct615 : rf_ct 3 (upd (upd (upd (upd f2 (Int32.toNatClampNeg z566) 4) (Int32.toNatClampNeg z579) (m462 14)) (Int32.toNatClampNeg z592) (-1)) (Int32.toNatClampNeg 0) z607) := (sf_eqL rfl (sf_weak B609 (by decide) (by decide)))
                  have bd616 : (m543 17).toInt = 0 → rf_bd 3 (upd (upd (upd (upd f2 (Int32.toNatClampNeg z566) 4) (Int32.toNatClampNeg z579) (m462 14)) (Int32.toNatClampNeg z592) (-1)) (Int32.toNatClampNeg 0) z607) := fun z => (sf_pos B552 (by decide) z)
                  refine pm_R_ret pm_M185 (r := none) rfl rfl ?_
                  show pm_R _ 192 173 [.ref 41, .long a0, pm_no, .int a1, .int 4] [] _ _
                  refine pm_R_op pm_M192 (pc' := 174) (st' := [.int 1]) (pm_q192_1 (Nat.le_of_ble_eq_true rfl)) rfl rfl ?_
                  have B617 : sf_B 0 600 (m543 10) := T611.2.2.1 10
                  exact pm_R_ret pm_M192 (r := some (.int 1)) (pm_q192_1 (Nat.le_of_ble_eq_true rfl)) rfl (K1 m543 w544 h610 T611 F614 W555 (⟨(upd (upd (upd (upd f2 (Int32.toNatClampNeg z566) 4) (Int32.toNatClampNeg z579) (m462 14)) (Int32.toNatClampNeg z592) (-1)) (Int32.toNatClampNeg 0) z607), e613, ct615, fun z => (sf_pos B552 (by decide) z)⟩) (sf_aux115 _ _ _ _ X468 X549))
                · have B618 : sf_B 0 9 (m462 14) := sf_leL (Int32.not_lt.mp c511) B505 sf_k9
                  refine pm_R_lo pm_M183 (pc' := 32) rfl rfl rfl ?_
                  refine rf_R_get pm_M183 T507 (pc' := 35) (v := .int (m462 14)) rfl rfl rfl rfl ?_
                  refine pm_R_lo pm_M183 (pc' := 36) rfl rfl rfl ?_
                  refine pm_R_icmp pm_M183 (t := 53) (pc' := 39) rfl rfl rfl (fun c619 => ?_) (fun c619 => absurd (Classical.not_not.mp c619) (sf_neq1 B618 sf_kn1 (by decide)))
                  skip
                  refine pm_R_lo pm_M183 (pc' := 54) rfl rfl rfl ?_
                  refine pm_R_cv pm_M183 (pc' := 57) (a := 41) (ra := []) (rest := []) (ls' := [.ref 41, pm_no, pm_no]) rfl rfl (Or.inl rfl) pm_M179 T507.2.1 rfl (by decide) (Nat.lt_of_lt_of_le (by decide) T507.1) rfl rfl (Nat.le_of_ble_eq_true rfl) rfl rfl ?_
                  have B620 : sf_B 0 600 (m462 10) := T507.2.2.1 10
                  refine rf_c179 (d := d + 0) T507  (fun m623 w624 h625 T626 F627 W628 X629 X630 => ?_)
                  have F631 := F510.trans F627 (by decide)
                  have B632 : sf_B 0 4 (m623 17) := by rw [W628 17 (by decide)]; exact B471
                  have ek633 : (m623 17).toInt = ((m 17)).toInt := by rw [W628 17 (by decide)]; exact ek472
                  have W634 : rf_W [10, 12, 13, 14, 16, 17, 18, 22] m m623 := W473.trans W628 (by decide)
                  show pm_R _ 183 57 [.ref 41, .int 1, .int 9, .int (-1)] [] _ _
                  refine pm_R_op pm_M183 (pc' := 58) (st' := [.int 1]) rfl rfl rfl ?_
                  refine pm_R_ret pm_M183 (r := some (.int 1)) rfl rfl ?_
                  show pm_R _ 192 127 [.ref 41, .long a0, pm_no, .int a1, .int 4] [.int 1] _ _
                  refine pm_R_br pm_M192 (pc' := 132) (st' := []) (pm_q192_1 (Nat.le_of_ble_eq_true rfl)) rfl ?_
                  refine pm_R_lo pm_M192 (pc' := 134) (pm_q192_1 (Nat.le_of_ble_eq_true rfl)) rfl rfl ?_
                  refine pm_R_op pm_M192 (pc' := 135) (st' := [.int 1, .int 4]) (pm_q192_1 (Nat.le_of_ble_eq_true rfl)) rfl rfl ?_
                  refine pm_R_br pm_M192 (pc' := 138) (st' := []) (pm_q192_1 (Nat.le_of_ble_eq_true rfl)) rfl ?_
                  refine pm_R_lo pm_M192 (pc' := 140) (pm_q192_1 (Nat.le_of_ble_eq_true rfl)) rfl rfl ?_
                  refine pm_R_op pm_M192 (pc' := 141) (st' := [.int 2, .int 4]) (pm_q192_1 (Nat.le_of_ble_eq_true rfl)) rfl rfl ?_
                  refine pm_R_br pm_M192 (pc' := 144) (st' := []) (pm_q192_1 (Nat.le_of_ble_eq_true rfl)) rfl ?_
                  refine pm_R_lo pm_M192 (pc' := 146) (pm_q192_1 (Nat.le_of_ble_eq_true rfl)) rfl rfl ?_
                  refine pm_R_op pm_M192 (pc' := 147) (st' := [.int 3, .int 4]) (pm_q192_1 (Nat.le_of_ble_eq_true rfl)) rfl rfl ?_
                  refine pm_R_br pm_M192 (pc' := 163) (st' := []) (pm_q192_1 (Nat.le_of_ble_eq_true rfl)) rfl ?_
                  refine pm_R_lo pm_M192 (pc' := 164) (pm_q192_1 (Nat.le_of_ble_eq_true rfl)) rfl rfl ?_
                  refine pm_R_op pm_M192 (pc' := 165) (st' := [.int 0, .ref 41]) (pm_q192_1 (Nat.le_of_ble_eq_true rfl)) rfl rfl ?_
                  refine pm_R_op pm_M192 (pc' := 166) (st' := [.int 1, .int 0, .ref 41]) (pm_q192_1 (Nat.le_of_ble_eq_true rfl)) rfl rfl ?_
                  refine pm_R_op pm_M192 (pc' := 167) (st' := [.int 3, .int 1, .int 0, .ref 41]) (pm_q192_1 (Nat.le_of_ble_eq_true rfl)) rfl rfl ?_
                  refine pm_R_op pm_M192 (pc' := 169) (st' := [.int 8, .int 3, .int 1, .int 0, .ref 41]) (pm_q192_1 (Nat.le_of_ble_eq_true rfl)) rfl rfl ?_
                  refine pm_R_op pm_M192 (pc' := 170) (st' := [.int 0, .int 8, .int 3, .int 1, .int 0, .ref 41]) (pm_q192_1 (Nat.le_of_ble_eq_true rfl)) rfl rfl ?_
                  refine pm_R_cv pm_M192 (pc' := 173) (a := 41) (ra := [.int 0, .int 8, .int 3, .int 1, .int 0]) (rest := []) (ls' := [.ref 41, .int 0, .int 1, .int 3, .int 8, .int 0, pm_no, pm_no]) (pm_q192_1 (Nat.le_of_ble_eq_true rfl)) rfl (Or.inl rfl) pm_M185 T626.2.1 rfl (by decide) (Nat.lt_of_lt_of_le (by decide) T626.1) rfl rfl (Nat.le_of_ble_eq_true rfl) rfl rfl ?_
                  refine pm_R_lo pm_M185 (pc' := 1) rfl rfl rfl ?_
                  refine rf_R_get pm_M185 T626 (pc' := 4) (v := .ref 51) rfl rfl rfl rfl ?_
                  refine pm_R_lo pm_M185 (pc' := 5) rfl rfl rfl ?_
                  have e635 := (F627.cell (by decide) (F508.cell (by decide) (F499.cell (by decide) (F494.cell (by decide) (F489.cell (by decide) (F484.cell (by decide) (F479.cell (by decide) (F466.cell (by decide) e3))))))))
                  refine pm_R_iald pm_M185 (pc' := 6) (v := (f2 0)) rfl e635 (Nat.lt_of_lt_of_le (by decide) T626.1) rfl rfl rfl ?_
                  refine pm_R_lo pm_M185 (pc' := 8) (ls' := [.ref 41, .int 0, .int 1, .int 3, .int 8, .int 0, .int (f2 0), pm_no]) (st' := []) rfl rfl rfl ?_
                  refine pm_R_lo pm_M185 (pc' := 10) rfl rfl rfl ?_
                  refine pm_R_lo pm_M185 (pc' := 12) rfl rfl rfl ?_
                  refine pm_R_icmp pm_M185 (t := 16) (pc' := 15) rfl rfl rfl (fun c638 => ?_) (fun c638 => absurd (Classical.not_not.mp c638) (sf_neq2 B459 sf_k8 (by decide)))
                  skip
                  refine pm_R_op pm_M185 (pc' := 17) (st' := [.int 0]) rfl rfl rfl ?_
                  refine pm_R_lo pm_M185 (pc' := 19) (ls' := [.ref 41, .int 0, .int 1, .int 3, .int 8, .int 0, .int (f2 0), .int 0]) (st' := []) rfl rfl rfl ?_
                  refine pm_R_lo pm_M185 (pc' := 21) rfl rfl rfl ?_
                  refine pm_R_lo pm_M185 (pc' := 22) rfl rfl rfl ?_
                  refine pm_R_br pm_M185 (pc' := 25) (st' := []) rfl rfl ?_
                  refine pm_R_lo pm_M185 (pc' := 26) rfl rfl rfl ?_
                  refine rf_R_get pm_M185 T626 (pc' := 29) (v := .ref 51) rfl rfl rfl rfl ?_
                  refine pm_R_lo pm_M185 (pc' := 30) rfl rfl rfl ?_
                  refine pm_R_lo pm_M185 (pc' := 31) rfl rfl rfl ?_
                  refine pm_R_lo pm_M185 (pc' := 33) rfl rfl rfl ?_
                  refine sf_R_imul pm_M185 (pc' := 34) rfl rfl sf_k3 B459 (by decide) (by decide) (by decide) (fun z639 e640 B641 => ?_)
                  refine sf_R_iadd pm_M185 (pc' := 35) rfl rfl sf_k1 B641 (by decide) (by decide) (fun z642 e643 B644 => ?_)
                  refine pm_R_lo pm_M185 (pc' := 37) rfl rfl rfl ?_
                  refine sf_R_iadd pm_M185 (pc' := 38) rfl rfl B644 sf_k0 (by decide) (by decide) (fun z645 e646 B647 => ?_)
                  refine pm_R_lo pm_M185 (pc' := 39) rfl rfl rfl ?_
                  refine rf_R_get pm_M185 T626 (pc' := 42) (v := .ref 52) rfl rfl rfl rfl ?_
                  refine pm_R_lo pm_M185 (pc' := 44) rfl rfl rfl ?_
                  refine pm_R_lo pm_M185 (pc' := 46) rfl rfl rfl ?_
                  refine pm_R_op pm_M185 (pc' := 47) (st' := [.int 0, .ref 52, .int z645, .ref 51]) rfl rfl rfl ?_
                  have e648 := (F627.cell (by decide) e509)
                  refine pm_R_iald pm_M185 (pc' := 48) (v := 4) rfl e648 (Nat.lt_of_lt_of_le (by decide) T626.1) rfl (Eq.trans (show (upd (upd (upd (upd (upd (upd f474 (Int32.toNatClampNeg 0) (-1)) (Int32.toNatClampNeg 1) (-1)) (Int32.toNatClampNeg 2) (-1)) (Int32.toNatClampNeg 3) (-1)) (Int32.toNatClampNeg 0) 4) (Int32.toNatClampNeg 1) (m462 14)) (Int32.toNatClampNeg 0) = (upd (upd (upd (upd (upd f474 (Int32.toNatClampNeg 0) (-1)) (Int32.toNatClampNeg 1) (-1)) (Int32.toNatClampNeg 2) (-1)) (Int32.toNatClampNeg 3) (-1)) (Int32.toNatClampNeg 0) 4) (Int32.toNatClampNeg 0) from rfl) rfl) rfl ?_
                  refine rf_R_ist pm_M185 T626 (pc' := 49) rfl e635 (by decide) (by decide) (sf_in B647 (by decide) (by decide)) ⟨_, rfl⟩ rfl (fun h651 T652 F653 e654 => ?_)
                  have F655 := F631.trans F653 (by decide)
                  have w656 := rf_w3s (sf_aux119 _ _ _ _ e640 e643 e646) B459
                  have ct657 : rf_ct 3 (upd f2 (Int32.toNatClampNeg z645) 4) := (sf_eqL (Eq.trans (sf_upd_ne (j := Int32.toNatClampNeg 0) B647 (by decide) (by decide)) rfl) (sf_weak B459 (by decide) (by decide)))
                  have bd658 : (m623 17).toInt = 0 → rf_bd 3 (upd f2 (Int32.toNatClampNeg z645) 4) := fun z => ((bd5 (sf_aux53 _ _ ek633 z)).set (k := z645) (sf_weak sf_k4 (by decide) (by decide)) w656.1 w656.2)
                  refine pm_R_lo pm_M185 (pc' := 52) (ls' := [.ref 41, .int 0, .int 1, .int 3, .int 8, .int 0, .int (f2 0), .int 1]) (st' := []) rfl rfl rfl ?_
                  refine pm_R_br pm_M185 (pc' := 19) rfl rfl ?_
                  refine pm_R_lo pm_M185 (pc' := 21) rfl rfl rfl ?_
                  refine pm_R_lo pm_M185 (pc' := 22) rfl rfl rfl ?_
                  refine pm_R_br pm_M185 (pc' := 25) (st' := []) rfl rfl ?_
                  refine pm_R_lo pm_M185 (pc' := 26) rfl rfl rfl ?_
                  refine rf_R_get pm_M185 T652 (pc' := 29) (v := .ref 51) rfl rfl rfl rfl ?_
                  refine pm_R_lo pm_M185 (pc' := 30) rfl rfl rfl ?_
                  refine pm_R_lo pm_M185 (pc' := 31) rfl rfl rfl ?_
                  refine pm_R_lo pm_M185 (pc' := 33) rfl rfl rfl ?_
                  refine sf_R_imulV pm_M185 (pc' := 34) rfl rfl sf_k3 B459 (by decide) (by decide) (by decide) e640 ?_
                  refine sf_R_iaddV pm_M185 (pc' := 35) rfl rfl sf_k1 B641 (by decide) (by decide) e643 ?_
                  refine pm_R_lo pm_M185 (pc' := 37) rfl rfl rfl ?_
                  refine sf_R_iadd pm_M185 (pc' := 38) rfl rfl B644 sf_k1 (by decide) (by decide) (fun z659 e660 B661 => ?_)
                  refine pm_R_lo pm_M185 (pc' := 39) rfl rfl rfl ?_
                  refine rf_R_get pm_M185 T652 (pc' := 42) (v := .ref 52) rfl rfl rfl rfl ?_
                  refine pm_R_lo pm_M185 (pc' := 44) rfl rfl rfl ?_
                  refine pm_R_lo pm_M185 (pc' := 46) rfl rfl rfl ?_
                  refine pm_R_op pm_M185 (pc' := 47) (st' := [.int 1, .ref 52, .int z659, .ref 51]) rfl rfl rfl ?_
                  have e662 := (F653.cell (by decide) e648)
                  refine pm_R_iald pm_M185 (pc' := 48) (v := (m462 14)) rfl e662 (Nat.lt_of_lt_of_le (by decide) T652.1) rfl rfl rfl ?_
                  refine rf_R_ist pm_M185 T652 (pc' := 49) rfl e654 (by decide) (by decide) (sf_in B661 (by decide) (by decide)) ⟨_, rfl⟩ rfl (fun h665 T666 F667 e668 => ?_)
                  have F669 := F655.trans F667 (by decide)
                  have w670 := rf_w3f (sf_aux120 _ _ _ _ e640 e643 e660) B459
                  have ct671 : rf_ct 3 (upd (upd f2 (Int32.toNatClampNeg z645) 4) (Int32.toNatClampNeg z659) (m462 14)) := (sf_eqL (Eq.trans (sf_upd_ne (j := Int32.toNatClampNeg 0) B661 (by decide) (by decide)) (Eq.trans (sf_upd_ne (j := Int32.toNatClampNeg 0) B647 (by decide) (by decide)) rfl)) (sf_weak B459 (by decide) (by decide)))
                  have bd672 : (m623 17).toInt = 0 → rf_bd 3 (upd (upd f2 (Int32.toNatClampNeg z645) 4) (Int32.toNatClampNeg z659) (m462 14)) := fun z => ((bd658 z).set (k := z659) B618 w670.1 w670.2)
                  refine pm_R_lo pm_M185 (pc' := 52) (ls' := [.ref 41, .int 0, .int 1, .int 3, .int 8, .int 0, .int (f2 0), .int 2]) (st' := []) rfl rfl rfl ?_
                  refine pm_R_br pm_M185 (pc' := 19) rfl rfl ?_
                  refine pm_R_lo pm_M185 (pc' := 21) rfl rfl rfl ?_
                  refine pm_R_lo pm_M185 (pc' := 22) rfl rfl rfl ?_
                  refine pm_R_br pm_M185 (pc' := 25) (st' := []) rfl rfl ?_
                  refine pm_R_lo pm_M185 (pc' := 26) rfl rfl rfl ?_
                  refine rf_R_get pm_M185 T666 (pc' := 29) (v := .ref 51) rfl rfl rfl rfl ?_
                  refine pm_R_lo pm_M185 (pc' := 30) rfl rfl rfl ?_
                  refine pm_R_lo pm_M185 (pc' := 31) rfl rfl rfl ?_
                  refine pm_R_lo pm_M185 (pc' := 33) rfl rfl rfl ?_
                  refine sf_R_imulV pm_M185 (pc' := 34) rfl rfl sf_k3 B459 (by decide) (by decide) (by decide) e640 ?_
                  refine sf_R_iaddV pm_M185 (pc' := 35) rfl rfl sf_k1 B641 (by decide) (by decide) e643 ?_
                  refine pm_R_lo pm_M185 (pc' := 37) rfl rfl rfl ?_
                  refine sf_R_iadd pm_M185 (pc' := 38) rfl rfl B644 sf_k2 (by decide) (by decide) (fun z673 e674 B675 => ?_)
                  refine pm_R_lo pm_M185 (pc' := 39) rfl rfl rfl ?_
                  refine rf_R_get pm_M185 T666 (pc' := 42) (v := .ref 52) rfl rfl rfl rfl ?_
                  refine pm_R_lo pm_M185 (pc' := 44) rfl rfl rfl ?_
                  refine pm_R_lo pm_M185 (pc' := 46) rfl rfl rfl ?_
                  refine pm_R_op pm_M185 (pc' := 47) (st' := [.int 2, .ref 52, .int z673, .ref 51]) rfl rfl rfl ?_
                  have e676 := (F667.cell (by decide) e662)
                  refine pm_R_iald pm_M185 (pc' := 48) (v := (-1)) rfl e676 (Nat.lt_of_lt_of_le (by decide) T666.1) rfl (Eq.trans (show (upd (upd (upd (upd (upd (upd f474 (Int32.toNatClampNeg 0) (-1)) (Int32.toNatClampNeg 1) (-1)) (Int32.toNatClampNeg 2) (-1)) (Int32.toNatClampNeg 3) (-1)) (Int32.toNatClampNeg 0) 4) (Int32.toNatClampNeg 1) (m462 14)) (Int32.toNatClampNeg 2) = (upd (upd (upd (upd (upd f474 (Int32.toNatClampNeg 0) (-1)) (Int32.toNatClampNeg 1) (-1)) (Int32.toNatClampNeg 2) (-1)) (Int32.toNatClampNeg 3) (-1)) (Int32.toNatClampNeg 0) 4) (Int32.toNatClampNeg 2) from rfl) (Eq.trans (show (upd (upd (upd (upd (upd f474 (Int32.toNatClampNeg 0) (-1)) (Int32.toNatClampNeg 1) (-1)) (Int32.toNatClampNeg 2) (-1)) (Int32.toNatClampNeg 3) (-1)) (Int32.toNatClampNeg 0) 4) (Int32.toNatClampNeg 2) = (upd (upd (upd (upd f474 (Int32.toNatClampNeg 0) (-1)) (Int32.toNatClampNeg 1) (-1)) (Int32.toNatClampNeg 2) (-1)) (Int32.toNatClampNeg 3) (-1)) (Int32.toNatClampNeg 2) from rfl) (Eq.trans (show (upd (upd (upd (upd f474 (Int32.toNatClampNeg 0) (-1)) (Int32.toNatClampNeg 1) (-1)) (Int32.toNatClampNeg 2) (-1)) (Int32.toNatClampNeg 3) (-1)) (Int32.toNatClampNeg 2) = (upd (upd (upd f474 (Int32.toNatClampNeg 0) (-1)) (Int32.toNatClampNeg 1) (-1)) (Int32.toNatClampNeg 2) (-1)) (Int32.toNatClampNeg 2) from rfl) rfl))) rfl ?_
                  refine rf_R_ist pm_M185 T666 (pc' := 49) rfl e668 (by decide) (by decide) (sf_in B675 (by decide) (by decide)) ⟨_, rfl⟩ rfl (fun h679 T680 F681 e682 => ?_)
                  have F683 := F669.trans F681 (by decide)
                  have w684 := rf_w3o (sf_aux121 _ _ _ _ e640 e643 e674) B459
                  have ct685 : rf_ct 3 (upd (upd (upd f2 (Int32.toNatClampNeg z645) 4) (Int32.toNatClampNeg z659) (m462 14)) (Int32.toNatClampNeg z673) (-1)) := (sf_eqL (Eq.trans (sf_upd_ne (j := Int32.toNatClampNeg 0) B675 (by decide) (by decide)) (Eq.trans (sf_upd_ne (j := Int32.toNatClampNeg 0) B661 (by decide) (by decide)) (Eq.trans (sf_upd_ne (j := Int32.toNatClampNeg 0) B647 (by decide) (by decide)) rfl))) (sf_weak B459 (by decide) (by decide)))
                  have bd686 : (m623 17).toInt = 0 → rf_bd 3 (upd (upd (upd f2 (Int32.toNatClampNeg z645) 4) (Int32.toNatClampNeg z659) (m462 14)) (Int32.toNatClampNeg z673) (-1)) := fun z => ((bd672 z).set (k := z673) (sf_weak sf_kn1 (by decide) (by decide)) w684.1 w684.2)
                  refine pm_R_lo pm_M185 (pc' := 52) (ls' := [.ref 41, .int 0, .int 1, .int 3, .int 8, .int 0, .int (f2 0), .int 3]) (st' := []) rfl rfl rfl ?_
                  refine pm_R_br pm_M185 (pc' := 19) rfl rfl ?_
                  refine pm_R_lo pm_M185 (pc' := 21) rfl rfl rfl ?_
                  refine pm_R_lo pm_M185 (pc' := 22) rfl rfl rfl ?_
                  refine pm_R_br pm_M185 (pc' := 55) (st' := []) rfl rfl ?_
                  refine pm_R_lo pm_M185 (pc' := 56) rfl rfl rfl ?_
                  refine rf_R_get pm_M185 T680 (pc' := 59) (v := .ref 51) rfl rfl rfl rfl ?_
                  refine pm_R_lo pm_M185 (pc' := 60) rfl rfl rfl ?_
                  refine pm_R_op pm_M185 (pc' := 61) (st' := [.int 0, .ref 51, .int 0, .ref 51]) rfl rfl rfl ?_
                  refine pm_R_iald pm_M185 (pc' := 62) (v := (f2 0)) rfl e682 (Nat.lt_of_lt_of_le (by decide) T680.1) rfl (Eq.trans (sf_upd_ne (j := Int32.toNatClampNeg 0) B675 (by decide) (by decide)) (Eq.trans (sf_upd_ne (j := Int32.toNatClampNeg 0) B661 (by decide) (by decide)) (Eq.trans (sf_upd_ne (j := Int32.toNatClampNeg 0) B647 (by decide) (by decide)) rfl))) rfl ?_
                  refine pm_R_op pm_M185 (pc' := 63) (st' := [.int 1, .int (f2 0), .int 0, .ref 51]) rfl rfl rfl ?_
                  refine sf_R_iadd pm_M185 (pc' := 64) rfl rfl B459 sf_k1 (by decide) (by decide) (fun z689 e690 B691 => ?_)
                  refine rf_R_ist pm_M185 T680 (pc' := 65) rfl e682 (by decide) (by decide) rfl ⟨_, rfl⟩ rfl (fun h692 T693 F694 e695 => ?_)
                  have F696 := F683.trans F694 (by decide)
                  have ct697 : rf_ct 3 (upd (upd (upd (upd f2 (Int32.toNatClampNeg z645) 4) (Int32.toNatClampNeg z659) (m462 14)) (Int32.toNatClampNeg z673) (-1)) (Int32.toNatClampNeg 0) z689) := (sf_eqL rfl (sf_weak B691 (by decide) (by decide)))
                  have bd698 : (m623 17).toInt = 0 → rf_bd 3 (upd (upd (upd (upd f2 (Int32.toNatClampNeg z645) 4) (Int32.toNatClampNeg z659) (m462 14)) (Int32.toNatClampNeg z673) (-1)) (Int32.toNatClampNeg 0) z689) := fun z => ((bd686 z).set (k := 0) B691 (by decide) (by decide))
                  refine pm_R_ret pm_M185 (r := none) rfl rfl ?_
                  show pm_R _ 192 173 [.ref 41, .long a0, pm_no, .int a1, .int 4] [] _ _
                  refine pm_R_op pm_M192 (pc' := 174) (st' := [.int 1]) (pm_q192_1 (Nat.le_of_ble_eq_true rfl)) rfl rfl ?_
                  have B699 : sf_B 0 600 (m623 10) := T693.2.2.1 10
                  exact pm_R_ret pm_M192 (r := some (.int 1)) (pm_q192_1 (Nat.le_of_ble_eq_true rfl)) rfl (K1 m623 w624 h692 T693 F696 W634 (⟨(upd (upd (upd (upd f2 (Int32.toNatClampNeg z645) 4) (Int32.toNatClampNeg z659) (m462 14)) (Int32.toNatClampNeg z673) (-1)) (Int32.toNatClampNeg 0) z689), e695, ct697, fun z => (bd698 z)⟩) (sf_aux116 _ _ _ X468 X629))
              · skip
                refine pm_R_lo pm_M183 (pc' := 9) rfl rfl rfl ?_
                refine pm_R_cv pm_M183 (pc' := 12) (a := 41) (ra := []) (rest := []) (ls' := [.ref 41]) rfl rfl (Or.inl rfl) pm_M184 T498.2.1 rfl (by decide) (Nat.lt_of_lt_of_le (by decide) T498.1) rfl rfl (Nat.le_of_ble_eq_true rfl) rfl rfl ?_
                refine pm_R_lo pm_M184 (pc' := 1) rfl rfl rfl ?_
                refine pm_R_lo pm_M184 (pc' := 2) rfl rfl rfl ?_
                have B700 : sf_B 0 600 (m462 12) := T498.2.2.1 12
                refine rf_R_get pm_M184 T498 (pc' := 5) (v := .int (m462 12)) rfl rfl rfl rfl ?_
                refine rf_R_put pm_M184 T498 (pc' := 8) rfl rfl rfl (by decide) rfl rfl B700 rfl rfl (fun h701 m704 em705 T702 F703 => ?_)
                have F706 := F501.trans F703 (by decide)
                have B707 : sf_B 0 4 (m704 17) := by rw [em705]; exact B471
                have ek708 : (m704 17).toInt = ((m 17)).toInt := by rw [em705]; exact ek472
                have B709 : sf_B 0 600 (m704 16) := by rw [em705]; exact B700
                have ek710 : (m704 16).toInt = ((m462 12)).toInt := by rw [em705]; rfl
                have W711 : rf_W [10, 12, 13, 14, 16, 17, 18, 22] m m704 := by rw [em705]; exact W473.put (by decide)
                refine pm_R_op pm_M184 (pc' := 9) (st' := [.int 0]) rfl rfl rfl ?_
                refine pm_R_ret pm_M184 (r := some (.int 0)) rfl rfl ?_
                show pm_R _ 183 12 [.ref 41, .int 1, .int 9, .int (-1)] [.int 0] _ _
                refine pm_R_ret pm_M183 (r := some (.int 0)) rfl rfl ?_
                show pm_R _ 192 127 [.ref 41, .long a0, pm_no, .int a1, .int 4] [.int 0] _ _
                refine pm_R_br pm_M192 (pc' := 130) (st' := []) (pm_q192_1 (Nat.le_of_ble_eq_true rfl)) rfl ?_
                refine pm_R_op pm_M192 (pc' := 131) (st' := [.int 0]) (pm_q192_1 (Nat.le_of_ble_eq_true rfl)) rfl rfl ?_
                have B712 : sf_B 0 600 (m704 10) := T702.2.2.1 10
                exact pm_R_ret pm_M192 (r := some (.int 0)) (pm_q192_1 (Nat.le_of_ble_eq_true rfl)) rfl (K0 m704 w463 h701 T702 F706 W711 (sf_aux91 _ _ _ X468))
            · have B713 : sf_B 8 8 (f2 0) := sf_eqL (Classical.not_not.mp c458) sf_k8
              refine pm_R_lo pm_M192 (pc' := 98) rfl rfl rfl ?_
              refine pm_R_op pm_M192 (pc' := 99) (st' := [.int 3, .ref 41]) rfl rfl rfl ?_
              refine pm_R_lo pm_M192 (pc' := 100) rfl rfl rfl ?_
              refine pm_R_cv pm_M192 (pc' := 103) (a := 41) (ra := [.int a1, .int 3]) (rest := []) (ls' := [.ref 41, .int 3, .int a1]) rfl rfl (Or.inl rfl) pm_M182 T.2.1 rfl (by decide) (Nat.lt_of_lt_of_le (by decide) T.1) rfl rfl (Nat.le_of_ble_eq_true rfl) rfl rfl ?_
              refine rf_c182 (d := d + 2) T (sf_weak sf_k3 (by decide) (by decide)) Ba1 (fun m716 w717 h718 T719 F720 W721 B722 => ?_)
              have F723 := (rf_G.refl [41, 51, 52] h).trans F720 (by decide)
              have B724 : sf_B 0 600 (m716 10) := by rw [W721 10 (by decide)]; exact B1
              have ek725 : (m716 10).toInt = ((m 10)).toInt := by rw [W721 10 (by decide)]
              have W726 : rf_W [10, 12, 13, 14, 16, 17, 18, 22] m m716 := (rf_W.refl [10, 12, 13, 14, 16, 17, 18, 22] m).trans W721 (by decide)
              show pm_R _ 192 103 [.ref 41, .long a0, pm_no, .int a1, .int 4] [] _ _
              refine pm_R_lo pm_M192 (pc' := 104) rfl rfl rfl ?_
              refine pm_R_cv pm_M192 (pc' := 107) (a := 41) (ra := []) (rest := []) (ls' := [.ref 41, pm_no, pm_no]) rfl rfl (Or.inl rfl) pm_M179 T719.2.1 rfl (by decide) (Nat.lt_of_lt_of_le (by decide) T719.1) rfl rfl (Nat.le_of_ble_eq_true rfl) rfl rfl ?_
              refine rf_c179 (d := d + 1) T719  (fun m729 w730 h731 T732 F733 W734 X735 X736 => ?_)
              have F737 := F723.trans F733 (by decide)
              have B738 : sf_B 1 4 (m729 17) := by rw [W734 17 (by decide)]; exact B722
              have ek739 : (m729 17).toInt = ((m716 17)).toInt := by rw [W734 17 (by decide)]
              have W740 : rf_W [10, 12, 13, 14, 16, 17, 18, 22] m m729 := W726.trans W734 (by decide)
              show pm_R _ 192 107 [.ref 41, .long a0, pm_no, .int a1, .int 4] [] _ _
              refine pm_R_lo pm_M192 (pc' := 108) rfl rfl rfl ?_
              refine pm_R_cv pm_M192 (pc' := 111) (a := 41) (ra := []) (rest := []) (ls' := [.ref 41, pm_no]) rfl rfl (Or.inl rfl) pm_M190 T732.2.1 rfl (by decide) (Nat.lt_of_lt_of_le (by decide) T732.1) rfl rfl (Nat.le_of_ble_eq_true rfl) rfl rfl ?_
              refine pm_R_op pm_M190 (pc' := 1) (st' := [.int 0]) rfl rfl rfl ?_
              refine pm_R_lo pm_M190 (pc' := 2) (ls' := [.ref 41, .int 0]) (st' := []) rfl rfl rfl ?_
              refine pm_R_lo pm_M190 (pc' := 3) rfl rfl rfl ?_
              refine pm_R_op pm_M190 (pc' := 4) (st' := [.int 4, .int 0]) rfl rfl rfl ?_
              refine pm_R_br pm_M190 (pc' := 7) (st' := []) rfl rfl ?_
              refine pm_R_lo pm_M190 (pc' := 8) rfl rfl rfl ?_
              refine rf_R_get pm_M190 T732 (pc' := 11) (v := .ref 52) rfl rfl rfl rfl ?_
              refine pm_R_lo pm_M190 (pc' := 12) rfl rfl rfl ?_
              refine pm_R_op pm_M190 (pc' := 13) (st' := [.int (-1), .int 0, .ref 52]) rfl rfl rfl ?_
              obtain ⟨f741, e742, b743⟩ := T732.2.2.2.1 52 (by decide) (by decide)
              refine rf_R_ist pm_M190 T732 (pc' := 14) rfl e742 (by decide) (by decide) rfl ⟨_, rfl, sf_upd b743 (sf_weak sf_kn1 (by decide) (by decide)) _⟩ rfl (fun h744 T745 F746 e747 => ?_)
              have F748 := F737.trans F746 (by decide)
              refine pm_R_lo pm_M190 (pc' := 17) (ls' := [.ref 41, .int 1]) (st' := []) rfl rfl rfl ?_
              refine pm_R_br pm_M190 (pc' := 2) rfl rfl ?_
              refine pm_R_lo pm_M190 (pc' := 3) rfl rfl rfl ?_
              refine pm_R_op pm_M190 (pc' := 4) (st' := [.int 4, .int 1]) rfl rfl rfl ?_
              refine pm_R_br pm_M190 (pc' := 7) (st' := []) rfl rfl ?_
              refine pm_R_lo pm_M190 (pc' := 8) rfl rfl rfl ?_
              refine rf_R_get pm_M190 T745 (pc' := 11) (v := .ref 52) rfl rfl rfl rfl ?_
              refine pm_R_lo pm_M190 (pc' := 12) rfl rfl rfl ?_
              refine pm_R_op pm_M190 (pc' := 13) (st' := [.int (-1), .int 1, .ref 52]) rfl rfl rfl ?_
              refine rf_R_ist pm_M190 T745 (pc' := 14) rfl e747 (by decide) (by decide) rfl ⟨_, rfl, sf_upd (sf_upd b743 (sf_weak sf_kn1 (by decide) (by decide)) _) (sf_weak sf_kn1 (by decide) (by decide)) _⟩ rfl (fun h749 T750 F751 e752 => ?_)
              have F753 := F748.trans F751 (by decide)
              refine pm_R_lo pm_M190 (pc' := 17) (ls' := [.ref 41, .int 2]) (st' := []) rfl rfl rfl ?_
              refine pm_R_br pm_M190 (pc' := 2) rfl rfl ?_
              refine pm_R_lo pm_M190 (pc' := 3) rfl rfl rfl ?_
              refine pm_R_op pm_M190 (pc' := 4) (st' := [.int 4, .int 2]) rfl rfl rfl ?_
              refine pm_R_br pm_M190 (pc' := 7) (st' := []) rfl rfl ?_
              refine pm_R_lo pm_M190 (pc' := 8) rfl rfl rfl ?_
              refine rf_R_get pm_M190 T750 (pc' := 11) (v := .ref 52) rfl rfl rfl rfl ?_
              refine pm_R_lo pm_M190 (pc' := 12) rfl rfl rfl ?_
              refine pm_R_op pm_M190 (pc' := 13) (st' := [.int (-1), .int 2, .ref 52]) rfl rfl rfl ?_
              refine rf_R_ist pm_M190 T750 (pc' := 14) rfl e752 (by decide) (by decide) rfl ⟨_, rfl, sf_upd (sf_upd (sf_upd b743 (sf_weak sf_kn1 (by decide) (by decide)) _) (sf_weak sf_kn1 (by decide) (by decide)) _) (sf_weak sf_kn1 (by decide) (by decide)) _⟩ rfl (fun h754 T755 F756 e757 => ?_)
              have F758 := F753.trans F756 (by decide)
              refine pm_R_lo pm_M190 (pc' := 17) (ls' := [.ref 41, .int 3]) (st' := []) rfl rfl rfl ?_
              refine pm_R_br pm_M190 (pc' := 2) rfl rfl ?_
              refine pm_R_lo pm_M190 (pc' := 3) rfl rfl rfl ?_
              refine pm_R_op pm_M190 (pc' := 4) (st' := [.int 4, .int 3]) rfl rfl rfl ?_
              refine pm_R_br pm_M190 (pc' := 7) (st' := []) rfl rfl ?_
              refine pm_R_lo pm_M190 (pc' := 8) rfl rfl rfl ?_
              refine rf_R_get pm_M190 T755 (pc' := 11) (v := .ref 52) rfl rfl rfl rfl ?_
              refine pm_R_lo pm_M190 (pc' := 12) rfl rfl rfl ?_
              refine pm_R_op pm_M190 (pc' := 13) (st' := [.int (-1), .int 3, .ref 52]) rfl rfl rfl ?_
              refine rf_R_ist pm_M190 T755 (pc' := 14) rfl e757 (by decide) (by decide) rfl ⟨_, rfl, sf_upd (sf_upd (sf_upd (sf_upd b743 (sf_weak sf_kn1 (by decide) (by decide)) _) (sf_weak sf_kn1 (by decide) (by decide)) _) (sf_weak sf_kn1 (by decide) (by decide)) _) (sf_weak sf_kn1 (by decide) (by decide)) _⟩ rfl (fun h759 T760 F761 e762 => ?_)
              have F763 := F758.trans F761 (by decide)
              refine pm_R_lo pm_M190 (pc' := 17) (ls' := [.ref 41, .int 4]) (st' := []) rfl rfl rfl ?_
              refine pm_R_br pm_M190 (pc' := 2) rfl rfl ?_
              refine pm_R_lo pm_M190 (pc' := 3) rfl rfl rfl ?_
              refine pm_R_op pm_M190 (pc' := 4) (st' := [.int 4, .int 4]) rfl rfl rfl ?_
              refine pm_R_br pm_M190 (pc' := 20) (st' := []) rfl rfl ?_
              refine pm_R_ret pm_M190 (r := none) rfl rfl ?_
              show pm_R _ 192 111 [.ref 41, .long a0, pm_no, .int a1, .int 4] [] _ _
              refine pm_R_lo pm_M192 (pc' := 112) rfl rfl rfl ?_
              refine rf_R_get pm_M192 T760 (pc' := 115) (v := .ref 52) rfl rfl rfl rfl ?_
              refine pm_R_op pm_M192 (pc' := 116) (st' := [.int 0, .ref 52]) (pm_q192_1 (Nat.le_of_ble_eq_true rfl)) rfl rfl ?_
              refine pm_R_lo pm_M192 (pc' := 118) (pm_q192_1 (Nat.le_of_ble_eq_true rfl)) rfl rfl ?_
              refine rf_R_ist pm_M192 T760 (pc' := 119) (pm_q192_1 (Nat.le_of_ble_eq_true rfl)) e762 (by decide) (by decide) rfl ⟨_, rfl, sf_upd (sf_upd (sf_upd (sf_upd (sf_upd b743 (sf_weak sf_kn1 (by decide) (by decide)) _) (sf_weak sf_kn1 (by decide) (by decide)) _) (sf_weak sf_kn1 (by decide) (by decide)) _) (sf_weak sf_kn1 (by decide) (by decide)) _) (sf_weak sf_k4 (by decide) (by decide)) _⟩ rfl (fun h764 T765 F766 e767 => ?_)
              have F768 := F763.trans F766 (by decide)
              refine pm_R_lo pm_M192 (pc' := 120) (pm_q192_1 (Nat.le_of_ble_eq_true rfl)) rfl rfl ?_
              refine pm_R_op pm_M192 (pc' := 121) (st' := [.int 1, .ref 41]) (pm_q192_1 (Nat.le_of_ble_eq_true rfl)) rfl rfl ?_
              refine pm_R_op pm_M192 (pc' := 123) (st' := [.int 9, .int 1, .ref 41]) (pm_q192_1 (Nat.le_of_ble_eq_true rfl)) rfl rfl ?_
              refine pm_R_op pm_M192 (pc' := 124) (st' := [.int (-1), .int 9, .int 1, .ref 41]) (pm_q192_1 (Nat.le_of_ble_eq_true rfl)) rfl rfl ?_
              refine pm_R_cv pm_M192 (pc' := 127) (a := 41) (ra := [.int (-1), .int 9, .int 1]) (rest := []) (ls' := [.ref 41, .int 1, .int 9, .int (-1)]) (pm_q192_1 (Nat.le_of_ble_eq_true rfl)) rfl (Or.inl rfl) pm_M183 T765.2.1 rfl (by decide) (Nat.lt_of_lt_of_le (by decide) T765.1) rfl rfl (Nat.le_of_ble_eq_true rfl) rfl rfl ?_
              refine pm_R_lo pm_M183 (pc' := 1) rfl rfl rfl ?_
              have B769 : sf_B 0 4 (m729 13) := T765.2.2.1 13
              refine rf_R_get pm_M183 T765 (pc' := 4) (v := .int (m729 13)) rfl rfl rfl rfl ?_
              refine pm_R_op pm_M183 (pc' := 5) (st' := [.int 3, .int (m729 13)]) rfl rfl rfl ?_
              refine pm_R_icmp pm_M183 (t := 13) (pc' := 8) rfl rfl rfl (fun c770 => ?_) (fun c770 => ?_)
              · have B771 : sf_B 3 3 (m729 13) := sf_eqL c770 sf_k3
                refine pm_R_lo pm_M183 (pc' := 14) rfl rfl rfl ?_
                refine rf_R_get pm_M183 T765 (pc' := 17) (v := .ref 52) rfl rfl rfl rfl ?_
                refine pm_R_lo pm_M183 (pc' := 18) rfl rfl rfl ?_
                refine pm_R_lo pm_M183 (pc' := 19) rfl rfl rfl ?_
                have B772 : sf_B 0 99 (m729 14) := T765.2.2.1 14
                refine rf_R_get pm_M183 T765 (pc' := 22) (v := .int (m729 14)) rfl rfl rfl rfl ?_
                refine rf_R_ist pm_M183 T765 (pc' := 23) rfl e767 (by decide) (by decide) rfl ⟨_, rfl, sf_upd (sf_upd (sf_upd (sf_upd (sf_upd (sf_upd b743 (sf_weak sf_kn1 (by decide) (by decide)) _) (sf_weak sf_kn1 (by decide) (by decide)) _) (sf_weak sf_kn1 (by decide) (by decide)) _) (sf_weak sf_kn1 (by decide) (by decide)) _) (sf_weak sf_k4 (by decide) (by decide)) _) (sf_weak B772 (by decide) (by decide)) _⟩ rfl (fun h773 T774 F775 e776 => ?_)
                have F777 := F768.trans F775 (by decide)
                refine pm_R_lo pm_M183 (pc' := 24) rfl rfl rfl ?_
                refine rf_R_get pm_M183 T774 (pc' := 27) (v := .int (m729 14)) rfl rfl rfl rfl ?_
                refine pm_R_lo pm_M183 (pc' := 28) rfl rfl rfl ?_
                refine pm_R_icmp pm_M183 (t := 39) (pc' := 31) rfl rfl rfl (fun c778 => ?_) (fun c778 => ?_)
                · have B779 : sf_B 10 99 (m729 14) := sf_ltR c778 sf_k9 B772
                  refine pm_R_lo pm_M183 (pc' := 40) rfl rfl rfl ?_
                  refine pm_R_op pm_M183 (pc' := 41) (st' := [.int 2, .ref 41]) rfl rfl rfl ?_
                  refine pm_R_lo pm_M183 (pc' := 42) rfl rfl rfl ?_
                  have B780 : sf_B 0 600 (m729 12) := T774.2.2.1 12
                  refine rf_R_get pm_M183 T774 (pc' := 45) (v := .int (m729 12)) rfl rfl rfl rfl ?_
                  refine pm_R_cv pm_M183 (pc' := 48) (a := 41) (ra := [.int (m729 12), .int 2]) (rest := []) (ls' := [.ref 41, .int 2, .int (m729 12)]) rfl rfl (Or.inl rfl) pm_M182 T774.2.1 rfl (by decide) (Nat.lt_of_lt_of_le (by decide) T774.1) rfl rfl (Nat.le_of_ble_eq_true rfl) rfl rfl ?_
                  refine rf_c182 (d := d + 1) T774 (sf_weak sf_k2 (by decide) (by decide)) B780 (fun m783 w784 h785 T786 F787 W788 B789 => ?_)
                  have F790 := F777.trans F787 (by decide)
                  have B791 : sf_B 3 3 (m783 13) := by rw [W788 13 (by decide)]; exact B771
                  have B792 : sf_B 10 99 (m783 14) := by rw [W788 14 (by decide)]; exact B779
                  have W793 : rf_W [10, 12, 13, 14, 16, 17, 18, 22] m m783 := W740.trans W788 (by decide)
                  show pm_R _ 183 48 [.ref 41, .int 1, .int 9, .int (-1)] [] _ _
                  refine pm_R_lo pm_M183 (pc' := 49) rfl rfl rfl ?_
                  refine pm_R_op pm_M183 (pc' := 50) (st' := [.int 0, .ref 41]) rfl rfl rfl ?_
                  refine rf_R_put pm_M183 T786 (pc' := 53) rfl rfl rfl (by decide) rfl rfl (sf_weak sf_k0 (by decide) (by decide)) rfl rfl (fun h794 m797 em798 T795 F796 => ?_)
                  have F799 := F790.trans F796 (by decide)
                  have B800 : sf_B 3 3 (m797 13) := by rw [em798]; exact B791
                  have B801 : sf_B 10 99 (m797 14) := by rw [em798]; exact B792
                  have B802 : sf_B 1 4 (m797 17) := by rw [em798]; exact B789
                  have ek803 : (m797 17).toInt = ((m783 17)).toInt := by rw [em798]; rfl
                  have B804 : sf_B 0 0 (m797 22) := by rw [em798]; exact sf_k0
                  have W806 : rf_W [10, 12, 13, 14, 16, 17, 18, 22] m m797 := by rw [em798]; exact W793.put (by decide)
                  refine pm_R_lo pm_M183 (pc' := 54) rfl rfl rfl ?_
                  refine pm_R_cv pm_M183 (pc' := 57) (a := 41) (ra := []) (rest := []) (ls' := [.ref 41, pm_no, pm_no]) rfl rfl (Or.inl rfl) pm_M179 T795.2.1 rfl (by decide) (Nat.lt_of_lt_of_le (by decide) T795.1) rfl rfl (Nat.le_of_ble_eq_true rfl) rfl rfl ?_
                  have B807 : sf_B 0 600 (m797 10) := T795.2.2.1 10
                  refine rf_c179 (d := d + 0) T795  (fun m810 w811 h812 T813 F814 W815 X816 X817 => ?_)
                  have F818 := F799.trans F814 (by decide)
                  have B819 : sf_B 1 4 (m810 17) := by rw [W815 17 (by decide)]; exact B802
                  have ek820 : (m810 17).toInt = ((m783 17)).toInt := by rw [W815 17 (by decide)]; exact ek803
                  have B821 : sf_B 0 0 (m810 22) := by rw [W815 22 (by decide)]; exact B804
                  have W822 : rf_W [10, 12, 13, 14, 16, 17, 18, 22] m m810 := W806.trans W815 (by decide)
                  show pm_R _ 183 57 [.ref 41, .int 1, .int 9, .int (-1)] [] _ _
                  refine pm_R_op pm_M183 (pc' := 58) (st' := [.int 1]) rfl rfl rfl ?_
                  refine pm_R_ret pm_M183 (r := some (.int 1)) rfl rfl ?_
                  show pm_R _ 192 127 [.ref 41, .long a0, pm_no, .int a1, .int 4] [.int 1] _ _
                  refine pm_R_br pm_M192 (pc' := 132) (st' := []) (pm_q192_1 (Nat.le_of_ble_eq_true rfl)) rfl ?_
                  refine pm_R_lo pm_M192 (pc' := 134) (pm_q192_1 (Nat.le_of_ble_eq_true rfl)) rfl rfl ?_
                  refine pm_R_op pm_M192 (pc' := 135) (st' := [.int 1, .int 4]) (pm_q192_1 (Nat.le_of_ble_eq_true rfl)) rfl rfl ?_
                  refine pm_R_br pm_M192 (pc' := 138) (st' := []) (pm_q192_1 (Nat.le_of_ble_eq_true rfl)) rfl ?_
                  refine pm_R_lo pm_M192 (pc' := 140) (pm_q192_1 (Nat.le_of_ble_eq_true rfl)) rfl rfl ?_
                  refine pm_R_op pm_M192 (pc' := 141) (st' := [.int 2, .int 4]) (pm_q192_1 (Nat.le_of_ble_eq_true rfl)) rfl rfl ?_
                  refine pm_R_br pm_M192 (pc' := 144) (st' := []) (pm_q192_1 (Nat.le_of_ble_eq_true rfl)) rfl ?_
                  refine pm_R_lo pm_M192 (pc' := 146) (pm_q192_1 (Nat.le_of_ble_eq_true rfl)) rfl rfl ?_
                  refine pm_R_op pm_M192 (pc' := 147) (st' := [.int 3, .int 4]) (pm_q192_1 (Nat.le_of_ble_eq_true rfl)) rfl rfl ?_
                  refine pm_R_br pm_M192 (pc' := 163) (st' := []) (pm_q192_1 (Nat.le_of_ble_eq_true rfl)) rfl ?_
                  refine pm_R_lo pm_M192 (pc' := 164) (pm_q192_1 (Nat.le_of_ble_eq_true rfl)) rfl rfl ?_
                  refine pm_R_op pm_M192 (pc' := 165) (st' := [.int 0, .ref 41]) (pm_q192_1 (Nat.le_of_ble_eq_true rfl)) rfl rfl ?_
                  refine pm_R_op pm_M192 (pc' := 166) (st' := [.int 1, .int 0, .ref 41]) (pm_q192_1 (Nat.le_of_ble_eq_true rfl)) rfl rfl ?_
                  refine pm_R_op pm_M192 (pc' := 167) (st' := [.int 3, .int 1, .int 0, .ref 41]) (pm_q192_1 (Nat.le_of_ble_eq_true rfl)) rfl rfl ?_
                  refine pm_R_op pm_M192 (pc' := 169) (st' := [.int 8, .int 3, .int 1, .int 0, .ref 41]) (pm_q192_1 (Nat.le_of_ble_eq_true rfl)) rfl rfl ?_
                  refine pm_R_op pm_M192 (pc' := 170) (st' := [.int 0, .int 8, .int 3, .int 1, .int 0, .ref 41]) (pm_q192_1 (Nat.le_of_ble_eq_true rfl)) rfl rfl ?_
                  refine pm_R_cv pm_M192 (pc' := 173) (a := 41) (ra := [.int 0, .int 8, .int 3, .int 1, .int 0]) (rest := []) (ls' := [.ref 41, .int 0, .int 1, .int 3, .int 8, .int 0, pm_no, pm_no]) (pm_q192_1 (Nat.le_of_ble_eq_true rfl)) rfl (Or.inl rfl) pm_M185 T813.2.1 rfl (by decide) (Nat.lt_of_lt_of_le (by decide) T813.1) rfl rfl (Nat.le_of_ble_eq_true rfl) rfl rfl ?_
                  refine pm_R_lo pm_M185 (pc' := 1) rfl rfl rfl ?_
                  refine rf_R_get pm_M185 T813 (pc' := 4) (v := .ref 51) rfl rfl rfl rfl ?_
                  refine pm_R_lo pm_M185 (pc' := 5) rfl rfl rfl ?_
                  have e823 := (F814.cell (by decide) (F796.cell (by decide) (F787.cell (by decide) (F775.cell (by decide) (F766.cell (by decide) (F761.cell (by decide) (F756.cell (by decide) (F751.cell (by decide) (F746.cell (by decide) (F733.cell (by decide) (F720.cell (by decide) e3)))))))))))
                  refine pm_R_iald pm_M185 (pc' := 6) (v := (f2 0)) rfl e823 (Nat.lt_of_lt_of_le (by decide) T813.1) rfl rfl rfl ?_
                  refine pm_R_lo pm_M185 (pc' := 8) (ls' := [.ref 41, .int 0, .int 1, .int 3, .int 8, .int 0, .int (f2 0), pm_no]) (st' := []) rfl rfl rfl ?_
                  refine pm_R_lo pm_M185 (pc' := 10) rfl rfl rfl ?_
                  refine pm_R_lo pm_M185 (pc' := 12) rfl rfl rfl ?_
                  refine pm_R_icmp pm_M185 (t := 16) (pc' := 15) rfl rfl rfl (fun c826 => absurd (sf_pt2 B713 sf_k8) c826) (fun c826 => ?_)
                  refine pm_R_ret pm_M185 (r := none) rfl rfl ?_
                  show pm_R _ 192 173 [.ref 41, .long a0, pm_no, .int a1, .int 4] [] _ _
                  refine pm_R_op pm_M192 (pc' := 174) (st' := [.int 1]) (pm_q192_1 (Nat.le_of_ble_eq_true rfl)) rfl rfl ?_
                  have B827 : sf_B 0 600 (m810 10) := T813.2.2.1 10
                  exact pm_R_ret pm_M192 (r := some (.int 1)) (pm_q192_1 (Nat.le_of_ble_eq_true rfl)) rfl (K1 m810 w811 h812 T813 F818 W822 (⟨f2, e823, ct4, fun z => (sf_pos B819 (by decide) z)⟩) (sf_aux122 _ _ _ _ _ X735 X816))
                · have B828 : sf_B 0 9 (m729 14) := sf_leL (Int32.not_lt.mp c778) B772 sf_k9
                  refine pm_R_lo pm_M183 (pc' := 32) rfl rfl rfl ?_
                  refine rf_R_get pm_M183 T774 (pc' := 35) (v := .int (m729 14)) rfl rfl rfl rfl ?_
                  refine pm_R_lo pm_M183 (pc' := 36) rfl rfl rfl ?_
                  refine pm_R_icmp pm_M183 (t := 53) (pc' := 39) rfl rfl rfl (fun c829 => ?_) (fun c829 => absurd (Classical.not_not.mp c829) (sf_neq1 B828 sf_kn1 (by decide)))
                  skip
                  refine pm_R_lo pm_M183 (pc' := 54) rfl rfl rfl ?_
                  refine pm_R_cv pm_M183 (pc' := 57) (a := 41) (ra := []) (rest := []) (ls' := [.ref 41, pm_no, pm_no]) rfl rfl (Or.inl rfl) pm_M179 T774.2.1 rfl (by decide) (Nat.lt_of_lt_of_le (by decide) T774.1) rfl rfl (Nat.le_of_ble_eq_true rfl) rfl rfl ?_
                  have B830 : sf_B 0 600 (m729 10) := T774.2.2.1 10
                  refine rf_c179 (d := d + 0) T774  (fun m833 w834 h835 T836 F837 W838 X839 X840 => ?_)
                  have F841 := F777.trans F837 (by decide)
                  have B842 : sf_B 1 4 (m833 17) := by rw [W838 17 (by decide)]; exact B738
                  have ek843 : (m833 17).toInt = ((m716 17)).toInt := by rw [W838 17 (by decide)]; exact ek739
                  have W844 : rf_W [10, 12, 13, 14, 16, 17, 18, 22] m m833 := W740.trans W838 (by decide)
                  show pm_R _ 183 57 [.ref 41, .int 1, .int 9, .int (-1)] [] _ _
                  refine pm_R_op pm_M183 (pc' := 58) (st' := [.int 1]) rfl rfl rfl ?_
                  refine pm_R_ret pm_M183 (r := some (.int 1)) rfl rfl ?_
                  show pm_R _ 192 127 [.ref 41, .long a0, pm_no, .int a1, .int 4] [.int 1] _ _
                  refine pm_R_br pm_M192 (pc' := 132) (st' := []) (pm_q192_1 (Nat.le_of_ble_eq_true rfl)) rfl ?_
                  refine pm_R_lo pm_M192 (pc' := 134) (pm_q192_1 (Nat.le_of_ble_eq_true rfl)) rfl rfl ?_
                  refine pm_R_op pm_M192 (pc' := 135) (st' := [.int 1, .int 4]) (pm_q192_1 (Nat.le_of_ble_eq_true rfl)) rfl rfl ?_
                  refine pm_R_br pm_M192 (pc' := 138) (st' := []) (pm_q192_1 (Nat.le_of_ble_eq_true rfl)) rfl ?_
                  refine pm_R_lo pm_M192 (pc' := 140) (pm_q192_1 (Nat.le_of_ble_eq_true rfl)) rfl rfl ?_
                  refine pm_R_op pm_M192 (pc' := 141) (st' := [.int 2, .int 4]) (pm_q192_1 (Nat.le_of_ble_eq_true rfl)) rfl rfl ?_
                  refine pm_R_br pm_M192 (pc' := 144) (st' := []) (pm_q192_1 (Nat.le_of_ble_eq_true rfl)) rfl ?_
                  refine pm_R_lo pm_M192 (pc' := 146) (pm_q192_1 (Nat.le_of_ble_eq_true rfl)) rfl rfl ?_
                  refine pm_R_op pm_M192 (pc' := 147) (st' := [.int 3, .int 4]) (pm_q192_1 (Nat.le_of_ble_eq_true rfl)) rfl rfl ?_
                  refine pm_R_br pm_M192 (pc' := 163) (st' := []) (pm_q192_1 (Nat.le_of_ble_eq_true rfl)) rfl ?_
                  refine pm_R_lo pm_M192 (pc' := 164) (pm_q192_1 (Nat.le_of_ble_eq_true rfl)) rfl rfl ?_
                  refine pm_R_op pm_M192 (pc' := 165) (st' := [.int 0, .ref 41]) (pm_q192_1 (Nat.le_of_ble_eq_true rfl)) rfl rfl ?_
                  refine pm_R_op pm_M192 (pc' := 166) (st' := [.int 1, .int 0, .ref 41]) (pm_q192_1 (Nat.le_of_ble_eq_true rfl)) rfl rfl ?_
                  refine pm_R_op pm_M192 (pc' := 167) (st' := [.int 3, .int 1, .int 0, .ref 41]) (pm_q192_1 (Nat.le_of_ble_eq_true rfl)) rfl rfl ?_
                  refine pm_R_op pm_M192 (pc' := 169) (st' := [.int 8, .int 3, .int 1, .int 0, .ref 41]) (pm_q192_1 (Nat.le_of_ble_eq_true rfl)) rfl rfl ?_
                  refine pm_R_op pm_M192 (pc' := 170) (st' := [.int 0, .int 8, .int 3, .int 1, .int 0, .ref 41]) (pm_q192_1 (Nat.le_of_ble_eq_true rfl)) rfl rfl ?_
                  refine pm_R_cv pm_M192 (pc' := 173) (a := 41) (ra := [.int 0, .int 8, .int 3, .int 1, .int 0]) (rest := []) (ls' := [.ref 41, .int 0, .int 1, .int 3, .int 8, .int 0, pm_no, pm_no]) (pm_q192_1 (Nat.le_of_ble_eq_true rfl)) rfl (Or.inl rfl) pm_M185 T836.2.1 rfl (by decide) (Nat.lt_of_lt_of_le (by decide) T836.1) rfl rfl (Nat.le_of_ble_eq_true rfl) rfl rfl ?_
                  refine pm_R_lo pm_M185 (pc' := 1) rfl rfl rfl ?_
                  refine rf_R_get pm_M185 T836 (pc' := 4) (v := .ref 51) rfl rfl rfl rfl ?_
                  refine pm_R_lo pm_M185 (pc' := 5) rfl rfl rfl ?_
                  have e845 := (F837.cell (by decide) (F775.cell (by decide) (F766.cell (by decide) (F761.cell (by decide) (F756.cell (by decide) (F751.cell (by decide) (F746.cell (by decide) (F733.cell (by decide) (F720.cell (by decide) e3)))))))))
                  refine pm_R_iald pm_M185 (pc' := 6) (v := (f2 0)) rfl e845 (Nat.lt_of_lt_of_le (by decide) T836.1) rfl rfl rfl ?_
                  refine pm_R_lo pm_M185 (pc' := 8) (ls' := [.ref 41, .int 0, .int 1, .int 3, .int 8, .int 0, .int (f2 0), pm_no]) (st' := []) rfl rfl rfl ?_
                  refine pm_R_lo pm_M185 (pc' := 10) rfl rfl rfl ?_
                  refine pm_R_lo pm_M185 (pc' := 12) rfl rfl rfl ?_
                  refine pm_R_icmp pm_M185 (t := 16) (pc' := 15) rfl rfl rfl (fun c848 => absurd (sf_pt2 B713 sf_k8) c848) (fun c848 => ?_)
                  refine pm_R_ret pm_M185 (r := none) rfl rfl ?_
                  show pm_R _ 192 173 [.ref 41, .long a0, pm_no, .int a1, .int 4] [] _ _
                  refine pm_R_op pm_M192 (pc' := 174) (st' := [.int 1]) (pm_q192_1 (Nat.le_of_ble_eq_true rfl)) rfl rfl ?_
                  have B849 : sf_B 0 600 (m833 10) := T836.2.2.1 10
                  exact pm_R_ret pm_M192 (r := some (.int 1)) (pm_q192_1 (Nat.le_of_ble_eq_true rfl)) rfl (K1 m833 w834 h835 T836 F841 W844 (⟨f2, e845, ct4, fun z => (sf_pos B842 (by decide) z)⟩) (sf_aux123 _ _ _ _ X735 X839))
              · skip
                refine pm_R_lo pm_M183 (pc' := 9) rfl rfl rfl ?_
                refine pm_R_cv pm_M183 (pc' := 12) (a := 41) (ra := []) (rest := []) (ls' := [.ref 41]) rfl rfl (Or.inl rfl) pm_M184 T765.2.1 rfl (by decide) (Nat.lt_of_lt_of_le (by decide) T765.1) rfl rfl (Nat.le_of_ble_eq_true rfl) rfl rfl ?_
                refine pm_R_lo pm_M184 (pc' := 1) rfl rfl rfl ?_
                refine pm_R_lo pm_M184 (pc' := 2) rfl rfl rfl ?_
                have B850 : sf_B 0 600 (m729 12) := T765.2.2.1 12
                refine rf_R_get pm_M184 T765 (pc' := 5) (v := .int (m729 12)) rfl rfl rfl rfl ?_
                refine rf_R_put pm_M184 T765 (pc' := 8) rfl rfl rfl (by decide) rfl rfl B850 rfl rfl (fun h851 m854 em855 T852 F853 => ?_)
                have F856 := F768.trans F853 (by decide)
                have B857 : sf_B 1 4 (m854 17) := by rw [em855]; exact B738
                have ek858 : (m854 17).toInt = ((m716 17)).toInt := by rw [em855]; exact ek739
                have B859 : sf_B 0 600 (m854 16) := by rw [em855]; exact B850
                have ek860 : (m854 16).toInt = ((m729 12)).toInt := by rw [em855]; rfl
                have W861 : rf_W [10, 12, 13, 14, 16, 17, 18, 22] m m854 := by rw [em855]; exact W740.put (by decide)
                refine pm_R_op pm_M184 (pc' := 9) (st' := [.int 0]) rfl rfl rfl ?_
                refine pm_R_ret pm_M184 (r := some (.int 0)) rfl rfl ?_
                show pm_R _ 183 12 [.ref 41, .int 1, .int 9, .int (-1)] [.int 0] _ _
                refine pm_R_ret pm_M183 (r := some (.int 0)) rfl rfl ?_
                show pm_R _ 192 127 [.ref 41, .long a0, pm_no, .int a1, .int 4] [.int 0] _ _
                refine pm_R_br pm_M192 (pc' := 130) (st' := []) (pm_q192_1 (Nat.le_of_ble_eq_true rfl)) rfl ?_
                refine pm_R_op pm_M192 (pc' := 131) (st' := [.int 0]) (pm_q192_1 (Nat.le_of_ble_eq_true rfl)) rfl rfl ?_
                have B862 : sf_B 0 600 (m854 10) := T852.2.2.1 10
                exact pm_R_ret pm_M192 (r := some (.int 0)) (pm_q192_1 (Nat.le_of_ble_eq_true rfl)) rfl (K0 m854 w730 h851 T852 F856 W861 (sf_aux76 _ _ _ _ X735))
        · have B863 : sf_B 0 0 z19 := sf_eqL (Classical.not_not.mp c21) sf_k0
          have B864 : lf_B 1885432178 1885432178 a0 := lf_eqB e20 B863 (⟨by decide, by decide⟩ : lf_B 1885432178 1885432178 1885432178)
          refine pm_R_op pm_M192 (pc' := 45) (st' := [.int 3]) rfl rfl rfl ?_
          refine pm_R_br pm_M192 (pc' := 73) rfl rfl ?_
          refine pm_R_lo pm_M192 (pc' := 75) (ls' := [.ref 41, .long a0, pm_no, .int a1, .int 3]) (st' := []) rfl rfl rfl ?_
          refine pm_R_lo pm_M192 (pc' := 77) rfl rfl rfl ?_
          refine pm_R_op pm_M192 (pc' := 78) (st' := [.int (-1), .int 3]) rfl rfl rfl ?_
          refine pm_R_br pm_M192 (pc' := 86) (st' := []) rfl rfl ?_
          refine pm_R_lo pm_M192 (pc' := 87) rfl rfl rfl ?_
          refine rf_R_get pm_M192 T (pc' := 90) (v := .ref 51) rfl rfl rfl rfl ?_
          refine pm_R_op pm_M192 (pc' := 91) (st' := [.int 0, .ref 51]) rfl rfl rfl ?_
          refine pm_R_iald pm_M192 (pc' := 92) (v := (f2 0)) rfl e3 (Nat.lt_of_lt_of_le (by decide) T.1) rfl rfl rfl ?_
          refine pm_R_op pm_M192 (pc' := 94) (st' := [.int 8, .int (f2 0)]) rfl rfl rfl ?_
          refine pm_R_icmp pm_M192 (t := 103) (pc' := 97) rfl rfl rfl (fun c867 => ?_) (fun c867 => ?_)
          · have B868 : sf_B 0 7 (f2 0) := sf_neH0 c867 sf_k8 ct4
            refine pm_R_lo pm_M192 (pc' := 104) rfl rfl rfl ?_
            refine pm_R_cv pm_M192 (pc' := 107) (a := 41) (ra := []) (rest := []) (ls' := [.ref 41, pm_no, pm_no]) rfl rfl (Or.inl rfl) pm_M179 T.2.1 rfl (by decide) (Nat.lt_of_lt_of_le (by decide) T.1) rfl rfl (Nat.le_of_ble_eq_true rfl) rfl rfl ?_
            refine rf_c179 (d := d + 1) T  (fun m871 w872 h873 T874 F875 W876 X877 X878 => ?_)
            have F879 := (rf_G.refl [41, 51, 52] h).trans F875 (by decide)
            have B880 : sf_B 0 4 (m871 17) := by rw [W876 17 (by decide)]; exact B6
            have ek881 : (m871 17).toInt = ((m 17)).toInt := by rw [W876 17 (by decide)]
            have W882 : rf_W [10, 12, 13, 14, 16, 17, 18, 22] m m871 := (rf_W.refl [10, 12, 13, 14, 16, 17, 18, 22] m).trans W876 (by decide)
            show pm_R _ 192 107 [.ref 41, .long a0, pm_no, .int a1, .int 3] [] _ _
            refine pm_R_lo pm_M192 (pc' := 108) rfl rfl rfl ?_
            refine pm_R_cv pm_M192 (pc' := 111) (a := 41) (ra := []) (rest := []) (ls' := [.ref 41, pm_no]) rfl rfl (Or.inl rfl) pm_M190 T874.2.1 rfl (by decide) (Nat.lt_of_lt_of_le (by decide) T874.1) rfl rfl (Nat.le_of_ble_eq_true rfl) rfl rfl ?_
            refine pm_R_op pm_M190 (pc' := 1) (st' := [.int 0]) rfl rfl rfl ?_
            refine pm_R_lo pm_M190 (pc' := 2) (ls' := [.ref 41, .int 0]) (st' := []) rfl rfl rfl ?_
            refine pm_R_lo pm_M190 (pc' := 3) rfl rfl rfl ?_
            refine pm_R_op pm_M190 (pc' := 4) (st' := [.int 4, .int 0]) rfl rfl rfl ?_
            refine pm_R_br pm_M190 (pc' := 7) (st' := []) rfl rfl ?_
            refine pm_R_lo pm_M190 (pc' := 8) rfl rfl rfl ?_
            refine rf_R_get pm_M190 T874 (pc' := 11) (v := .ref 52) rfl rfl rfl rfl ?_
            refine pm_R_lo pm_M190 (pc' := 12) rfl rfl rfl ?_
            refine pm_R_op pm_M190 (pc' := 13) (st' := [.int (-1), .int 0, .ref 52]) rfl rfl rfl ?_
            obtain ⟨f883, e884, b885⟩ := T874.2.2.2.1 52 (by decide) (by decide)
            refine rf_R_ist pm_M190 T874 (pc' := 14) rfl e884 (by decide) (by decide) rfl ⟨_, rfl, sf_upd b885 (sf_weak sf_kn1 (by decide) (by decide)) _⟩ rfl (fun h886 T887 F888 e889 => ?_)
            have F890 := F879.trans F888 (by decide)
            refine pm_R_lo pm_M190 (pc' := 17) (ls' := [.ref 41, .int 1]) (st' := []) rfl rfl rfl ?_
            refine pm_R_br pm_M190 (pc' := 2) rfl rfl ?_
            refine pm_R_lo pm_M190 (pc' := 3) rfl rfl rfl ?_
            refine pm_R_op pm_M190 (pc' := 4) (st' := [.int 4, .int 1]) rfl rfl rfl ?_
            refine pm_R_br pm_M190 (pc' := 7) (st' := []) rfl rfl ?_
            refine pm_R_lo pm_M190 (pc' := 8) rfl rfl rfl ?_
            refine rf_R_get pm_M190 T887 (pc' := 11) (v := .ref 52) rfl rfl rfl rfl ?_
            refine pm_R_lo pm_M190 (pc' := 12) rfl rfl rfl ?_
            refine pm_R_op pm_M190 (pc' := 13) (st' := [.int (-1), .int 1, .ref 52]) rfl rfl rfl ?_
            refine rf_R_ist pm_M190 T887 (pc' := 14) rfl e889 (by decide) (by decide) rfl ⟨_, rfl, sf_upd (sf_upd b885 (sf_weak sf_kn1 (by decide) (by decide)) _) (sf_weak sf_kn1 (by decide) (by decide)) _⟩ rfl (fun h891 T892 F893 e894 => ?_)
            have F895 := F890.trans F893 (by decide)
            refine pm_R_lo pm_M190 (pc' := 17) (ls' := [.ref 41, .int 2]) (st' := []) rfl rfl rfl ?_
            refine pm_R_br pm_M190 (pc' := 2) rfl rfl ?_
            refine pm_R_lo pm_M190 (pc' := 3) rfl rfl rfl ?_
            refine pm_R_op pm_M190 (pc' := 4) (st' := [.int 4, .int 2]) rfl rfl rfl ?_
            refine pm_R_br pm_M190 (pc' := 7) (st' := []) rfl rfl ?_
            refine pm_R_lo pm_M190 (pc' := 8) rfl rfl rfl ?_
            refine rf_R_get pm_M190 T892 (pc' := 11) (v := .ref 52) rfl rfl rfl rfl ?_
            refine pm_R_lo pm_M190 (pc' := 12) rfl rfl rfl ?_
            refine pm_R_op pm_M190 (pc' := 13) (st' := [.int (-1), .int 2, .ref 52]) rfl rfl rfl ?_
            refine rf_R_ist pm_M190 T892 (pc' := 14) rfl e894 (by decide) (by decide) rfl ⟨_, rfl, sf_upd (sf_upd (sf_upd b885 (sf_weak sf_kn1 (by decide) (by decide)) _) (sf_weak sf_kn1 (by decide) (by decide)) _) (sf_weak sf_kn1 (by decide) (by decide)) _⟩ rfl (fun h896 T897 F898 e899 => ?_)
            have F900 := F895.trans F898 (by decide)
            refine pm_R_lo pm_M190 (pc' := 17) (ls' := [.ref 41, .int 3]) (st' := []) rfl rfl rfl ?_
            refine pm_R_br pm_M190 (pc' := 2) rfl rfl ?_
            refine pm_R_lo pm_M190 (pc' := 3) rfl rfl rfl ?_
            refine pm_R_op pm_M190 (pc' := 4) (st' := [.int 4, .int 3]) rfl rfl rfl ?_
            refine pm_R_br pm_M190 (pc' := 7) (st' := []) rfl rfl ?_
            refine pm_R_lo pm_M190 (pc' := 8) rfl rfl rfl ?_
            refine rf_R_get pm_M190 T897 (pc' := 11) (v := .ref 52) rfl rfl rfl rfl ?_
            refine pm_R_lo pm_M190 (pc' := 12) rfl rfl rfl ?_
            refine pm_R_op pm_M190 (pc' := 13) (st' := [.int (-1), .int 3, .ref 52]) rfl rfl rfl ?_
            refine rf_R_ist pm_M190 T897 (pc' := 14) rfl e899 (by decide) (by decide) rfl ⟨_, rfl, sf_upd (sf_upd (sf_upd (sf_upd b885 (sf_weak sf_kn1 (by decide) (by decide)) _) (sf_weak sf_kn1 (by decide) (by decide)) _) (sf_weak sf_kn1 (by decide) (by decide)) _) (sf_weak sf_kn1 (by decide) (by decide)) _⟩ rfl (fun h901 T902 F903 e904 => ?_)
            have F905 := F900.trans F903 (by decide)
            refine pm_R_lo pm_M190 (pc' := 17) (ls' := [.ref 41, .int 4]) (st' := []) rfl rfl rfl ?_
            refine pm_R_br pm_M190 (pc' := 2) rfl rfl ?_
            refine pm_R_lo pm_M190 (pc' := 3) rfl rfl rfl ?_
            refine pm_R_op pm_M190 (pc' := 4) (st' := [.int 4, .int 4]) rfl rfl rfl ?_
            refine pm_R_br pm_M190 (pc' := 20) (st' := []) rfl rfl ?_
            refine pm_R_ret pm_M190 (r := none) rfl rfl ?_
            show pm_R _ 192 111 [.ref 41, .long a0, pm_no, .int a1, .int 3] [] _ _
            refine pm_R_lo pm_M192 (pc' := 112) rfl rfl rfl ?_
            refine rf_R_get pm_M192 T902 (pc' := 115) (v := .ref 52) rfl rfl rfl rfl ?_
            refine pm_R_op pm_M192 (pc' := 116) (st' := [.int 0, .ref 52]) (pm_q192_1 (Nat.le_of_ble_eq_true rfl)) rfl rfl ?_
            refine pm_R_lo pm_M192 (pc' := 118) (pm_q192_1 (Nat.le_of_ble_eq_true rfl)) rfl rfl ?_
            refine rf_R_ist pm_M192 T902 (pc' := 119) (pm_q192_1 (Nat.le_of_ble_eq_true rfl)) e904 (by decide) (by decide) rfl ⟨_, rfl, sf_upd (sf_upd (sf_upd (sf_upd (sf_upd b885 (sf_weak sf_kn1 (by decide) (by decide)) _) (sf_weak sf_kn1 (by decide) (by decide)) _) (sf_weak sf_kn1 (by decide) (by decide)) _) (sf_weak sf_kn1 (by decide) (by decide)) _) (sf_weak sf_k3 (by decide) (by decide)) _⟩ rfl (fun h906 T907 F908 e909 => ?_)
            have F910 := F905.trans F908 (by decide)
            refine pm_R_lo pm_M192 (pc' := 120) (pm_q192_1 (Nat.le_of_ble_eq_true rfl)) rfl rfl ?_
            refine pm_R_op pm_M192 (pc' := 121) (st' := [.int 1, .ref 41]) (pm_q192_1 (Nat.le_of_ble_eq_true rfl)) rfl rfl ?_
            refine pm_R_op pm_M192 (pc' := 123) (st' := [.int 9, .int 1, .ref 41]) (pm_q192_1 (Nat.le_of_ble_eq_true rfl)) rfl rfl ?_
            refine pm_R_op pm_M192 (pc' := 124) (st' := [.int (-1), .int 9, .int 1, .ref 41]) (pm_q192_1 (Nat.le_of_ble_eq_true rfl)) rfl rfl ?_
            refine pm_R_cv pm_M192 (pc' := 127) (a := 41) (ra := [.int (-1), .int 9, .int 1]) (rest := []) (ls' := [.ref 41, .int 1, .int 9, .int (-1)]) (pm_q192_1 (Nat.le_of_ble_eq_true rfl)) rfl (Or.inl rfl) pm_M183 T907.2.1 rfl (by decide) (Nat.lt_of_lt_of_le (by decide) T907.1) rfl rfl (Nat.le_of_ble_eq_true rfl) rfl rfl ?_
            refine pm_R_lo pm_M183 (pc' := 1) rfl rfl rfl ?_
            have B911 : sf_B 0 4 (m871 13) := T907.2.2.1 13
            refine rf_R_get pm_M183 T907 (pc' := 4) (v := .int (m871 13)) rfl rfl rfl rfl ?_
            refine pm_R_op pm_M183 (pc' := 5) (st' := [.int 3, .int (m871 13)]) rfl rfl rfl ?_
            refine pm_R_icmp pm_M183 (t := 13) (pc' := 8) rfl rfl rfl (fun c912 => ?_) (fun c912 => ?_)
            · have B913 : sf_B 3 3 (m871 13) := sf_eqL c912 sf_k3
              refine pm_R_lo pm_M183 (pc' := 14) rfl rfl rfl ?_
              refine rf_R_get pm_M183 T907 (pc' := 17) (v := .ref 52) rfl rfl rfl rfl ?_
              refine pm_R_lo pm_M183 (pc' := 18) rfl rfl rfl ?_
              refine pm_R_lo pm_M183 (pc' := 19) rfl rfl rfl ?_
              have B914 : sf_B 0 99 (m871 14) := T907.2.2.1 14
              refine rf_R_get pm_M183 T907 (pc' := 22) (v := .int (m871 14)) rfl rfl rfl rfl ?_
              refine rf_R_ist pm_M183 T907 (pc' := 23) rfl e909 (by decide) (by decide) rfl ⟨_, rfl, sf_upd (sf_upd (sf_upd (sf_upd (sf_upd (sf_upd b885 (sf_weak sf_kn1 (by decide) (by decide)) _) (sf_weak sf_kn1 (by decide) (by decide)) _) (sf_weak sf_kn1 (by decide) (by decide)) _) (sf_weak sf_kn1 (by decide) (by decide)) _) (sf_weak sf_k3 (by decide) (by decide)) _) (sf_weak B914 (by decide) (by decide)) _⟩ rfl (fun h915 T916 F917 e918 => ?_)
              have F919 := F910.trans F917 (by decide)
              refine pm_R_lo pm_M183 (pc' := 24) rfl rfl rfl ?_
              refine rf_R_get pm_M183 T916 (pc' := 27) (v := .int (m871 14)) rfl rfl rfl rfl ?_
              refine pm_R_lo pm_M183 (pc' := 28) rfl rfl rfl ?_
              refine pm_R_icmp pm_M183 (t := 39) (pc' := 31) rfl rfl rfl (fun c920 => ?_) (fun c920 => ?_)
              · have B921 : sf_B 10 99 (m871 14) := sf_ltR c920 sf_k9 B914
                refine pm_R_lo pm_M183 (pc' := 40) rfl rfl rfl ?_
                refine pm_R_op pm_M183 (pc' := 41) (st' := [.int 2, .ref 41]) rfl rfl rfl ?_
                refine pm_R_lo pm_M183 (pc' := 42) rfl rfl rfl ?_
                have B922 : sf_B 0 600 (m871 12) := T916.2.2.1 12
                refine rf_R_get pm_M183 T916 (pc' := 45) (v := .int (m871 12)) rfl rfl rfl rfl ?_
                refine pm_R_cv pm_M183 (pc' := 48) (a := 41) (ra := [.int (m871 12), .int 2]) (rest := []) (ls' := [.ref 41, .int 2, .int (m871 12)]) rfl rfl (Or.inl rfl) pm_M182 T916.2.1 rfl (by decide) (Nat.lt_of_lt_of_le (by decide) T916.1) rfl rfl (Nat.le_of_ble_eq_true rfl) rfl rfl ?_
                refine rf_c182 (d := d + 1) T916 (sf_weak sf_k2 (by decide) (by decide)) B922 (fun m925 w926 h927 T928 F929 W930 B931 => ?_)
                have F932 := F919.trans F929 (by decide)
                have B933 : sf_B 3 3 (m925 13) := by rw [W930 13 (by decide)]; exact B913
                have B934 : sf_B 10 99 (m925 14) := by rw [W930 14 (by decide)]; exact B921
                have W935 : rf_W [10, 12, 13, 14, 16, 17, 18, 22] m m925 := W882.trans W930 (by decide)
                show pm_R _ 183 48 [.ref 41, .int 1, .int 9, .int (-1)] [] _ _
                refine pm_R_lo pm_M183 (pc' := 49) rfl rfl rfl ?_
                refine pm_R_op pm_M183 (pc' := 50) (st' := [.int 0, .ref 41]) rfl rfl rfl ?_
                refine rf_R_put pm_M183 T928 (pc' := 53) rfl rfl rfl (by decide) rfl rfl (sf_weak sf_k0 (by decide) (by decide)) rfl rfl (fun h936 m939 em940 T937 F938 => ?_)
                have F941 := F932.trans F938 (by decide)
                have B942 : sf_B 3 3 (m939 13) := by rw [em940]; exact B933
                have B943 : sf_B 10 99 (m939 14) := by rw [em940]; exact B934
                have B944 : sf_B 1 4 (m939 17) := by rw [em940]; exact B931
                have ek945 : (m939 17).toInt = ((m925 17)).toInt := by rw [em940]; rfl
                have B946 : sf_B 0 0 (m939 22) := by rw [em940]; exact sf_k0
                have W948 : rf_W [10, 12, 13, 14, 16, 17, 18, 22] m m939 := by rw [em940]; exact W935.put (by decide)
                refine pm_R_lo pm_M183 (pc' := 54) rfl rfl rfl ?_
                refine pm_R_cv pm_M183 (pc' := 57) (a := 41) (ra := []) (rest := []) (ls' := [.ref 41, pm_no, pm_no]) rfl rfl (Or.inl rfl) pm_M179 T937.2.1 rfl (by decide) (Nat.lt_of_lt_of_le (by decide) T937.1) rfl rfl (Nat.le_of_ble_eq_true rfl) rfl rfl ?_
                have B949 : sf_B 0 600 (m939 10) := T937.2.2.1 10
                refine rf_c179 (d := d + 0) T937  (fun m952 w953 h954 T955 F956 W957 X958 X959 => ?_)
                have F960 := F941.trans F956 (by decide)
                have B961 : sf_B 1 4 (m952 17) := by rw [W957 17 (by decide)]; exact B944
                have ek962 : (m952 17).toInt = ((m925 17)).toInt := by rw [W957 17 (by decide)]; exact ek945
                have B963 : sf_B 0 0 (m952 22) := by rw [W957 22 (by decide)]; exact B946
                have W964 : rf_W [10, 12, 13, 14, 16, 17, 18, 22] m m952 := W948.trans W957 (by decide)
                show pm_R _ 183 57 [.ref 41, .int 1, .int 9, .int (-1)] [] _ _
                refine pm_R_op pm_M183 (pc' := 58) (st' := [.int 1]) rfl rfl rfl ?_
                refine pm_R_ret pm_M183 (r := some (.int 1)) rfl rfl ?_
                show pm_R _ 192 127 [.ref 41, .long a0, pm_no, .int a1, .int 3] [.int 1] _ _
                refine pm_R_br pm_M192 (pc' := 132) (st' := []) (pm_q192_1 (Nat.le_of_ble_eq_true rfl)) rfl ?_
                refine pm_R_lo pm_M192 (pc' := 134) (pm_q192_1 (Nat.le_of_ble_eq_true rfl)) rfl rfl ?_
                refine pm_R_op pm_M192 (pc' := 135) (st' := [.int 1, .int 3]) (pm_q192_1 (Nat.le_of_ble_eq_true rfl)) rfl rfl ?_
                refine pm_R_br pm_M192 (pc' := 138) (st' := []) (pm_q192_1 (Nat.le_of_ble_eq_true rfl)) rfl ?_
                refine pm_R_lo pm_M192 (pc' := 140) (pm_q192_1 (Nat.le_of_ble_eq_true rfl)) rfl rfl ?_
                refine pm_R_op pm_M192 (pc' := 141) (st' := [.int 2, .int 3]) (pm_q192_1 (Nat.le_of_ble_eq_true rfl)) rfl rfl ?_
                refine pm_R_br pm_M192 (pc' := 144) (st' := []) (pm_q192_1 (Nat.le_of_ble_eq_true rfl)) rfl ?_
                refine pm_R_lo pm_M192 (pc' := 146) (pm_q192_1 (Nat.le_of_ble_eq_true rfl)) rfl rfl ?_
                refine pm_R_op pm_M192 (pc' := 147) (st' := [.int 3, .int 3]) (pm_q192_1 (Nat.le_of_ble_eq_true rfl)) rfl rfl ?_
                refine pm_R_br pm_M192 (pc' := 150) (st' := []) (pm_q192_1 (Nat.le_of_ble_eq_true rfl)) rfl ?_
                refine pm_R_lo pm_M192 (pc' := 151) (pm_q192_1 (Nat.le_of_ble_eq_true rfl)) rfl rfl ?_
                refine pm_R_op pm_M192 (pc' := 152) (st' := [.int 2, .ref 41]) (pm_q192_1 (Nat.le_of_ble_eq_true rfl)) rfl rfl ?_
                refine pm_R_op pm_M192 (pc' := 154) (st' := [.int 9, .int 2, .ref 41]) (pm_q192_1 (Nat.le_of_ble_eq_true rfl)) rfl rfl ?_
                refine pm_R_op pm_M192 (pc' := 155) (st' := [.int (-1), .int 9, .int 2, .ref 41]) (pm_q192_1 (Nat.le_of_ble_eq_true rfl)) rfl rfl ?_
                refine pm_R_cv pm_M192 (pc' := 158) (a := 41) (ra := [.int (-1), .int 9, .int 2]) (rest := []) (ls' := [.ref 41, .int 2, .int 9, .int (-1)]) (pm_q192_1 (Nat.le_of_ble_eq_true rfl)) rfl (Or.inl rfl) pm_M183 T955.2.1 rfl (by decide) (Nat.lt_of_lt_of_le (by decide) T955.1) rfl rfl (Nat.le_of_ble_eq_true rfl) rfl rfl ?_
                refine pm_R_lo pm_M183 (pc' := 1) rfl rfl rfl ?_
                have B965 : sf_B 0 4 (m952 13) := T955.2.2.1 13
                refine rf_R_get pm_M183 T955 (pc' := 4) (v := .int (m952 13)) rfl rfl rfl rfl ?_
                refine pm_R_op pm_M183 (pc' := 5) (st' := [.int 3, .int (m952 13)]) rfl rfl rfl ?_
                refine pm_R_icmp pm_M183 (t := 13) (pc' := 8) rfl rfl rfl (fun c966 => ?_) (fun c966 => ?_)
                · have B967 : sf_B 3 3 (m952 13) := sf_eqL c966 sf_k3
                  refine pm_R_lo pm_M183 (pc' := 14) rfl rfl rfl ?_
                  refine rf_R_get pm_M183 T955 (pc' := 17) (v := .ref 52) rfl rfl rfl rfl ?_
                  refine pm_R_lo pm_M183 (pc' := 18) rfl rfl rfl ?_
                  refine pm_R_lo pm_M183 (pc' := 19) rfl rfl rfl ?_
                  have B968 : sf_B 0 99 (m952 14) := T955.2.2.1 14
                  refine rf_R_get pm_M183 T955 (pc' := 22) (v := .int (m952 14)) rfl rfl rfl rfl ?_
                  have e969 := (F956.cell (by decide) (F938.cell (by decide) (F929.cell (by decide) e918)))
                  refine rf_R_ist pm_M183 T955 (pc' := 23) rfl e969 (by decide) (by decide) rfl ⟨_, rfl, sf_upd (sf_upd (sf_upd (sf_upd (sf_upd (sf_upd (sf_upd b885 (sf_weak sf_kn1 (by decide) (by decide)) _) (sf_weak sf_kn1 (by decide) (by decide)) _) (sf_weak sf_kn1 (by decide) (by decide)) _) (sf_weak sf_kn1 (by decide) (by decide)) _) (sf_weak sf_k3 (by decide) (by decide)) _) (sf_weak B914 (by decide) (by decide)) _) (sf_weak B968 (by decide) (by decide)) _⟩ rfl (fun h970 T971 F972 e973 => ?_)
                  have F974 := F960.trans F972 (by decide)
                  refine pm_R_lo pm_M183 (pc' := 24) rfl rfl rfl ?_
                  refine rf_R_get pm_M183 T971 (pc' := 27) (v := .int (m952 14)) rfl rfl rfl rfl ?_
                  refine pm_R_lo pm_M183 (pc' := 28) rfl rfl rfl ?_
                  refine pm_R_icmp pm_M183 (t := 39) (pc' := 31) rfl rfl rfl (fun c975 => ?_) (fun c975 => ?_)
                  · have B976 : sf_B 10 99 (m952 14) := sf_ltR c975 sf_k9 B968
                    refine pm_R_lo pm_M183 (pc' := 40) rfl rfl rfl ?_
                    refine pm_R_op pm_M183 (pc' := 41) (st' := [.int 2, .ref 41]) rfl rfl rfl ?_
                    refine pm_R_lo pm_M183 (pc' := 42) rfl rfl rfl ?_
                    have B977 : sf_B 0 600 (m952 12) := T971.2.2.1 12
                    refine rf_R_get pm_M183 T971 (pc' := 45) (v := .int (m952 12)) rfl rfl rfl rfl ?_
                    refine pm_R_cv pm_M183 (pc' := 48) (a := 41) (ra := [.int (m952 12), .int 2]) (rest := []) (ls' := [.ref 41, .int 2, .int (m952 12)]) rfl rfl (Or.inl rfl) pm_M182 T971.2.1 rfl (by decide) (Nat.lt_of_lt_of_le (by decide) T971.1) rfl rfl (Nat.le_of_ble_eq_true rfl) rfl rfl ?_
                    refine rf_c182 (d := d + 1) T971 (sf_weak sf_k2 (by decide) (by decide)) B977 (fun m980 w981 h982 T983 F984 W985 B986 => ?_)
                    have F987 := F974.trans F984 (by decide)
                    have B988 : sf_B 0 0 (m980 22) := by rw [W985 22 (by decide)]; exact B963
                    have B989 : sf_B 3 3 (m980 13) := by rw [W985 13 (by decide)]; exact B967
                    have B990 : sf_B 10 99 (m980 14) := by rw [W985 14 (by decide)]; exact B976
                    have W991 : rf_W [10, 12, 13, 14, 16, 17, 18, 22] m m980 := W964.trans W985 (by decide)
                    show pm_R _ 183 48 [.ref 41, .int 2, .int 9, .int (-1)] [] _ _
                    refine pm_R_lo pm_M183 (pc' := 49) rfl rfl rfl ?_
                    refine pm_R_op pm_M183 (pc' := 50) (st' := [.int 0, .ref 41]) rfl rfl rfl ?_
                    refine rf_R_put pm_M183 T983 (pc' := 53) rfl rfl rfl (by decide) rfl rfl (sf_weak sf_k0 (by decide) (by decide)) rfl rfl (fun h992 m995 em996 T993 F994 => ?_)
                    have F997 := F987.trans F994 (by decide)
                    have B998 : sf_B 3 3 (m995 13) := by rw [em996]; exact B989
                    have B999 : sf_B 10 99 (m995 14) := by rw [em996]; exact B990
                    have B1000 : sf_B 1 4 (m995 17) := by rw [em996]; exact B986
                    have ek1001 : (m995 17).toInt = ((m980 17)).toInt := by rw [em996]; rfl
                    have B1002 : sf_B 0 0 (m995 22) := by rw [em996]; exact sf_k0
                    have W1004 : rf_W [10, 12, 13, 14, 16, 17, 18, 22] m m995 := by rw [em996]; exact W991.put (by decide)
                    refine pm_R_lo pm_M183 (pc' := 54) rfl rfl rfl ?_
                    refine pm_R_cv pm_M183 (pc' := 57) (a := 41) (ra := []) (rest := []) (ls' := [.ref 41, pm_no, pm_no]) rfl rfl (Or.inl rfl) pm_M179 T993.2.1 rfl (by decide) (Nat.lt_of_lt_of_le (by decide) T993.1) rfl rfl (Nat.le_of_ble_eq_true rfl) rfl rfl ?_
                    have B1005 : sf_B 0 600 (m995 10) := T993.2.2.1 10
                    refine rf_c179 (d := d + 0) T993  (fun m1008 w1009 h1010 T1011 F1012 W1013 X1014 X1015 => ?_)
                    have F1016 := F997.trans F1012 (by decide)
                    have B1017 : sf_B 1 4 (m1008 17) := by rw [W1013 17 (by decide)]; exact B1000
                    have ek1018 : (m1008 17).toInt = ((m980 17)).toInt := by rw [W1013 17 (by decide)]; exact ek1001
                    have B1019 : sf_B 0 0 (m1008 22) := by rw [W1013 22 (by decide)]; exact B1002
                    have W1020 : rf_W [10, 12, 13, 14, 16, 17, 18, 22] m m1008 := W1004.trans W1013 (by decide)
                    show pm_R _ 183 57 [.ref 41, .int 2, .int 9, .int (-1)] [] _ _
                    refine pm_R_op pm_M183 (pc' := 58) (st' := [.int 1]) rfl rfl rfl ?_
                    refine pm_R_ret pm_M183 (r := some (.int 1)) rfl rfl ?_
                    show pm_R _ 192 158 [.ref 41, .long a0, pm_no, .int a1, .int 3] [.int 1] _ _
                    refine pm_R_br pm_M192 (pc' := 163) (st' := []) (pm_q192_1 (Nat.le_of_ble_eq_true rfl)) rfl ?_
                    refine pm_R_lo pm_M192 (pc' := 164) (pm_q192_1 (Nat.le_of_ble_eq_true rfl)) rfl rfl ?_
                    refine pm_R_op pm_M192 (pc' := 165) (st' := [.int 0, .ref 41]) (pm_q192_1 (Nat.le_of_ble_eq_true rfl)) rfl rfl ?_
                    refine pm_R_op pm_M192 (pc' := 166) (st' := [.int 1, .int 0, .ref 41]) (pm_q192_1 (Nat.le_of_ble_eq_true rfl)) rfl rfl ?_
                    refine pm_R_op pm_M192 (pc' := 167) (st' := [.int 3, .int 1, .int 0, .ref 41]) (pm_q192_1 (Nat.le_of_ble_eq_true rfl)) rfl rfl ?_
                    refine pm_R_op pm_M192 (pc' := 169) (st' := [.int 8, .int 3, .int 1, .int 0, .ref 41]) (pm_q192_1 (Nat.le_of_ble_eq_true rfl)) rfl rfl ?_
                    refine pm_R_op pm_M192 (pc' := 170) (st' := [.int 0, .int 8, .int 3, .int 1, .int 0, .ref 41]) (pm_q192_1 (Nat.le_of_ble_eq_true rfl)) rfl rfl ?_
                    refine pm_R_cv pm_M192 (pc' := 173) (a := 41) (ra := [.int 0, .int 8, .int 3, .int 1, .int 0]) (rest := []) (ls' := [.ref 41, .int 0, .int 1, .int 3, .int 8, .int 0, pm_no, pm_no]) (pm_q192_1 (Nat.le_of_ble_eq_true rfl)) rfl (Or.inl rfl) pm_M185 T1011.2.1 rfl (by decide) (Nat.lt_of_lt_of_le (by decide) T1011.1) rfl rfl (Nat.le_of_ble_eq_true rfl) rfl rfl ?_
                    refine pm_R_lo pm_M185 (pc' := 1) rfl rfl rfl ?_
                    refine rf_R_get pm_M185 T1011 (pc' := 4) (v := .ref 51) rfl rfl rfl rfl ?_
                    refine pm_R_lo pm_M185 (pc' := 5) rfl rfl rfl ?_
                    have e1021 := (F1012.cell (by decide) (F994.cell (by decide) (F984.cell (by decide) (F972.cell (by decide) (F956.cell (by decide) (F938.cell (by decide) (F929.cell (by decide) (F917.cell (by decide) (F908.cell (by decide) (F903.cell (by decide) (F898.cell (by decide) (F893.cell (by decide) (F888.cell (by decide) (F875.cell (by decide) e3))))))))))))))
                    refine pm_R_iald pm_M185 (pc' := 6) (v := (f2 0)) rfl e1021 (Nat.lt_of_lt_of_le (by decide) T1011.1) rfl rfl rfl ?_
                    refine pm_R_lo pm_M185 (pc' := 8) (ls' := [.ref 41, .int 0, .int 1, .int 3, .int 8, .int 0, .int (f2 0), pm_no]) (st' := []) rfl rfl rfl ?_
                    refine pm_R_lo pm_M185 (pc' := 10) rfl rfl rfl ?_
                    refine pm_R_lo pm_M185 (pc' := 12) rfl rfl rfl ?_
                    refine pm_R_icmp pm_M185 (t := 16) (pc' := 15) rfl rfl rfl (fun c1024 => ?_) (fun c1024 => absurd (Classical.not_not.mp c1024) (sf_neq2 B868 sf_k8 (by decide)))
                    skip
                    refine pm_R_op pm_M185 (pc' := 17) (st' := [.int 0]) rfl rfl rfl ?_
                    refine pm_R_lo pm_M185 (pc' := 19) (ls' := [.ref 41, .int 0, .int 1, .int 3, .int 8, .int 0, .int (f2 0), .int 0]) (st' := []) rfl rfl rfl ?_
                    refine pm_R_lo pm_M185 (pc' := 21) rfl rfl rfl ?_
                    refine pm_R_lo pm_M185 (pc' := 22) rfl rfl rfl ?_
                    refine pm_R_br pm_M185 (pc' := 25) (st' := []) rfl rfl ?_
                    refine pm_R_lo pm_M185 (pc' := 26) rfl rfl rfl ?_
                    refine rf_R_get pm_M185 T1011 (pc' := 29) (v := .ref 51) rfl rfl rfl rfl ?_
                    refine pm_R_lo pm_M185 (pc' := 30) rfl rfl rfl ?_
                    refine pm_R_lo pm_M185 (pc' := 31) rfl rfl rfl ?_
                    refine pm_R_lo pm_M185 (pc' := 33) rfl rfl rfl ?_
                    refine sf_R_imul pm_M185 (pc' := 34) rfl rfl sf_k3 B868 (by decide) (by decide) (by decide) (fun z1025 e1026 B1027 => ?_)
                    refine sf_R_iadd pm_M185 (pc' := 35) rfl rfl sf_k1 B1027 (by decide) (by decide) (fun z1028 e1029 B1030 => ?_)
                    refine pm_R_lo pm_M185 (pc' := 37) rfl rfl rfl ?_
                    refine sf_R_iadd pm_M185 (pc' := 38) rfl rfl B1030 sf_k0 (by decide) (by decide) (fun z1031 e1032 B1033 => ?_)
                    refine pm_R_lo pm_M185 (pc' := 39) rfl rfl rfl ?_
                    refine rf_R_get pm_M185 T1011 (pc' := 42) (v := .ref 52) rfl rfl rfl rfl ?_
                    refine pm_R_lo pm_M185 (pc' := 44) rfl rfl rfl ?_
                    refine pm_R_lo pm_M185 (pc' := 46) rfl rfl rfl ?_
                    refine pm_R_op pm_M185 (pc' := 47) (st' := [.int 0, .ref 52, .int z1031, .ref 51]) rfl rfl rfl ?_
                    have e1034 := (F1012.cell (by decide) (F994.cell (by decide) (F984.cell (by decide) e973)))
                    refine pm_R_iald pm_M185 (pc' := 48) (v := 3) rfl e1034 (Nat.lt_of_lt_of_le (by decide) T1011.1) rfl (Eq.trans (show (upd (upd (upd (upd (upd (upd (upd f883 (Int32.toNatClampNeg 0) (-1)) (Int32.toNatClampNeg 1) (-1)) (Int32.toNatClampNeg 2) (-1)) (Int32.toNatClampNeg 3) (-1)) (Int32.toNatClampNeg 0) 3) (Int32.toNatClampNeg 1) (m871 14)) (Int32.toNatClampNeg 2) (m952 14)) (Int32.toNatClampNeg 0) = (upd (upd (upd (upd (upd (upd f883 (Int32.toNatClampNeg 0) (-1)) (Int32.toNatClampNeg 1) (-1)) (Int32.toNatClampNeg 2) (-1)) (Int32.toNatClampNeg 3) (-1)) (Int32.toNatClampNeg 0) 3) (Int32.toNatClampNeg 1) (m871 14)) (Int32.toNatClampNeg 0) from rfl) (Eq.trans (show (upd (upd (upd (upd (upd (upd f883 (Int32.toNatClampNeg 0) (-1)) (Int32.toNatClampNeg 1) (-1)) (Int32.toNatClampNeg 2) (-1)) (Int32.toNatClampNeg 3) (-1)) (Int32.toNatClampNeg 0) 3) (Int32.toNatClampNeg 1) (m871 14)) (Int32.toNatClampNeg 0) = (upd (upd (upd (upd (upd f883 (Int32.toNatClampNeg 0) (-1)) (Int32.toNatClampNeg 1) (-1)) (Int32.toNatClampNeg 2) (-1)) (Int32.toNatClampNeg 3) (-1)) (Int32.toNatClampNeg 0) 3) (Int32.toNatClampNeg 0) from rfl) rfl)) rfl ?_
                    refine rf_R_ist pm_M185 T1011 (pc' := 49) rfl e1021 (by decide) (by decide) (sf_in B1033 (by decide) (by decide)) ⟨_, rfl⟩ rfl (fun h1037 T1038 F1039 e1040 => ?_)
                    have F1041 := F1016.trans F1039 (by decide)
                    have ct1042 : rf_ct 3 (upd f2 (Int32.toNatClampNeg z1031) 3) := (sf_eqL (Eq.trans (sf_upd_ne (j := Int32.toNatClampNeg 0) B1033 (by decide) (by decide)) rfl) (sf_weak B868 (by decide) (by decide)))
                    have bd1043 : (m1008 17).toInt = 0 → rf_bd 3 (upd f2 (Int32.toNatClampNeg z1031) 3) := fun z => (sf_pos B1017 (by decide) z)
                    refine pm_R_lo pm_M185 (pc' := 52) (ls' := [.ref 41, .int 0, .int 1, .int 3, .int 8, .int 0, .int (f2 0), .int 1]) (st' := []) rfl rfl rfl ?_
                    refine pm_R_br pm_M185 (pc' := 19) rfl rfl ?_
                    refine pm_R_lo pm_M185 (pc' := 21) rfl rfl rfl ?_
                    refine pm_R_lo pm_M185 (pc' := 22) rfl rfl rfl ?_
                    refine pm_R_br pm_M185 (pc' := 25) (st' := []) rfl rfl ?_
                    refine pm_R_lo pm_M185 (pc' := 26) rfl rfl rfl ?_
                    refine rf_R_get pm_M185 T1038 (pc' := 29) (v := .ref 51) rfl rfl rfl rfl ?_
                    refine pm_R_lo pm_M185 (pc' := 30) rfl rfl rfl ?_
                    refine pm_R_lo pm_M185 (pc' := 31) rfl rfl rfl ?_
                    refine pm_R_lo pm_M185 (pc' := 33) rfl rfl rfl ?_
                    refine sf_R_imulV pm_M185 (pc' := 34) rfl rfl sf_k3 B868 (by decide) (by decide) (by decide) e1026 ?_
                    refine sf_R_iaddV pm_M185 (pc' := 35) rfl rfl sf_k1 B1027 (by decide) (by decide) e1029 ?_
                    refine pm_R_lo pm_M185 (pc' := 37) rfl rfl rfl ?_
                    refine sf_R_iadd pm_M185 (pc' := 38) rfl rfl B1030 sf_k1 (by decide) (by decide) (fun z1044 e1045 B1046 => ?_)
                    refine pm_R_lo pm_M185 (pc' := 39) rfl rfl rfl ?_
                    refine rf_R_get pm_M185 T1038 (pc' := 42) (v := .ref 52) rfl rfl rfl rfl ?_
                    refine pm_R_lo pm_M185 (pc' := 44) rfl rfl rfl ?_
                    refine pm_R_lo pm_M185 (pc' := 46) rfl rfl rfl ?_
                    refine pm_R_op pm_M185 (pc' := 47) (st' := [.int 1, .ref 52, .int z1044, .ref 51]) rfl rfl rfl ?_
                    have e1047 := (F1039.cell (by decide) e1034)
                    refine pm_R_iald pm_M185 (pc' := 48) (v := (m871 14)) rfl e1047 (Nat.lt_of_lt_of_le (by decide) T1038.1) rfl (Eq.trans (show (upd (upd (upd (upd (upd (upd (upd f883 (Int32.toNatClampNeg 0) (-1)) (Int32.toNatClampNeg 1) (-1)) (Int32.toNatClampNeg 2) (-1)) (Int32.toNatClampNeg 3) (-1)) (Int32.toNatClampNeg 0) 3) (Int32.toNatClampNeg 1) (m871 14)) (Int32.toNatClampNeg 2) (m952 14)) (Int32.toNatClampNeg 1) = (upd (upd (upd (upd (upd (upd f883 (Int32.toNatClampNeg 0) (-1)) (Int32.toNatClampNeg 1) (-1)) (Int32.toNatClampNeg 2) (-1)) (Int32.toNatClampNeg 3) (-1)) (Int32.toNatClampNeg 0) 3) (Int32.toNatClampNeg 1) (m871 14)) (Int32.toNatClampNeg 1) from rfl) rfl) rfl ?_
                    refine rf_R_ist pm_M185 T1038 (pc' := 49) rfl e1040 (by decide) (by decide) (sf_in B1046 (by decide) (by decide)) ⟨_, rfl⟩ rfl (fun h1050 T1051 F1052 e1053 => ?_)
                    have F1054 := F1041.trans F1052 (by decide)
                    have ct1055 : rf_ct 3 (upd (upd f2 (Int32.toNatClampNeg z1031) 3) (Int32.toNatClampNeg z1044) (m871 14)) := (sf_eqL (Eq.trans (sf_upd_ne (j := Int32.toNatClampNeg 0) B1046 (by decide) (by decide)) (Eq.trans (sf_upd_ne (j := Int32.toNatClampNeg 0) B1033 (by decide) (by decide)) rfl)) (sf_weak B868 (by decide) (by decide)))
                    have bd1056 : (m1008 17).toInt = 0 → rf_bd 3 (upd (upd f2 (Int32.toNatClampNeg z1031) 3) (Int32.toNatClampNeg z1044) (m871 14)) := fun z => (sf_pos B1017 (by decide) z)
                    refine pm_R_lo pm_M185 (pc' := 52) (ls' := [.ref 41, .int 0, .int 1, .int 3, .int 8, .int 0, .int (f2 0), .int 2]) (st' := []) rfl rfl rfl ?_
                    refine pm_R_br pm_M185 (pc' := 19) rfl rfl ?_
                    refine pm_R_lo pm_M185 (pc' := 21) rfl rfl rfl ?_
                    refine pm_R_lo pm_M185 (pc' := 22) rfl rfl rfl ?_
                    refine pm_R_br pm_M185 (pc' := 25) (st' := []) rfl rfl ?_
                    refine pm_R_lo pm_M185 (pc' := 26) rfl rfl rfl ?_
                    refine rf_R_get pm_M185 T1051 (pc' := 29) (v := .ref 51) rfl rfl rfl rfl ?_
                    refine pm_R_lo pm_M185 (pc' := 30) rfl rfl rfl ?_
                    refine pm_R_lo pm_M185 (pc' := 31) rfl rfl rfl ?_
                    refine pm_R_lo pm_M185 (pc' := 33) rfl rfl rfl ?_
                    refine sf_R_imulV pm_M185 (pc' := 34) rfl rfl sf_k3 B868 (by decide) (by decide) (by decide) e1026 ?_
                    refine sf_R_iaddV pm_M185 (pc' := 35) rfl rfl sf_k1 B1027 (by decide) (by decide) e1029 ?_
                    refine pm_R_lo pm_M185 (pc' := 37) rfl rfl rfl ?_
                    refine sf_R_iadd pm_M185 (pc' := 38) rfl rfl B1030 sf_k2 (by decide) (by decide) (fun z1057 e1058 B1059 => ?_)
                    refine pm_R_lo pm_M185 (pc' := 39) rfl rfl rfl ?_
                    refine rf_R_get pm_M185 T1051 (pc' := 42) (v := .ref 52) rfl rfl rfl rfl ?_
                    refine pm_R_lo pm_M185 (pc' := 44) rfl rfl rfl ?_
                    refine pm_R_lo pm_M185 (pc' := 46) rfl rfl rfl ?_
                    refine pm_R_op pm_M185 (pc' := 47) (st' := [.int 2, .ref 52, .int z1057, .ref 51]) rfl rfl rfl ?_
                    have e1060 := (F1052.cell (by decide) e1047)
                    refine pm_R_iald pm_M185 (pc' := 48) (v := (m952 14)) rfl e1060 (Nat.lt_of_lt_of_le (by decide) T1051.1) rfl rfl rfl ?_
                    refine rf_R_ist pm_M185 T1051 (pc' := 49) rfl e1053 (by decide) (by decide) (sf_in B1059 (by decide) (by decide)) ⟨_, rfl⟩ rfl (fun h1063 T1064 F1065 e1066 => ?_)
                    have F1067 := F1054.trans F1065 (by decide)
                    have ct1068 : rf_ct 3 (upd (upd (upd f2 (Int32.toNatClampNeg z1031) 3) (Int32.toNatClampNeg z1044) (m871 14)) (Int32.toNatClampNeg z1057) (m952 14)) := (sf_eqL (Eq.trans (sf_upd_ne (j := Int32.toNatClampNeg 0) B1059 (by decide) (by decide)) (Eq.trans (sf_upd_ne (j := Int32.toNatClampNeg 0) B1046 (by decide) (by decide)) (Eq.trans (sf_upd_ne (j := Int32.toNatClampNeg 0) B1033 (by decide) (by decide)) rfl))) (sf_weak B868 (by decide) (by decide)))
                    have bd1069 : (m1008 17).toInt = 0 → rf_bd 3 (upd (upd (upd f2 (Int32.toNatClampNeg z1031) 3) (Int32.toNatClampNeg z1044) (m871 14)) (Int32.toNatClampNeg z1057) (m952 14)) := fun z => (sf_pos B1017 (by decide) z)
                    refine pm_R_lo pm_M185 (pc' := 52) (ls' := [.ref 41, .int 0, .int 1, .int 3, .int 8, .int 0, .int (f2 0), .int 3]) (st' := []) rfl rfl rfl ?_
                    refine pm_R_br pm_M185 (pc' := 19) rfl rfl ?_
                    refine pm_R_lo pm_M185 (pc' := 21) rfl rfl rfl ?_
                    refine pm_R_lo pm_M185 (pc' := 22) rfl rfl rfl ?_
                    refine pm_R_br pm_M185 (pc' := 55) (st' := []) rfl rfl ?_
                    refine pm_R_lo pm_M185 (pc' := 56) rfl rfl rfl ?_
                    refine rf_R_get pm_M185 T1064 (pc' := 59) (v := .ref 51) rfl rfl rfl rfl ?_
                    refine pm_R_lo pm_M185 (pc' := 60) rfl rfl rfl ?_
                    refine pm_R_op pm_M185 (pc' := 61) (st' := [.int 0, .ref 51, .int 0, .ref 51]) rfl rfl rfl ?_
                    refine pm_R_iald pm_M185 (pc' := 62) (v := (f2 0)) rfl e1066 (Nat.lt_of_lt_of_le (by decide) T1064.1) rfl (Eq.trans (sf_upd_ne (j := Int32.toNatClampNeg 0) B1059 (by decide) (by decide)) (Eq.trans (sf_upd_ne (j := Int32.toNatClampNeg 0) B1046 (by decide) (by decide)) (Eq.trans (sf_upd_ne (j := Int32.toNatClampNeg 0) B1033 (by decide) (by decide)) rfl))) rfl ?_
                    refine pm_R_op pm_M185 (pc' := 63) (st' := [.int 1, .int (f2 0), .int 0, .ref 51]) rfl rfl rfl ?_
                    refine sf_R_iadd pm_M185 (pc' := 64) rfl rfl B868 sf_k1 (by decide) (by decide) (fun z1072 e1073 B1074 => ?_)
                    refine rf_R_ist pm_M185 T1064 (pc' := 65) rfl e1066 (by decide) (by decide) rfl ⟨_, rfl⟩ rfl (fun h1075 T1076 F1077 e1078 => ?_)
                    have F1079 := F1067.trans F1077 (by decide)
                    have ct1080 : rf_ct 3 (upd (upd (upd (upd f2 (Int32.toNatClampNeg z1031) 3) (Int32.toNatClampNeg z1044) (m871 14)) (Int32.toNatClampNeg z1057) (m952 14)) (Int32.toNatClampNeg 0) z1072) := (sf_eqL rfl (sf_weak B1074 (by decide) (by decide)))
                    have bd1081 : (m1008 17).toInt = 0 → rf_bd 3 (upd (upd (upd (upd f2 (Int32.toNatClampNeg z1031) 3) (Int32.toNatClampNeg z1044) (m871 14)) (Int32.toNatClampNeg z1057) (m952 14)) (Int32.toNatClampNeg 0) z1072) := fun z => (sf_pos B1017 (by decide) z)
                    refine pm_R_ret pm_M185 (r := none) rfl rfl ?_
                    show pm_R _ 192 173 [.ref 41, .long a0, pm_no, .int a1, .int 3] [] _ _
                    refine pm_R_op pm_M192 (pc' := 174) (st' := [.int 1]) (pm_q192_1 (Nat.le_of_ble_eq_true rfl)) rfl rfl ?_
                    have B1082 : sf_B 0 600 (m1008 10) := T1076.2.2.1 10
                    exact pm_R_ret pm_M192 (r := some (.int 1)) (pm_q192_1 (Nat.le_of_ble_eq_true rfl)) rfl (K1 m1008 w1009 h1075 T1076 F1079 W1020 (⟨(upd (upd (upd (upd f2 (Int32.toNatClampNeg z1031) 3) (Int32.toNatClampNeg z1044) (m871 14)) (Int32.toNatClampNeg z1057) (m952 14)) (Int32.toNatClampNeg 0) z1072), e1078, ct1080, fun z => (sf_pos B1017 (by decide) z)⟩) (sf_aux108 _ _ _ _ _ _ X877 X958 X1014))
                  · have B1083 : sf_B 0 9 (m952 14) := sf_leL (Int32.not_lt.mp c975) B968 sf_k9
                    refine pm_R_lo pm_M183 (pc' := 32) rfl rfl rfl ?_
                    refine rf_R_get pm_M183 T971 (pc' := 35) (v := .int (m952 14)) rfl rfl rfl rfl ?_
                    refine pm_R_lo pm_M183 (pc' := 36) rfl rfl rfl ?_
                    refine pm_R_icmp pm_M183 (t := 53) (pc' := 39) rfl rfl rfl (fun c1084 => ?_) (fun c1084 => absurd (Classical.not_not.mp c1084) (sf_neq1 B1083 sf_kn1 (by decide)))
                    skip
                    refine pm_R_lo pm_M183 (pc' := 54) rfl rfl rfl ?_
                    refine pm_R_cv pm_M183 (pc' := 57) (a := 41) (ra := []) (rest := []) (ls' := [.ref 41, pm_no, pm_no]) rfl rfl (Or.inl rfl) pm_M179 T971.2.1 rfl (by decide) (Nat.lt_of_lt_of_le (by decide) T971.1) rfl rfl (Nat.le_of_ble_eq_true rfl) rfl rfl ?_
                    have B1085 : sf_B 0 600 (m952 10) := T971.2.2.1 10
                    refine rf_c179 (d := d + 0) T971  (fun m1088 w1089 h1090 T1091 F1092 W1093 X1094 X1095 => ?_)
                    have F1096 := F974.trans F1092 (by decide)
                    have B1097 : sf_B 1 4 (m1088 17) := by rw [W1093 17 (by decide)]; exact B961
                    have ek1098 : (m1088 17).toInt = ((m925 17)).toInt := by rw [W1093 17 (by decide)]; exact ek962
                    have B1099 : sf_B 0 0 (m1088 22) := by rw [W1093 22 (by decide)]; exact B963
                    have W1100 : rf_W [10, 12, 13, 14, 16, 17, 18, 22] m m1088 := W964.trans W1093 (by decide)
                    show pm_R _ 183 57 [.ref 41, .int 2, .int 9, .int (-1)] [] _ _
                    refine pm_R_op pm_M183 (pc' := 58) (st' := [.int 1]) rfl rfl rfl ?_
                    refine pm_R_ret pm_M183 (r := some (.int 1)) rfl rfl ?_
                    show pm_R _ 192 158 [.ref 41, .long a0, pm_no, .int a1, .int 3] [.int 1] _ _
                    refine pm_R_br pm_M192 (pc' := 163) (st' := []) (pm_q192_1 (Nat.le_of_ble_eq_true rfl)) rfl ?_
                    refine pm_R_lo pm_M192 (pc' := 164) (pm_q192_1 (Nat.le_of_ble_eq_true rfl)) rfl rfl ?_
                    refine pm_R_op pm_M192 (pc' := 165) (st' := [.int 0, .ref 41]) (pm_q192_1 (Nat.le_of_ble_eq_true rfl)) rfl rfl ?_
                    refine pm_R_op pm_M192 (pc' := 166) (st' := [.int 1, .int 0, .ref 41]) (pm_q192_1 (Nat.le_of_ble_eq_true rfl)) rfl rfl ?_
                    refine pm_R_op pm_M192 (pc' := 167) (st' := [.int 3, .int 1, .int 0, .ref 41]) (pm_q192_1 (Nat.le_of_ble_eq_true rfl)) rfl rfl ?_
                    refine pm_R_op pm_M192 (pc' := 169) (st' := [.int 8, .int 3, .int 1, .int 0, .ref 41]) (pm_q192_1 (Nat.le_of_ble_eq_true rfl)) rfl rfl ?_
                    refine pm_R_op pm_M192 (pc' := 170) (st' := [.int 0, .int 8, .int 3, .int 1, .int 0, .ref 41]) (pm_q192_1 (Nat.le_of_ble_eq_true rfl)) rfl rfl ?_
                    refine pm_R_cv pm_M192 (pc' := 173) (a := 41) (ra := [.int 0, .int 8, .int 3, .int 1, .int 0]) (rest := []) (ls' := [.ref 41, .int 0, .int 1, .int 3, .int 8, .int 0, pm_no, pm_no]) (pm_q192_1 (Nat.le_of_ble_eq_true rfl)) rfl (Or.inl rfl) pm_M185 T1091.2.1 rfl (by decide) (Nat.lt_of_lt_of_le (by decide) T1091.1) rfl rfl (Nat.le_of_ble_eq_true rfl) rfl rfl ?_
                    refine pm_R_lo pm_M185 (pc' := 1) rfl rfl rfl ?_
                    refine rf_R_get pm_M185 T1091 (pc' := 4) (v := .ref 51) rfl rfl rfl rfl ?_
                    refine pm_R_lo pm_M185 (pc' := 5) rfl rfl rfl ?_
                    have e1101 := (F1092.cell (by decide) (F972.cell (by decide) (F956.cell (by decide) (F938.cell (by decide) (F929.cell (by decide) (F917.cell (by decide) (F908.cell (by decide) (F903.cell (by decide) (F898.cell (by decide) (F893.cell (by decide) (F888.cell (by decide) (F875.cell (by decide) e3))))))))))))
                    refine pm_R_iald pm_M185 (pc' := 6) (v := (f2 0)) rfl e1101 (Nat.lt_of_lt_of_le (by decide) T1091.1) rfl rfl rfl ?_
                    refine pm_R_lo pm_M185 (pc' := 8) (ls' := [.ref 41, .int 0, .int 1, .int 3, .int 8, .int 0, .int (f2 0), pm_no]) (st' := []) rfl rfl rfl ?_
                    refine pm_R_lo pm_M185 (pc' := 10) rfl rfl rfl ?_
                    refine pm_R_lo pm_M185 (pc' := 12) rfl rfl rfl ?_
                    refine pm_R_icmp pm_M185 (t := 16) (pc' := 15) rfl rfl rfl (fun c1104 => ?_) (fun c1104 => absurd (Classical.not_not.mp c1104) (sf_neq2 B868 sf_k8 (by decide)))
                    skip
                    refine pm_R_op pm_M185 (pc' := 17) (st' := [.int 0]) rfl rfl rfl ?_
                    refine pm_R_lo pm_M185 (pc' := 19) (ls' := [.ref 41, .int 0, .int 1, .int 3, .int 8, .int 0, .int (f2 0), .int 0]) (st' := []) rfl rfl rfl ?_
                    refine pm_R_lo pm_M185 (pc' := 21) rfl rfl rfl ?_
                    refine pm_R_lo pm_M185 (pc' := 22) rfl rfl rfl ?_
                    refine pm_R_br pm_M185 (pc' := 25) (st' := []) rfl rfl ?_
                    refine pm_R_lo pm_M185 (pc' := 26) rfl rfl rfl ?_
                    refine rf_R_get pm_M185 T1091 (pc' := 29) (v := .ref 51) rfl rfl rfl rfl ?_
                    refine pm_R_lo pm_M185 (pc' := 30) rfl rfl rfl ?_
                    refine pm_R_lo pm_M185 (pc' := 31) rfl rfl rfl ?_
                    refine pm_R_lo pm_M185 (pc' := 33) rfl rfl rfl ?_
                    refine sf_R_imul pm_M185 (pc' := 34) rfl rfl sf_k3 B868 (by decide) (by decide) (by decide) (fun z1105 e1106 B1107 => ?_)
                    refine sf_R_iadd pm_M185 (pc' := 35) rfl rfl sf_k1 B1107 (by decide) (by decide) (fun z1108 e1109 B1110 => ?_)
                    refine pm_R_lo pm_M185 (pc' := 37) rfl rfl rfl ?_
                    refine sf_R_iadd pm_M185 (pc' := 38) rfl rfl B1110 sf_k0 (by decide) (by decide) (fun z1111 e1112 B1113 => ?_)
                    refine pm_R_lo pm_M185 (pc' := 39) rfl rfl rfl ?_
                    refine rf_R_get pm_M185 T1091 (pc' := 42) (v := .ref 52) rfl rfl rfl rfl ?_
                    refine pm_R_lo pm_M185 (pc' := 44) rfl rfl rfl ?_
                    refine pm_R_lo pm_M185 (pc' := 46) rfl rfl rfl ?_
                    refine pm_R_op pm_M185 (pc' := 47) (st' := [.int 0, .ref 52, .int z1111, .ref 51]) rfl rfl rfl ?_
                    have e1114 := (F1092.cell (by decide) e973)
                    refine pm_R_iald pm_M185 (pc' := 48) (v := 3) rfl e1114 (Nat.lt_of_lt_of_le (by decide) T1091.1) rfl (Eq.trans (show (upd (upd (upd (upd (upd (upd (upd f883 (Int32.toNatClampNeg 0) (-1)) (Int32.toNatClampNeg 1) (-1)) (Int32.toNatClampNeg 2) (-1)) (Int32.toNatClampNeg 3) (-1)) (Int32.toNatClampNeg 0) 3) (Int32.toNatClampNeg 1) (m871 14)) (Int32.toNatClampNeg 2) (m952 14)) (Int32.toNatClampNeg 0) = (upd (upd (upd (upd (upd (upd f883 (Int32.toNatClampNeg 0) (-1)) (Int32.toNatClampNeg 1) (-1)) (Int32.toNatClampNeg 2) (-1)) (Int32.toNatClampNeg 3) (-1)) (Int32.toNatClampNeg 0) 3) (Int32.toNatClampNeg 1) (m871 14)) (Int32.toNatClampNeg 0) from rfl) (Eq.trans (show (upd (upd (upd (upd (upd (upd f883 (Int32.toNatClampNeg 0) (-1)) (Int32.toNatClampNeg 1) (-1)) (Int32.toNatClampNeg 2) (-1)) (Int32.toNatClampNeg 3) (-1)) (Int32.toNatClampNeg 0) 3) (Int32.toNatClampNeg 1) (m871 14)) (Int32.toNatClampNeg 0) = (upd (upd (upd (upd (upd f883 (Int32.toNatClampNeg 0) (-1)) (Int32.toNatClampNeg 1) (-1)) (Int32.toNatClampNeg 2) (-1)) (Int32.toNatClampNeg 3) (-1)) (Int32.toNatClampNeg 0) 3) (Int32.toNatClampNeg 0) from rfl) rfl)) rfl ?_
                    refine rf_R_ist pm_M185 T1091 (pc' := 49) rfl e1101 (by decide) (by decide) (sf_in B1113 (by decide) (by decide)) ⟨_, rfl⟩ rfl (fun h1117 T1118 F1119 e1120 => ?_)
                    have F1121 := F1096.trans F1119 (by decide)
                    have ct1122 : rf_ct 3 (upd f2 (Int32.toNatClampNeg z1111) 3) := (sf_eqL (Eq.trans (sf_upd_ne (j := Int32.toNatClampNeg 0) B1113 (by decide) (by decide)) rfl) (sf_weak B868 (by decide) (by decide)))
                    have bd1123 : (m1088 17).toInt = 0 → rf_bd 3 (upd f2 (Int32.toNatClampNeg z1111) 3) := fun z => (sf_pos B1097 (by decide) z)
                    refine pm_R_lo pm_M185 (pc' := 52) (ls' := [.ref 41, .int 0, .int 1, .int 3, .int 8, .int 0, .int (f2 0), .int 1]) (st' := []) rfl rfl rfl ?_
                    refine pm_R_br pm_M185 (pc' := 19) rfl rfl ?_
                    refine pm_R_lo pm_M185 (pc' := 21) rfl rfl rfl ?_
                    refine pm_R_lo pm_M185 (pc' := 22) rfl rfl rfl ?_
                    refine pm_R_br pm_M185 (pc' := 25) (st' := []) rfl rfl ?_
                    refine pm_R_lo pm_M185 (pc' := 26) rfl rfl rfl ?_
                    refine rf_R_get pm_M185 T1118 (pc' := 29) (v := .ref 51) rfl rfl rfl rfl ?_
                    refine pm_R_lo pm_M185 (pc' := 30) rfl rfl rfl ?_
                    refine pm_R_lo pm_M185 (pc' := 31) rfl rfl rfl ?_
                    refine pm_R_lo pm_M185 (pc' := 33) rfl rfl rfl ?_
                    refine sf_R_imulV pm_M185 (pc' := 34) rfl rfl sf_k3 B868 (by decide) (by decide) (by decide) e1106 ?_
                    refine sf_R_iaddV pm_M185 (pc' := 35) rfl rfl sf_k1 B1107 (by decide) (by decide) e1109 ?_
                    refine pm_R_lo pm_M185 (pc' := 37) rfl rfl rfl ?_
                    refine sf_R_iadd pm_M185 (pc' := 38) rfl rfl B1110 sf_k1 (by decide) (by decide) (fun z1124 e1125 B1126 => ?_)
                    refine pm_R_lo pm_M185 (pc' := 39) rfl rfl rfl ?_
                    refine rf_R_get pm_M185 T1118 (pc' := 42) (v := .ref 52) rfl rfl rfl rfl ?_
                    refine pm_R_lo pm_M185 (pc' := 44) rfl rfl rfl ?_
                    refine pm_R_lo pm_M185 (pc' := 46) rfl rfl rfl ?_
                    refine pm_R_op pm_M185 (pc' := 47) (st' := [.int 1, .ref 52, .int z1124, .ref 51]) rfl rfl rfl ?_
                    have e1127 := (F1119.cell (by decide) e1114)
                    refine pm_R_iald pm_M185 (pc' := 48) (v := (m871 14)) rfl e1127 (Nat.lt_of_lt_of_le (by decide) T1118.1) rfl (Eq.trans (show (upd (upd (upd (upd (upd (upd (upd f883 (Int32.toNatClampNeg 0) (-1)) (Int32.toNatClampNeg 1) (-1)) (Int32.toNatClampNeg 2) (-1)) (Int32.toNatClampNeg 3) (-1)) (Int32.toNatClampNeg 0) 3) (Int32.toNatClampNeg 1) (m871 14)) (Int32.toNatClampNeg 2) (m952 14)) (Int32.toNatClampNeg 1) = (upd (upd (upd (upd (upd (upd f883 (Int32.toNatClampNeg 0) (-1)) (Int32.toNatClampNeg 1) (-1)) (Int32.toNatClampNeg 2) (-1)) (Int32.toNatClampNeg 3) (-1)) (Int32.toNatClampNeg 0) 3) (Int32.toNatClampNeg 1) (m871 14)) (Int32.toNatClampNeg 1) from rfl) rfl) rfl ?_
                    refine rf_R_ist pm_M185 T1118 (pc' := 49) rfl e1120 (by decide) (by decide) (sf_in B1126 (by decide) (by decide)) ⟨_, rfl⟩ rfl (fun h1130 T1131 F1132 e1133 => ?_)
                    have F1134 := F1121.trans F1132 (by decide)
                    have ct1135 : rf_ct 3 (upd (upd f2 (Int32.toNatClampNeg z1111) 3) (Int32.toNatClampNeg z1124) (m871 14)) := (sf_eqL (Eq.trans (sf_upd_ne (j := Int32.toNatClampNeg 0) B1126 (by decide) (by decide)) (Eq.trans (sf_upd_ne (j := Int32.toNatClampNeg 0) B1113 (by decide) (by decide)) rfl)) (sf_weak B868 (by decide) (by decide)))
                    have bd1136 : (m1088 17).toInt = 0 → rf_bd 3 (upd (upd f2 (Int32.toNatClampNeg z1111) 3) (Int32.toNatClampNeg z1124) (m871 14)) := fun z => (sf_pos B1097 (by decide) z)
                    refine pm_R_lo pm_M185 (pc' := 52) (ls' := [.ref 41, .int 0, .int 1, .int 3, .int 8, .int 0, .int (f2 0), .int 2]) (st' := []) rfl rfl rfl ?_
                    refine pm_R_br pm_M185 (pc' := 19) rfl rfl ?_
                    refine pm_R_lo pm_M185 (pc' := 21) rfl rfl rfl ?_
                    refine pm_R_lo pm_M185 (pc' := 22) rfl rfl rfl ?_
                    refine pm_R_br pm_M185 (pc' := 25) (st' := []) rfl rfl ?_
                    refine pm_R_lo pm_M185 (pc' := 26) rfl rfl rfl ?_
                    refine rf_R_get pm_M185 T1131 (pc' := 29) (v := .ref 51) rfl rfl rfl rfl ?_
                    refine pm_R_lo pm_M185 (pc' := 30) rfl rfl rfl ?_
                    refine pm_R_lo pm_M185 (pc' := 31) rfl rfl rfl ?_
                    refine pm_R_lo pm_M185 (pc' := 33) rfl rfl rfl ?_
                    refine sf_R_imulV pm_M185 (pc' := 34) rfl rfl sf_k3 B868 (by decide) (by decide) (by decide) e1106 ?_
                    refine sf_R_iaddV pm_M185 (pc' := 35) rfl rfl sf_k1 B1107 (by decide) (by decide) e1109 ?_
                    refine pm_R_lo pm_M185 (pc' := 37) rfl rfl rfl ?_
                    refine sf_R_iadd pm_M185 (pc' := 38) rfl rfl B1110 sf_k2 (by decide) (by decide) (fun z1137 e1138 B1139 => ?_)
                    refine pm_R_lo pm_M185 (pc' := 39) rfl rfl rfl ?_
                    refine rf_R_get pm_M185 T1131 (pc' := 42) (v := .ref 52) rfl rfl rfl rfl ?_
                    refine pm_R_lo pm_M185 (pc' := 44) rfl rfl rfl ?_
                    refine pm_R_lo pm_M185 (pc' := 46) rfl rfl rfl ?_
                    refine pm_R_op pm_M185 (pc' := 47) (st' := [.int 2, .ref 52, .int z1137, .ref 51]) rfl rfl rfl ?_
                    have e1140 := (F1132.cell (by decide) e1127)
                    refine pm_R_iald pm_M185 (pc' := 48) (v := (m952 14)) rfl e1140 (Nat.lt_of_lt_of_le (by decide) T1131.1) rfl rfl rfl ?_
                    refine rf_R_ist pm_M185 T1131 (pc' := 49) rfl e1133 (by decide) (by decide) (sf_in B1139 (by decide) (by decide)) ⟨_, rfl⟩ rfl (fun h1143 T1144 F1145 e1146 => ?_)
                    have F1147 := F1134.trans F1145 (by decide)
                    have ct1148 : rf_ct 3 (upd (upd (upd f2 (Int32.toNatClampNeg z1111) 3) (Int32.toNatClampNeg z1124) (m871 14)) (Int32.toNatClampNeg z1137) (m952 14)) := (sf_eqL (Eq.trans (sf_upd_ne (j := Int32.toNatClampNeg 0) B1139 (by decide) (by decide)) (Eq.trans (sf_upd_ne (j := Int32.toNatClampNeg 0) B1126 (by decide) (by decide)) (Eq.trans (sf_upd_ne (j := Int32.toNatClampNeg 0) B1113 (by decide) (by decide)) rfl))) (sf_weak B868 (by decide) (by decide)))
                    have bd1149 : (m1088 17).toInt = 0 → rf_bd 3 (upd (upd (upd f2 (Int32.toNatClampNeg z1111) 3) (Int32.toNatClampNeg z1124) (m871 14)) (Int32.toNatClampNeg z1137) (m952 14)) := fun z => (sf_pos B1097 (by decide) z)
                    refine pm_R_lo pm_M185 (pc' := 52) (ls' := [.ref 41, .int 0, .int 1, .int 3, .int 8, .int 0, .int (f2 0), .int 3]) (st' := []) rfl rfl rfl ?_
                    refine pm_R_br pm_M185 (pc' := 19) rfl rfl ?_
                    refine pm_R_lo pm_M185 (pc' := 21) rfl rfl rfl ?_
                    refine pm_R_lo pm_M185 (pc' := 22) rfl rfl rfl ?_
                    refine pm_R_br pm_M185 (pc' := 55) (st' := []) rfl rfl ?_
                    refine pm_R_lo pm_M185 (pc' := 56) rfl rfl rfl ?_
                    refine rf_R_get pm_M185 T1144 (pc' := 59) (v := .ref 51) rfl rfl rfl rfl ?_
                    refine pm_R_lo pm_M185 (pc' := 60) rfl rfl rfl ?_
                    refine pm_R_op pm_M185 (pc' := 61) (st' := [.int 0, .ref 51, .int 0, .ref 51]) rfl rfl rfl ?_
                    refine pm_R_iald pm_M185 (pc' := 62) (v := (f2 0)) rfl e1146 (Nat.lt_of_lt_of_le (by decide) T1144.1) rfl (Eq.trans (sf_upd_ne (j := Int32.toNatClampNeg 0) B1139 (by decide) (by decide)) (Eq.trans (sf_upd_ne (j := Int32.toNatClampNeg 0) B1126 (by decide) (by decide)) (Eq.trans (sf_upd_ne (j := Int32.toNatClampNeg 0) B1113 (by decide) (by decide)) rfl))) rfl ?_
                    refine pm_R_op pm_M185 (pc' := 63) (st' := [.int 1, .int (f2 0), .int 0, .ref 51]) rfl rfl rfl ?_
                    refine sf_R_iadd pm_M185 (pc' := 64) rfl rfl B868 sf_k1 (by decide) (by decide) (fun z1152 e1153 B1154 => ?_)
                    refine rf_R_ist pm_M185 T1144 (pc' := 65) rfl e1146 (by decide) (by decide) rfl ⟨_, rfl⟩ rfl (fun h1155 T1156 F1157 e1158 => ?_)
                    have F1159 := F1147.trans F1157 (by decide)
                    have ct1160 : rf_ct 3 (upd (upd (upd (upd f2 (Int32.toNatClampNeg z1111) 3) (Int32.toNatClampNeg z1124) (m871 14)) (Int32.toNatClampNeg z1137) (m952 14)) (Int32.toNatClampNeg 0) z1152) := (sf_eqL rfl (sf_weak B1154 (by decide) (by decide)))
                    have bd1161 : (m1088 17).toInt = 0 → rf_bd 3 (upd (upd (upd (upd f2 (Int32.toNatClampNeg z1111) 3) (Int32.toNatClampNeg z1124) (m871 14)) (Int32.toNatClampNeg z1137) (m952 14)) (Int32.toNatClampNeg 0) z1152) := fun z => (sf_pos B1097 (by decide) z)
                    refine pm_R_ret pm_M185 (r := none) rfl rfl ?_
                    show pm_R _ 192 173 [.ref 41, .long a0, pm_no, .int a1, .int 3] [] _ _
                    refine pm_R_op pm_M192 (pc' := 174) (st' := [.int 1]) (pm_q192_1 (Nat.le_of_ble_eq_true rfl)) rfl rfl ?_
                    have B1162 : sf_B 0 600 (m1088 10) := T1156.2.2.1 10
                    exact pm_R_ret pm_M192 (r := some (.int 1)) (pm_q192_1 (Nat.le_of_ble_eq_true rfl)) rfl (K1 m1088 w1089 h1155 T1156 F1159 W1100 (⟨(upd (upd (upd (upd f2 (Int32.toNatClampNeg z1111) 3) (Int32.toNatClampNeg z1124) (m871 14)) (Int32.toNatClampNeg z1137) (m952 14)) (Int32.toNatClampNeg 0) z1152), e1158, ct1160, fun z => (sf_pos B1097 (by decide) z)⟩) (sf_aux109 _ _ _ _ _ X877 X958 X1094))
                · skip
                  refine pm_R_lo pm_M183 (pc' := 9) rfl rfl rfl ?_
                  refine pm_R_cv pm_M183 (pc' := 12) (a := 41) (ra := []) (rest := []) (ls' := [.ref 41]) rfl rfl (Or.inl rfl) pm_M184 T955.2.1 rfl (by decide) (Nat.lt_of_lt_of_le (by decide) T955.1) rfl rfl (Nat.le_of_ble_eq_true rfl) rfl rfl ?_
                  refine pm_R_lo pm_M184 (pc' := 1) rfl rfl rfl ?_
                  refine pm_R_lo pm_M184 (pc' := 2) rfl rfl rfl ?_
                  have B1163 : sf_B 0 600 (m952 12) := T955.2.2.1 12
                  refine rf_R_get pm_M184 T955 (pc' := 5) (v := .int (m952 12)) rfl rfl rfl rfl ?_
                  refine rf_R_put pm_M184 T955 (pc' := 8) rfl rfl rfl (by decide) rfl rfl B1163 rfl rfl (fun h1164 m1167 em1168 T1165 F1166 => ?_)
                  have F1169 := F960.trans F1166 (by decide)
                  have B1170 : sf_B 1 4 (m1167 17) := by rw [em1168]; exact B961
                  have ek1171 : (m1167 17).toInt = ((m925 17)).toInt := by rw [em1168]; exact ek962
                  have B1172 : sf_B 0 0 (m1167 22) := by rw [em1168]; exact B963
                  have B1173 : sf_B 0 600 (m1167 16) := by rw [em1168]; exact B1163
                  have ek1174 : (m1167 16).toInt = ((m952 12)).toInt := by rw [em1168]; rfl
                  have W1175 : rf_W [10, 12, 13, 14, 16, 17, 18, 22] m m1167 := by rw [em1168]; exact W964.put (by decide)
                  refine pm_R_op pm_M184 (pc' := 9) (st' := [.int 0]) rfl rfl rfl ?_
                  refine pm_R_ret pm_M184 (r := some (.int 0)) rfl rfl ?_
                  show pm_R _ 183 12 [.ref 41, .int 2, .int 9, .int (-1)] [.int 0] _ _
                  refine pm_R_ret pm_M183 (r := some (.int 0)) rfl rfl ?_
                  show pm_R _ 192 158 [.ref 41, .long a0, pm_no, .int a1, .int 3] [.int 0] _ _
                  refine pm_R_br pm_M192 (pc' := 161) (st' := []) (pm_q192_1 (Nat.le_of_ble_eq_true rfl)) rfl ?_
                  refine pm_R_op pm_M192 (pc' := 162) (st' := [.int 0]) (pm_q192_1 (Nat.le_of_ble_eq_true rfl)) rfl rfl ?_
                  have B1176 : sf_B 0 600 (m1167 10) := T1165.2.2.1 10
                  exact pm_R_ret pm_M192 (r := some (.int 0)) (pm_q192_1 (Nat.le_of_ble_eq_true rfl)) rfl (K0 m1167 w953 h1164 T1165 F1169 W1175 (sf_aux83 _ _ _ _ _ X877 X958))
              · have B1177 : sf_B 0 9 (m871 14) := sf_leL (Int32.not_lt.mp c920) B914 sf_k9
                refine pm_R_lo pm_M183 (pc' := 32) rfl rfl rfl ?_
                refine rf_R_get pm_M183 T916 (pc' := 35) (v := .int (m871 14)) rfl rfl rfl rfl ?_
                refine pm_R_lo pm_M183 (pc' := 36) rfl rfl rfl ?_
                refine pm_R_icmp pm_M183 (t := 53) (pc' := 39) rfl rfl rfl (fun c1178 => ?_) (fun c1178 => absurd (Classical.not_not.mp c1178) (sf_neq1 B1177 sf_kn1 (by decide)))
                skip
                refine pm_R_lo pm_M183 (pc' := 54) rfl rfl rfl ?_
                refine pm_R_cv pm_M183 (pc' := 57) (a := 41) (ra := []) (rest := []) (ls' := [.ref 41, pm_no, pm_no]) rfl rfl (Or.inl rfl) pm_M179 T916.2.1 rfl (by decide) (Nat.lt_of_lt_of_le (by decide) T916.1) rfl rfl (Nat.le_of_ble_eq_true rfl) rfl rfl ?_
                have B1179 : sf_B 0 600 (m871 10) := T916.2.2.1 10
                refine rf_c179 (d := d + 0) T916  (fun m1182 w1183 h1184 T1185 F1186 W1187 X1188 X1189 => ?_)
                have F1190 := F919.trans F1186 (by decide)
                have B1191 : sf_B 0 4 (m1182 17) := by rw [W1187 17 (by decide)]; exact B880
                have ek1192 : (m1182 17).toInt = ((m 17)).toInt := by rw [W1187 17 (by decide)]; exact ek881
                have W1193 : rf_W [10, 12, 13, 14, 16, 17, 18, 22] m m1182 := W882.trans W1187 (by decide)
                show pm_R _ 183 57 [.ref 41, .int 1, .int 9, .int (-1)] [] _ _
                refine pm_R_op pm_M183 (pc' := 58) (st' := [.int 1]) rfl rfl rfl ?_
                refine pm_R_ret pm_M183 (r := some (.int 1)) rfl rfl ?_
                show pm_R _ 192 127 [.ref 41, .long a0, pm_no, .int a1, .int 3] [.int 1] _ _
                refine pm_R_br pm_M192 (pc' := 132) (st' := []) (pm_q192_1 (Nat.le_of_ble_eq_true rfl)) rfl ?_
                refine pm_R_lo pm_M192 (pc' := 134) (pm_q192_1 (Nat.le_of_ble_eq_true rfl)) rfl rfl ?_
                refine pm_R_op pm_M192 (pc' := 135) (st' := [.int 1, .int 3]) (pm_q192_1 (Nat.le_of_ble_eq_true rfl)) rfl rfl ?_
                refine pm_R_br pm_M192 (pc' := 138) (st' := []) (pm_q192_1 (Nat.le_of_ble_eq_true rfl)) rfl ?_
                refine pm_R_lo pm_M192 (pc' := 140) (pm_q192_1 (Nat.le_of_ble_eq_true rfl)) rfl rfl ?_
                refine pm_R_op pm_M192 (pc' := 141) (st' := [.int 2, .int 3]) (pm_q192_1 (Nat.le_of_ble_eq_true rfl)) rfl rfl ?_
                refine pm_R_br pm_M192 (pc' := 144) (st' := []) (pm_q192_1 (Nat.le_of_ble_eq_true rfl)) rfl ?_
                refine pm_R_lo pm_M192 (pc' := 146) (pm_q192_1 (Nat.le_of_ble_eq_true rfl)) rfl rfl ?_
                refine pm_R_op pm_M192 (pc' := 147) (st' := [.int 3, .int 3]) (pm_q192_1 (Nat.le_of_ble_eq_true rfl)) rfl rfl ?_
                refine pm_R_br pm_M192 (pc' := 150) (st' := []) (pm_q192_1 (Nat.le_of_ble_eq_true rfl)) rfl ?_
                refine pm_R_lo pm_M192 (pc' := 151) (pm_q192_1 (Nat.le_of_ble_eq_true rfl)) rfl rfl ?_
                refine pm_R_op pm_M192 (pc' := 152) (st' := [.int 2, .ref 41]) (pm_q192_1 (Nat.le_of_ble_eq_true rfl)) rfl rfl ?_
                refine pm_R_op pm_M192 (pc' := 154) (st' := [.int 9, .int 2, .ref 41]) (pm_q192_1 (Nat.le_of_ble_eq_true rfl)) rfl rfl ?_
                refine pm_R_op pm_M192 (pc' := 155) (st' := [.int (-1), .int 9, .int 2, .ref 41]) (pm_q192_1 (Nat.le_of_ble_eq_true rfl)) rfl rfl ?_
                refine pm_R_cv pm_M192 (pc' := 158) (a := 41) (ra := [.int (-1), .int 9, .int 2]) (rest := []) (ls' := [.ref 41, .int 2, .int 9, .int (-1)]) (pm_q192_1 (Nat.le_of_ble_eq_true rfl)) rfl (Or.inl rfl) pm_M183 T1185.2.1 rfl (by decide) (Nat.lt_of_lt_of_le (by decide) T1185.1) rfl rfl (Nat.le_of_ble_eq_true rfl) rfl rfl ?_
                refine pm_R_lo pm_M183 (pc' := 1) rfl rfl rfl ?_
                have B1194 : sf_B 0 4 (m1182 13) := T1185.2.2.1 13
                refine rf_R_get pm_M183 T1185 (pc' := 4) (v := .int (m1182 13)) rfl rfl rfl rfl ?_
                refine pm_R_op pm_M183 (pc' := 5) (st' := [.int 3, .int (m1182 13)]) rfl rfl rfl ?_
                refine pm_R_icmp pm_M183 (t := 13) (pc' := 8) rfl rfl rfl (fun c1195 => ?_) (fun c1195 => ?_)
                · have B1196 : sf_B 3 3 (m1182 13) := sf_eqL c1195 sf_k3
                  refine pm_R_lo pm_M183 (pc' := 14) rfl rfl rfl ?_
                  refine rf_R_get pm_M183 T1185 (pc' := 17) (v := .ref 52) rfl rfl rfl rfl ?_
                  refine pm_R_lo pm_M183 (pc' := 18) rfl rfl rfl ?_
                  refine pm_R_lo pm_M183 (pc' := 19) rfl rfl rfl ?_
                  have B1197 : sf_B 0 99 (m1182 14) := T1185.2.2.1 14
                  refine rf_R_get pm_M183 T1185 (pc' := 22) (v := .int (m1182 14)) rfl rfl rfl rfl ?_
                  have e1198 := (F1186.cell (by decide) e918)
                  refine rf_R_ist pm_M183 T1185 (pc' := 23) rfl e1198 (by decide) (by decide) rfl ⟨_, rfl, sf_upd (sf_upd (sf_upd (sf_upd (sf_upd (sf_upd (sf_upd b885 (sf_weak sf_kn1 (by decide) (by decide)) _) (sf_weak sf_kn1 (by decide) (by decide)) _) (sf_weak sf_kn1 (by decide) (by decide)) _) (sf_weak sf_kn1 (by decide) (by decide)) _) (sf_weak sf_k3 (by decide) (by decide)) _) (sf_weak B914 (by decide) (by decide)) _) (sf_weak B1197 (by decide) (by decide)) _⟩ rfl (fun h1199 T1200 F1201 e1202 => ?_)
                  have F1203 := F1190.trans F1201 (by decide)
                  refine pm_R_lo pm_M183 (pc' := 24) rfl rfl rfl ?_
                  refine rf_R_get pm_M183 T1200 (pc' := 27) (v := .int (m1182 14)) rfl rfl rfl rfl ?_
                  refine pm_R_lo pm_M183 (pc' := 28) rfl rfl rfl ?_
                  refine pm_R_icmp pm_M183 (t := 39) (pc' := 31) rfl rfl rfl (fun c1204 => ?_) (fun c1204 => ?_)
                  · have B1205 : sf_B 10 99 (m1182 14) := sf_ltR c1204 sf_k9 B1197
                    refine pm_R_lo pm_M183 (pc' := 40) rfl rfl rfl ?_
                    refine pm_R_op pm_M183 (pc' := 41) (st' := [.int 2, .ref 41]) rfl rfl rfl ?_
                    refine pm_R_lo pm_M183 (pc' := 42) rfl rfl rfl ?_
                    have B1206 : sf_B 0 600 (m1182 12) := T1200.2.2.1 12
                    refine rf_R_get pm_M183 T1200 (pc' := 45) (v := .int (m1182 12)) rfl rfl rfl rfl ?_
                    refine pm_R_cv pm_M183 (pc' := 48) (a := 41) (ra := [.int (m1182 12), .int 2]) (rest := []) (ls' := [.ref 41, .int 2, .int (m1182 12)]) rfl rfl (Or.inl rfl) pm_M182 T1200.2.1 rfl (by decide) (Nat.lt_of_lt_of_le (by decide) T1200.1) rfl rfl (Nat.le_of_ble_eq_true rfl) rfl rfl ?_
                    refine rf_c182 (d := d + 1) T1200 (sf_weak sf_k2 (by decide) (by decide)) B1206 (fun m1209 w1210 h1211 T1212 F1213 W1214 B1215 => ?_)
                    have F1216 := F1203.trans F1213 (by decide)
                    have B1217 : sf_B 3 3 (m1209 13) := by rw [W1214 13 (by decide)]; exact B1196
                    have B1218 : sf_B 10 99 (m1209 14) := by rw [W1214 14 (by decide)]; exact B1205
                    have W1219 : rf_W [10, 12, 13, 14, 16, 17, 18, 22] m m1209 := W1193.trans W1214 (by decide)
                    show pm_R _ 183 48 [.ref 41, .int 2, .int 9, .int (-1)] [] _ _
                    refine pm_R_lo pm_M183 (pc' := 49) rfl rfl rfl ?_
                    refine pm_R_op pm_M183 (pc' := 50) (st' := [.int 0, .ref 41]) rfl rfl rfl ?_
                    refine rf_R_put pm_M183 T1212 (pc' := 53) rfl rfl rfl (by decide) rfl rfl (sf_weak sf_k0 (by decide) (by decide)) rfl rfl (fun h1220 m1223 em1224 T1221 F1222 => ?_)
                    have F1225 := F1216.trans F1222 (by decide)
                    have B1226 : sf_B 3 3 (m1223 13) := by rw [em1224]; exact B1217
                    have B1227 : sf_B 10 99 (m1223 14) := by rw [em1224]; exact B1218
                    have B1228 : sf_B 1 4 (m1223 17) := by rw [em1224]; exact B1215
                    have ek1229 : (m1223 17).toInt = ((m1209 17)).toInt := by rw [em1224]; rfl
                    have B1230 : sf_B 0 0 (m1223 22) := by rw [em1224]; exact sf_k0
                    have W1232 : rf_W [10, 12, 13, 14, 16, 17, 18, 22] m m1223 := by rw [em1224]; exact W1219.put (by decide)
                    refine pm_R_lo pm_M183 (pc' := 54) rfl rfl rfl ?_
                    refine pm_R_cv pm_M183 (pc' := 57) (a := 41) (ra := []) (rest := []) (ls' := [.ref 41, pm_no, pm_no]) rfl rfl (Or.inl rfl) pm_M179 T1221.2.1 rfl (by decide) (Nat.lt_of_lt_of_le (by decide) T1221.1) rfl rfl (Nat.le_of_ble_eq_true rfl) rfl rfl ?_
                    have B1233 : sf_B 0 600 (m1223 10) := T1221.2.2.1 10
                    refine rf_c179 (d := d + 0) T1221  (fun m1236 w1237 h1238 T1239 F1240 W1241 X1242 X1243 => ?_)
                    have F1244 := F1225.trans F1240 (by decide)
                    have B1245 : sf_B 1 4 (m1236 17) := by rw [W1241 17 (by decide)]; exact B1228
                    have ek1246 : (m1236 17).toInt = ((m1209 17)).toInt := by rw [W1241 17 (by decide)]; exact ek1229
                    have B1247 : sf_B 0 0 (m1236 22) := by rw [W1241 22 (by decide)]; exact B1230
                    have W1248 : rf_W [10, 12, 13, 14, 16, 17, 18, 22] m m1236 := W1232.trans W1241 (by decide)
                    show pm_R _ 183 57 [.ref 41, .int 2, .int 9, .int (-1)] [] _ _
                    refine pm_R_op pm_M183 (pc' := 58) (st' := [.int 1]) rfl rfl rfl ?_
                    refine pm_R_ret pm_M183 (r := some (.int 1)) rfl rfl ?_
                    show pm_R _ 192 158 [.ref 41, .long a0, pm_no, .int a1, .int 3] [.int 1] _ _
                    refine pm_R_br pm_M192 (pc' := 163) (st' := []) (pm_q192_1 (Nat.le_of_ble_eq_true rfl)) rfl ?_
                    refine pm_R_lo pm_M192 (pc' := 164) (pm_q192_1 (Nat.le_of_ble_eq_true rfl)) rfl rfl ?_
                    refine pm_R_op pm_M192 (pc' := 165) (st' := [.int 0, .ref 41]) (pm_q192_1 (Nat.le_of_ble_eq_true rfl)) rfl rfl ?_
                    refine pm_R_op pm_M192 (pc' := 166) (st' := [.int 1, .int 0, .ref 41]) (pm_q192_1 (Nat.le_of_ble_eq_true rfl)) rfl rfl ?_
                    refine pm_R_op pm_M192 (pc' := 167) (st' := [.int 3, .int 1, .int 0, .ref 41]) (pm_q192_1 (Nat.le_of_ble_eq_true rfl)) rfl rfl ?_
                    refine pm_R_op pm_M192 (pc' := 169) (st' := [.int 8, .int 3, .int 1, .int 0, .ref 41]) (pm_q192_1 (Nat.le_of_ble_eq_true rfl)) rfl rfl ?_
                    refine pm_R_op pm_M192 (pc' := 170) (st' := [.int 0, .int 8, .int 3, .int 1, .int 0, .ref 41]) (pm_q192_1 (Nat.le_of_ble_eq_true rfl)) rfl rfl ?_
                    refine pm_R_cv pm_M192 (pc' := 173) (a := 41) (ra := [.int 0, .int 8, .int 3, .int 1, .int 0]) (rest := []) (ls' := [.ref 41, .int 0, .int 1, .int 3, .int 8, .int 0, pm_no, pm_no]) (pm_q192_1 (Nat.le_of_ble_eq_true rfl)) rfl (Or.inl rfl) pm_M185 T1239.2.1 rfl (by decide) (Nat.lt_of_lt_of_le (by decide) T1239.1) rfl rfl (Nat.le_of_ble_eq_true rfl) rfl rfl ?_
                    refine pm_R_lo pm_M185 (pc' := 1) rfl rfl rfl ?_
                    refine rf_R_get pm_M185 T1239 (pc' := 4) (v := .ref 51) rfl rfl rfl rfl ?_
                    refine pm_R_lo pm_M185 (pc' := 5) rfl rfl rfl ?_
                    have e1249 := (F1240.cell (by decide) (F1222.cell (by decide) (F1213.cell (by decide) (F1201.cell (by decide) (F1186.cell (by decide) (F917.cell (by decide) (F908.cell (by decide) (F903.cell (by decide) (F898.cell (by decide) (F893.cell (by decide) (F888.cell (by decide) (F875.cell (by decide) e3))))))))))))
                    refine pm_R_iald pm_M185 (pc' := 6) (v := (f2 0)) rfl e1249 (Nat.lt_of_lt_of_le (by decide) T1239.1) rfl rfl rfl ?_
                    refine pm_R_lo pm_M185 (pc' := 8) (ls' := [.ref 41, .int 0, .int 1, .int 3, .int 8, .int 0, .int (f2 0), pm_no]) (st' := []) rfl rfl rfl ?_
                    refine pm_R_lo pm_M185 (pc' := 10) rfl rfl rfl ?_
                    refine pm_R_lo pm_M185 (pc' := 12) rfl rfl rfl ?_
                    refine pm_R_icmp pm_M185 (t := 16) (pc' := 15) rfl rfl rfl (fun c1252 => ?_) (fun c1252 => absurd (Classical.not_not.mp c1252) (sf_neq2 B868 sf_k8 (by decide)))
                    skip
                    refine pm_R_op pm_M185 (pc' := 17) (st' := [.int 0]) rfl rfl rfl ?_
                    refine pm_R_lo pm_M185 (pc' := 19) (ls' := [.ref 41, .int 0, .int 1, .int 3, .int 8, .int 0, .int (f2 0), .int 0]) (st' := []) rfl rfl rfl ?_
                    refine pm_R_lo pm_M185 (pc' := 21) rfl rfl rfl ?_
                    refine pm_R_lo pm_M185 (pc' := 22) rfl rfl rfl ?_
                    refine pm_R_br pm_M185 (pc' := 25) (st' := []) rfl rfl ?_
                    refine pm_R_lo pm_M185 (pc' := 26) rfl rfl rfl ?_
                    refine rf_R_get pm_M185 T1239 (pc' := 29) (v := .ref 51) rfl rfl rfl rfl ?_
                    refine pm_R_lo pm_M185 (pc' := 30) rfl rfl rfl ?_
                    refine pm_R_lo pm_M185 (pc' := 31) rfl rfl rfl ?_
                    refine pm_R_lo pm_M185 (pc' := 33) rfl rfl rfl ?_
                    refine sf_R_imul pm_M185 (pc' := 34) rfl rfl sf_k3 B868 (by decide) (by decide) (by decide) (fun z1253 e1254 B1255 => ?_)
                    refine sf_R_iadd pm_M185 (pc' := 35) rfl rfl sf_k1 B1255 (by decide) (by decide) (fun z1256 e1257 B1258 => ?_)
                    refine pm_R_lo pm_M185 (pc' := 37) rfl rfl rfl ?_
                    refine sf_R_iadd pm_M185 (pc' := 38) rfl rfl B1258 sf_k0 (by decide) (by decide) (fun z1259 e1260 B1261 => ?_)
                    refine pm_R_lo pm_M185 (pc' := 39) rfl rfl rfl ?_
                    refine rf_R_get pm_M185 T1239 (pc' := 42) (v := .ref 52) rfl rfl rfl rfl ?_
                    refine pm_R_lo pm_M185 (pc' := 44) rfl rfl rfl ?_
                    refine pm_R_lo pm_M185 (pc' := 46) rfl rfl rfl ?_
                    refine pm_R_op pm_M185 (pc' := 47) (st' := [.int 0, .ref 52, .int z1259, .ref 51]) rfl rfl rfl ?_
                    have e1262 := (F1240.cell (by decide) (F1222.cell (by decide) (F1213.cell (by decide) e1202)))
                    refine pm_R_iald pm_M185 (pc' := 48) (v := 3) rfl e1262 (Nat.lt_of_lt_of_le (by decide) T1239.1) rfl (Eq.trans (show (upd (upd (upd (upd (upd (upd (upd f883 (Int32.toNatClampNeg 0) (-1)) (Int32.toNatClampNeg 1) (-1)) (Int32.toNatClampNeg 2) (-1)) (Int32.toNatClampNeg 3) (-1)) (Int32.toNatClampNeg 0) 3) (Int32.toNatClampNeg 1) (m871 14)) (Int32.toNatClampNeg 2) (m1182 14)) (Int32.toNatClampNeg 0) = (upd (upd (upd (upd (upd (upd f883 (Int32.toNatClampNeg 0) (-1)) (Int32.toNatClampNeg 1) (-1)) (Int32.toNatClampNeg 2) (-1)) (Int32.toNatClampNeg 3) (-1)) (Int32.toNatClampNeg 0) 3) (Int32.toNatClampNeg 1) (m871 14)) (Int32.toNatClampNeg 0) from rfl) (Eq.trans (show (upd (upd (upd (upd (upd (upd f883 (Int32.toNatClampNeg 0) (-1)) (Int32.toNatClampNeg 1) (-1)) (Int32.toNatClampNeg 2) (-1)) (Int32.toNatClampNeg 3) (-1)) (Int32.toNatClampNeg 0) 3) (Int32.toNatClampNeg 1) (m871 14)) (Int32.toNatClampNeg 0) = (upd (upd (upd (upd (upd f883 (Int32.toNatClampNeg 0) (-1)) (Int32.toNatClampNeg 1) (-1)) (Int32.toNatClampNeg 2) (-1)) (Int32.toNatClampNeg 3) (-1)) (Int32.toNatClampNeg 0) 3) (Int32.toNatClampNeg 0) from rfl) rfl)) rfl ?_
                    refine rf_R_ist pm_M185 T1239 (pc' := 49) rfl e1249 (by decide) (by decide) (sf_in B1261 (by decide) (by decide)) ⟨_, rfl⟩ rfl (fun h1265 T1266 F1267 e1268 => ?_)
                    have F1269 := F1244.trans F1267 (by decide)
                    have ct1270 : rf_ct 3 (upd f2 (Int32.toNatClampNeg z1259) 3) := (sf_eqL (Eq.trans (sf_upd_ne (j := Int32.toNatClampNeg 0) B1261 (by decide) (by decide)) rfl) (sf_weak B868 (by decide) (by decide)))
                    have bd1271 : (m1236 17).toInt = 0 → rf_bd 3 (upd f2 (Int32.toNatClampNeg z1259) 3) := fun z => (sf_pos B1245 (by decide) z)
                    refine pm_R_lo pm_M185 (pc' := 52) (ls' := [.ref 41, .int 0, .int 1, .int 3, .int 8, .int 0, .int (f2 0), .int 1]) (st' := []) rfl rfl rfl ?_
                    refine pm_R_br pm_M185 (pc' := 19) rfl rfl ?_
                    refine pm_R_lo pm_M185 (pc' := 21) rfl rfl rfl ?_
                    refine pm_R_lo pm_M185 (pc' := 22) rfl rfl rfl ?_
                    refine pm_R_br pm_M185 (pc' := 25) (st' := []) rfl rfl ?_
                    refine pm_R_lo pm_M185 (pc' := 26) rfl rfl rfl ?_
                    refine rf_R_get pm_M185 T1266 (pc' := 29) (v := .ref 51) rfl rfl rfl rfl ?_
                    refine pm_R_lo pm_M185 (pc' := 30) rfl rfl rfl ?_
                    refine pm_R_lo pm_M185 (pc' := 31) rfl rfl rfl ?_
                    refine pm_R_lo pm_M185 (pc' := 33) rfl rfl rfl ?_
                    refine sf_R_imulV pm_M185 (pc' := 34) rfl rfl sf_k3 B868 (by decide) (by decide) (by decide) e1254 ?_
                    refine sf_R_iaddV pm_M185 (pc' := 35) rfl rfl sf_k1 B1255 (by decide) (by decide) e1257 ?_
                    refine pm_R_lo pm_M185 (pc' := 37) rfl rfl rfl ?_
                    refine sf_R_iadd pm_M185 (pc' := 38) rfl rfl B1258 sf_k1 (by decide) (by decide) (fun z1272 e1273 B1274 => ?_)
                    refine pm_R_lo pm_M185 (pc' := 39) rfl rfl rfl ?_
                    refine rf_R_get pm_M185 T1266 (pc' := 42) (v := .ref 52) rfl rfl rfl rfl ?_
                    refine pm_R_lo pm_M185 (pc' := 44) rfl rfl rfl ?_
                    refine pm_R_lo pm_M185 (pc' := 46) rfl rfl rfl ?_
                    refine pm_R_op pm_M185 (pc' := 47) (st' := [.int 1, .ref 52, .int z1272, .ref 51]) rfl rfl rfl ?_
                    have e1275 := (F1267.cell (by decide) e1262)
                    refine pm_R_iald pm_M185 (pc' := 48) (v := (m871 14)) rfl e1275 (Nat.lt_of_lt_of_le (by decide) T1266.1) rfl (Eq.trans (show (upd (upd (upd (upd (upd (upd (upd f883 (Int32.toNatClampNeg 0) (-1)) (Int32.toNatClampNeg 1) (-1)) (Int32.toNatClampNeg 2) (-1)) (Int32.toNatClampNeg 3) (-1)) (Int32.toNatClampNeg 0) 3) (Int32.toNatClampNeg 1) (m871 14)) (Int32.toNatClampNeg 2) (m1182 14)) (Int32.toNatClampNeg 1) = (upd (upd (upd (upd (upd (upd f883 (Int32.toNatClampNeg 0) (-1)) (Int32.toNatClampNeg 1) (-1)) (Int32.toNatClampNeg 2) (-1)) (Int32.toNatClampNeg 3) (-1)) (Int32.toNatClampNeg 0) 3) (Int32.toNatClampNeg 1) (m871 14)) (Int32.toNatClampNeg 1) from rfl) rfl) rfl ?_
                    refine rf_R_ist pm_M185 T1266 (pc' := 49) rfl e1268 (by decide) (by decide) (sf_in B1274 (by decide) (by decide)) ⟨_, rfl⟩ rfl (fun h1278 T1279 F1280 e1281 => ?_)
                    have F1282 := F1269.trans F1280 (by decide)
                    have ct1283 : rf_ct 3 (upd (upd f2 (Int32.toNatClampNeg z1259) 3) (Int32.toNatClampNeg z1272) (m871 14)) := (sf_eqL (Eq.trans (sf_upd_ne (j := Int32.toNatClampNeg 0) B1274 (by decide) (by decide)) (Eq.trans (sf_upd_ne (j := Int32.toNatClampNeg 0) B1261 (by decide) (by decide)) rfl)) (sf_weak B868 (by decide) (by decide)))
                    have bd1284 : (m1236 17).toInt = 0 → rf_bd 3 (upd (upd f2 (Int32.toNatClampNeg z1259) 3) (Int32.toNatClampNeg z1272) (m871 14)) := fun z => (sf_pos B1245 (by decide) z)
                    refine pm_R_lo pm_M185 (pc' := 52) (ls' := [.ref 41, .int 0, .int 1, .int 3, .int 8, .int 0, .int (f2 0), .int 2]) (st' := []) rfl rfl rfl ?_
                    refine pm_R_br pm_M185 (pc' := 19) rfl rfl ?_
                    refine pm_R_lo pm_M185 (pc' := 21) rfl rfl rfl ?_
                    refine pm_R_lo pm_M185 (pc' := 22) rfl rfl rfl ?_
                    refine pm_R_br pm_M185 (pc' := 25) (st' := []) rfl rfl ?_
                    refine pm_R_lo pm_M185 (pc' := 26) rfl rfl rfl ?_
                    refine rf_R_get pm_M185 T1279 (pc' := 29) (v := .ref 51) rfl rfl rfl rfl ?_
                    refine pm_R_lo pm_M185 (pc' := 30) rfl rfl rfl ?_
                    refine pm_R_lo pm_M185 (pc' := 31) rfl rfl rfl ?_
                    refine pm_R_lo pm_M185 (pc' := 33) rfl rfl rfl ?_
                    refine sf_R_imulV pm_M185 (pc' := 34) rfl rfl sf_k3 B868 (by decide) (by decide) (by decide) e1254 ?_
                    refine sf_R_iaddV pm_M185 (pc' := 35) rfl rfl sf_k1 B1255 (by decide) (by decide) e1257 ?_
                    refine pm_R_lo pm_M185 (pc' := 37) rfl rfl rfl ?_
                    refine sf_R_iadd pm_M185 (pc' := 38) rfl rfl B1258 sf_k2 (by decide) (by decide) (fun z1285 e1286 B1287 => ?_)
                    refine pm_R_lo pm_M185 (pc' := 39) rfl rfl rfl ?_
                    refine rf_R_get pm_M185 T1279 (pc' := 42) (v := .ref 52) rfl rfl rfl rfl ?_
                    refine pm_R_lo pm_M185 (pc' := 44) rfl rfl rfl ?_
                    refine pm_R_lo pm_M185 (pc' := 46) rfl rfl rfl ?_
                    refine pm_R_op pm_M185 (pc' := 47) (st' := [.int 2, .ref 52, .int z1285, .ref 51]) rfl rfl rfl ?_
                    have e1288 := (F1280.cell (by decide) e1275)
                    refine pm_R_iald pm_M185 (pc' := 48) (v := (m1182 14)) rfl e1288 (Nat.lt_of_lt_of_le (by decide) T1279.1) rfl rfl rfl ?_
                    refine rf_R_ist pm_M185 T1279 (pc' := 49) rfl e1281 (by decide) (by decide) (sf_in B1287 (by decide) (by decide)) ⟨_, rfl⟩ rfl (fun h1291 T1292 F1293 e1294 => ?_)
                    have F1295 := F1282.trans F1293 (by decide)
                    have ct1296 : rf_ct 3 (upd (upd (upd f2 (Int32.toNatClampNeg z1259) 3) (Int32.toNatClampNeg z1272) (m871 14)) (Int32.toNatClampNeg z1285) (m1182 14)) := (sf_eqL (Eq.trans (sf_upd_ne (j := Int32.toNatClampNeg 0) B1287 (by decide) (by decide)) (Eq.trans (sf_upd_ne (j := Int32.toNatClampNeg 0) B1274 (by decide) (by decide)) (Eq.trans (sf_upd_ne (j := Int32.toNatClampNeg 0) B1261 (by decide) (by decide)) rfl))) (sf_weak B868 (by decide) (by decide)))
                    have bd1297 : (m1236 17).toInt = 0 → rf_bd 3 (upd (upd (upd f2 (Int32.toNatClampNeg z1259) 3) (Int32.toNatClampNeg z1272) (m871 14)) (Int32.toNatClampNeg z1285) (m1182 14)) := fun z => (sf_pos B1245 (by decide) z)
                    refine pm_R_lo pm_M185 (pc' := 52) (ls' := [.ref 41, .int 0, .int 1, .int 3, .int 8, .int 0, .int (f2 0), .int 3]) (st' := []) rfl rfl rfl ?_
                    refine pm_R_br pm_M185 (pc' := 19) rfl rfl ?_
                    refine pm_R_lo pm_M185 (pc' := 21) rfl rfl rfl ?_
                    refine pm_R_lo pm_M185 (pc' := 22) rfl rfl rfl ?_
                    refine pm_R_br pm_M185 (pc' := 55) (st' := []) rfl rfl ?_
                    refine pm_R_lo pm_M185 (pc' := 56) rfl rfl rfl ?_
                    refine rf_R_get pm_M185 T1292 (pc' := 59) (v := .ref 51) rfl rfl rfl rfl ?_
                    refine pm_R_lo pm_M185 (pc' := 60) rfl rfl rfl ?_
                    refine pm_R_op pm_M185 (pc' := 61) (st' := [.int 0, .ref 51, .int 0, .ref 51]) rfl rfl rfl ?_
                    refine pm_R_iald pm_M185 (pc' := 62) (v := (f2 0)) rfl e1294 (Nat.lt_of_lt_of_le (by decide) T1292.1) rfl (Eq.trans (sf_upd_ne (j := Int32.toNatClampNeg 0) B1287 (by decide) (by decide)) (Eq.trans (sf_upd_ne (j := Int32.toNatClampNeg 0) B1274 (by decide) (by decide)) (Eq.trans (sf_upd_ne (j := Int32.toNatClampNeg 0) B1261 (by decide) (by decide)) rfl))) rfl ?_
                    refine pm_R_op pm_M185 (pc' := 63) (st' := [.int 1, .int (f2 0), .int 0, .ref 51]) rfl rfl rfl ?_
                    refine sf_R_iadd pm_M185 (pc' := 64) rfl rfl B868 sf_k1 (by decide) (by decide) (fun z1300 e1301 B1302 => ?_)
                    refine rf_R_ist pm_M185 T1292 (pc' := 65) rfl e1294 (by decide) (by decide) rfl ⟨_, rfl⟩ rfl (fun h1303 T1304 F1305 e1306 => ?_)
                    have F1307 := F1295.trans F1305 (by decide)
                    have ct1308 : rf_ct 3 (upd (upd (upd (upd f2 (Int32.toNatClampNeg z1259) 3) (Int32.toNatClampNeg z1272) (m871 14)) (Int32.toNatClampNeg z1285) (m1182 14)) (Int32.toNatClampNeg 0) z1300) := (sf_eqL rfl (sf_weak B1302 (by decide) (by decide)))
                    have bd1309 : (m1236 17).toInt = 0 → rf_bd 3 (upd (upd (upd (upd f2 (Int32.toNatClampNeg z1259) 3) (Int32.toNatClampNeg z1272) (m871 14)) (Int32.toNatClampNeg z1285) (m1182 14)) (Int32.toNatClampNeg 0) z1300) := fun z => (sf_pos B1245 (by decide) z)
                    refine pm_R_ret pm_M185 (r := none) rfl rfl ?_
                    show pm_R _ 192 173 [.ref 41, .long a0, pm_no, .int a1, .int 3] [] _ _
                    refine pm_R_op pm_M192 (pc' := 174) (st' := [.int 1]) (pm_q192_1 (Nat.le_of_ble_eq_true rfl)) rfl rfl ?_
                    have B1310 : sf_B 0 600 (m1236 10) := T1304.2.2.1 10
                    exact pm_R_ret pm_M192 (r := some (.int 1)) (pm_q192_1 (Nat.le_of_ble_eq_true rfl)) rfl (K1 m1236 w1237 h1303 T1304 F1307 W1248 (⟨(upd (upd (upd (upd f2 (Int32.toNatClampNeg z1259) 3) (Int32.toNatClampNeg z1272) (m871 14)) (Int32.toNatClampNeg z1285) (m1182 14)) (Int32.toNatClampNeg 0) z1300), e1306, ct1308, fun z => (sf_pos B1245 (by decide) z)⟩) (sf_aux110 _ _ _ _ _ X877 X1188 X1242))
                  · have B1311 : sf_B 0 9 (m1182 14) := sf_leL (Int32.not_lt.mp c1204) B1197 sf_k9
                    refine pm_R_lo pm_M183 (pc' := 32) rfl rfl rfl ?_
                    refine rf_R_get pm_M183 T1200 (pc' := 35) (v := .int (m1182 14)) rfl rfl rfl rfl ?_
                    refine pm_R_lo pm_M183 (pc' := 36) rfl rfl rfl ?_
                    refine pm_R_icmp pm_M183 (t := 53) (pc' := 39) rfl rfl rfl (fun c1312 => ?_) (fun c1312 => absurd (Classical.not_not.mp c1312) (sf_neq1 B1311 sf_kn1 (by decide)))
                    skip
                    refine pm_R_lo pm_M183 (pc' := 54) rfl rfl rfl ?_
                    refine pm_R_cv pm_M183 (pc' := 57) (a := 41) (ra := []) (rest := []) (ls' := [.ref 41, pm_no, pm_no]) rfl rfl (Or.inl rfl) pm_M179 T1200.2.1 rfl (by decide) (Nat.lt_of_lt_of_le (by decide) T1200.1) rfl rfl (Nat.le_of_ble_eq_true rfl) rfl rfl ?_
                    have B1313 : sf_B 0 600 (m1182 10) := T1200.2.2.1 10
                    refine rf_c179 (d := d + 0) T1200  (fun m1316 w1317 h1318 T1319 F1320 W1321 X1322 X1323 => ?_)
                    have F1324 := F1203.trans F1320 (by decide)
                    have B1325 : sf_B 0 4 (m1316 17) := by rw [W1321 17 (by decide)]; exact B1191
                    have ek1326 : (m1316 17).toInt = ((m 17)).toInt := by rw [W1321 17 (by decide)]; exact ek1192
                    have W1327 : rf_W [10, 12, 13, 14, 16, 17, 18, 22] m m1316 := W1193.trans W1321 (by decide)
                    show pm_R _ 183 57 [.ref 41, .int 2, .int 9, .int (-1)] [] _ _
                    refine pm_R_op pm_M183 (pc' := 58) (st' := [.int 1]) rfl rfl rfl ?_
                    refine pm_R_ret pm_M183 (r := some (.int 1)) rfl rfl ?_
                    show pm_R _ 192 158 [.ref 41, .long a0, pm_no, .int a1, .int 3] [.int 1] _ _
                    refine pm_R_br pm_M192 (pc' := 163) (st' := []) (pm_q192_1 (Nat.le_of_ble_eq_true rfl)) rfl ?_
                    refine pm_R_lo pm_M192 (pc' := 164) (pm_q192_1 (Nat.le_of_ble_eq_true rfl)) rfl rfl ?_
                    refine pm_R_op pm_M192 (pc' := 165) (st' := [.int 0, .ref 41]) (pm_q192_1 (Nat.le_of_ble_eq_true rfl)) rfl rfl ?_
                    refine pm_R_op pm_M192 (pc' := 166) (st' := [.int 1, .int 0, .ref 41]) (pm_q192_1 (Nat.le_of_ble_eq_true rfl)) rfl rfl ?_
                    refine pm_R_op pm_M192 (pc' := 167) (st' := [.int 3, .int 1, .int 0, .ref 41]) (pm_q192_1 (Nat.le_of_ble_eq_true rfl)) rfl rfl ?_
                    refine pm_R_op pm_M192 (pc' := 169) (st' := [.int 8, .int 3, .int 1, .int 0, .ref 41]) (pm_q192_1 (Nat.le_of_ble_eq_true rfl)) rfl rfl ?_
                    refine pm_R_op pm_M192 (pc' := 170) (st' := [.int 0, .int 8, .int 3, .int 1, .int 0, .ref 41]) (pm_q192_1 (Nat.le_of_ble_eq_true rfl)) rfl rfl ?_
                    refine pm_R_cv pm_M192 (pc' := 173) (a := 41) (ra := [.int 0, .int 8, .int 3, .int 1, .int 0]) (rest := []) (ls' := [.ref 41, .int 0, .int 1, .int 3, .int 8, .int 0, pm_no, pm_no]) (pm_q192_1 (Nat.le_of_ble_eq_true rfl)) rfl (Or.inl rfl) pm_M185 T1319.2.1 rfl (by decide) (Nat.lt_of_lt_of_le (by decide) T1319.1) rfl rfl (Nat.le_of_ble_eq_true rfl) rfl rfl ?_
                    refine pm_R_lo pm_M185 (pc' := 1) rfl rfl rfl ?_
                    refine rf_R_get pm_M185 T1319 (pc' := 4) (v := .ref 51) rfl rfl rfl rfl ?_
                    refine pm_R_lo pm_M185 (pc' := 5) rfl rfl rfl ?_
                    have e1328 := (F1320.cell (by decide) (F1201.cell (by decide) (F1186.cell (by decide) (F917.cell (by decide) (F908.cell (by decide) (F903.cell (by decide) (F898.cell (by decide) (F893.cell (by decide) (F888.cell (by decide) (F875.cell (by decide) e3))))))))))
                    refine pm_R_iald pm_M185 (pc' := 6) (v := (f2 0)) rfl e1328 (Nat.lt_of_lt_of_le (by decide) T1319.1) rfl rfl rfl ?_
                    refine pm_R_lo pm_M185 (pc' := 8) (ls' := [.ref 41, .int 0, .int 1, .int 3, .int 8, .int 0, .int (f2 0), pm_no]) (st' := []) rfl rfl rfl ?_
                    refine pm_R_lo pm_M185 (pc' := 10) rfl rfl rfl ?_
                    refine pm_R_lo pm_M185 (pc' := 12) rfl rfl rfl ?_
                    refine pm_R_icmp pm_M185 (t := 16) (pc' := 15) rfl rfl rfl (fun c1331 => ?_) (fun c1331 => absurd (Classical.not_not.mp c1331) (sf_neq2 B868 sf_k8 (by decide)))
                    skip
                    refine pm_R_op pm_M185 (pc' := 17) (st' := [.int 0]) rfl rfl rfl ?_
                    refine pm_R_lo pm_M185 (pc' := 19) (ls' := [.ref 41, .int 0, .int 1, .int 3, .int 8, .int 0, .int (f2 0), .int 0]) (st' := []) rfl rfl rfl ?_
                    refine pm_R_lo pm_M185 (pc' := 21) rfl rfl rfl ?_
                    refine pm_R_lo pm_M185 (pc' := 22) rfl rfl rfl ?_
                    refine pm_R_br pm_M185 (pc' := 25) (st' := []) rfl rfl ?_
                    refine pm_R_lo pm_M185 (pc' := 26) rfl rfl rfl ?_
                    refine rf_R_get pm_M185 T1319 (pc' := 29) (v := .ref 51) rfl rfl rfl rfl ?_
                    refine pm_R_lo pm_M185 (pc' := 30) rfl rfl rfl ?_
                    refine pm_R_lo pm_M185 (pc' := 31) rfl rfl rfl ?_
                    refine pm_R_lo pm_M185 (pc' := 33) rfl rfl rfl ?_
                    refine sf_R_imul pm_M185 (pc' := 34) rfl rfl sf_k3 B868 (by decide) (by decide) (by decide) (fun z1332 e1333 B1334 => ?_)
                    refine sf_R_iadd pm_M185 (pc' := 35) rfl rfl sf_k1 B1334 (by decide) (by decide) (fun z1335 e1336 B1337 => ?_)
                    refine pm_R_lo pm_M185 (pc' := 37) rfl rfl rfl ?_
                    refine sf_R_iadd pm_M185 (pc' := 38) rfl rfl B1337 sf_k0 (by decide) (by decide) (fun z1338 e1339 B1340 => ?_)
                    refine pm_R_lo pm_M185 (pc' := 39) rfl rfl rfl ?_
                    refine rf_R_get pm_M185 T1319 (pc' := 42) (v := .ref 52) rfl rfl rfl rfl ?_
                    refine pm_R_lo pm_M185 (pc' := 44) rfl rfl rfl ?_
                    refine pm_R_lo pm_M185 (pc' := 46) rfl rfl rfl ?_
                    refine pm_R_op pm_M185 (pc' := 47) (st' := [.int 0, .ref 52, .int z1338, .ref 51]) rfl rfl rfl ?_
                    have e1341 := (F1320.cell (by decide) e1202)
                    refine pm_R_iald pm_M185 (pc' := 48) (v := 3) rfl e1341 (Nat.lt_of_lt_of_le (by decide) T1319.1) rfl (Eq.trans (show (upd (upd (upd (upd (upd (upd (upd f883 (Int32.toNatClampNeg 0) (-1)) (Int32.toNatClampNeg 1) (-1)) (Int32.toNatClampNeg 2) (-1)) (Int32.toNatClampNeg 3) (-1)) (Int32.toNatClampNeg 0) 3) (Int32.toNatClampNeg 1) (m871 14)) (Int32.toNatClampNeg 2) (m1182 14)) (Int32.toNatClampNeg 0) = (upd (upd (upd (upd (upd (upd f883 (Int32.toNatClampNeg 0) (-1)) (Int32.toNatClampNeg 1) (-1)) (Int32.toNatClampNeg 2) (-1)) (Int32.toNatClampNeg 3) (-1)) (Int32.toNatClampNeg 0) 3) (Int32.toNatClampNeg 1) (m871 14)) (Int32.toNatClampNeg 0) from rfl) (Eq.trans (show (upd (upd (upd (upd (upd (upd f883 (Int32.toNatClampNeg 0) (-1)) (Int32.toNatClampNeg 1) (-1)) (Int32.toNatClampNeg 2) (-1)) (Int32.toNatClampNeg 3) (-1)) (Int32.toNatClampNeg 0) 3) (Int32.toNatClampNeg 1) (m871 14)) (Int32.toNatClampNeg 0) = (upd (upd (upd (upd (upd f883 (Int32.toNatClampNeg 0) (-1)) (Int32.toNatClampNeg 1) (-1)) (Int32.toNatClampNeg 2) (-1)) (Int32.toNatClampNeg 3) (-1)) (Int32.toNatClampNeg 0) 3) (Int32.toNatClampNeg 0) from rfl) rfl)) rfl ?_
                    refine rf_R_ist pm_M185 T1319 (pc' := 49) rfl e1328 (by decide) (by decide) (sf_in B1340 (by decide) (by decide)) ⟨_, rfl⟩ rfl (fun h1344 T1345 F1346 e1347 => ?_)
                    have F1348 := F1324.trans F1346 (by decide)
                    have w1349 := rf_w3s (sf_aux119 _ _ _ _ e1333 e1336 e1339) B868
                    have ct1350 : rf_ct 3 (upd f2 (Int32.toNatClampNeg z1338) 3) := (sf_eqL (Eq.trans (sf_upd_ne (j := Int32.toNatClampNeg 0) B1340 (by decide) (by decide)) rfl) (sf_weak B868 (by decide) (by decide)))
                    have bd1351 : (m1316 17).toInt = 0 → rf_bd 3 (upd f2 (Int32.toNatClampNeg z1338) 3) := fun z => ((bd5 (sf_aux53 _ _ ek1326 z)).set (k := z1338) (sf_weak sf_k3 (by decide) (by decide)) w1349.1 w1349.2)
                    refine pm_R_lo pm_M185 (pc' := 52) (ls' := [.ref 41, .int 0, .int 1, .int 3, .int 8, .int 0, .int (f2 0), .int 1]) (st' := []) rfl rfl rfl ?_
                    refine pm_R_br pm_M185 (pc' := 19) rfl rfl ?_
                    refine pm_R_lo pm_M185 (pc' := 21) rfl rfl rfl ?_
                    refine pm_R_lo pm_M185 (pc' := 22) rfl rfl rfl ?_
                    refine pm_R_br pm_M185 (pc' := 25) (st' := []) rfl rfl ?_
                    refine pm_R_lo pm_M185 (pc' := 26) rfl rfl rfl ?_
                    refine rf_R_get pm_M185 T1345 (pc' := 29) (v := .ref 51) rfl rfl rfl rfl ?_
                    refine pm_R_lo pm_M185 (pc' := 30) rfl rfl rfl ?_
                    refine pm_R_lo pm_M185 (pc' := 31) rfl rfl rfl ?_
                    refine pm_R_lo pm_M185 (pc' := 33) rfl rfl rfl ?_
                    refine sf_R_imulV pm_M185 (pc' := 34) rfl rfl sf_k3 B868 (by decide) (by decide) (by decide) e1333 ?_
                    refine sf_R_iaddV pm_M185 (pc' := 35) rfl rfl sf_k1 B1334 (by decide) (by decide) e1336 ?_
                    refine pm_R_lo pm_M185 (pc' := 37) rfl rfl rfl ?_
                    refine sf_R_iadd pm_M185 (pc' := 38) rfl rfl B1337 sf_k1 (by decide) (by decide) (fun z1352 e1353 B1354 => ?_)
                    refine pm_R_lo pm_M185 (pc' := 39) rfl rfl rfl ?_
                    refine rf_R_get pm_M185 T1345 (pc' := 42) (v := .ref 52) rfl rfl rfl rfl ?_
                    refine pm_R_lo pm_M185 (pc' := 44) rfl rfl rfl ?_
                    refine pm_R_lo pm_M185 (pc' := 46) rfl rfl rfl ?_
                    refine pm_R_op pm_M185 (pc' := 47) (st' := [.int 1, .ref 52, .int z1352, .ref 51]) rfl rfl rfl ?_
                    have e1355 := (F1346.cell (by decide) e1341)
                    refine pm_R_iald pm_M185 (pc' := 48) (v := (m871 14)) rfl e1355 (Nat.lt_of_lt_of_le (by decide) T1345.1) rfl (Eq.trans (show (upd (upd (upd (upd (upd (upd (upd f883 (Int32.toNatClampNeg 0) (-1)) (Int32.toNatClampNeg 1) (-1)) (Int32.toNatClampNeg 2) (-1)) (Int32.toNatClampNeg 3) (-1)) (Int32.toNatClampNeg 0) 3) (Int32.toNatClampNeg 1) (m871 14)) (Int32.toNatClampNeg 2) (m1182 14)) (Int32.toNatClampNeg 1) = (upd (upd (upd (upd (upd (upd f883 (Int32.toNatClampNeg 0) (-1)) (Int32.toNatClampNeg 1) (-1)) (Int32.toNatClampNeg 2) (-1)) (Int32.toNatClampNeg 3) (-1)) (Int32.toNatClampNeg 0) 3) (Int32.toNatClampNeg 1) (m871 14)) (Int32.toNatClampNeg 1) from rfl) rfl) rfl ?_
                    refine rf_R_ist pm_M185 T1345 (pc' := 49) rfl e1347 (by decide) (by decide) (sf_in B1354 (by decide) (by decide)) ⟨_, rfl⟩ rfl (fun h1358 T1359 F1360 e1361 => ?_)
                    have F1362 := F1348.trans F1360 (by decide)
                    have w1363 := rf_w3f (sf_aux120 _ _ _ _ e1333 e1336 e1353) B868
                    have ct1364 : rf_ct 3 (upd (upd f2 (Int32.toNatClampNeg z1338) 3) (Int32.toNatClampNeg z1352) (m871 14)) := (sf_eqL (Eq.trans (sf_upd_ne (j := Int32.toNatClampNeg 0) B1354 (by decide) (by decide)) (Eq.trans (sf_upd_ne (j := Int32.toNatClampNeg 0) B1340 (by decide) (by decide)) rfl)) (sf_weak B868 (by decide) (by decide)))
                    have bd1365 : (m1316 17).toInt = 0 → rf_bd 3 (upd (upd f2 (Int32.toNatClampNeg z1338) 3) (Int32.toNatClampNeg z1352) (m871 14)) := fun z => ((bd1351 z).set (k := z1352) B1177 w1363.1 w1363.2)
                    refine pm_R_lo pm_M185 (pc' := 52) (ls' := [.ref 41, .int 0, .int 1, .int 3, .int 8, .int 0, .int (f2 0), .int 2]) (st' := []) rfl rfl rfl ?_
                    refine pm_R_br pm_M185 (pc' := 19) rfl rfl ?_
                    refine pm_R_lo pm_M185 (pc' := 21) rfl rfl rfl ?_
                    refine pm_R_lo pm_M185 (pc' := 22) rfl rfl rfl ?_
                    refine pm_R_br pm_M185 (pc' := 25) (st' := []) rfl rfl ?_
                    refine pm_R_lo pm_M185 (pc' := 26) rfl rfl rfl ?_
                    refine rf_R_get pm_M185 T1359 (pc' := 29) (v := .ref 51) rfl rfl rfl rfl ?_
                    refine pm_R_lo pm_M185 (pc' := 30) rfl rfl rfl ?_
                    refine pm_R_lo pm_M185 (pc' := 31) rfl rfl rfl ?_
                    refine pm_R_lo pm_M185 (pc' := 33) rfl rfl rfl ?_
                    refine sf_R_imulV pm_M185 (pc' := 34) rfl rfl sf_k3 B868 (by decide) (by decide) (by decide) e1333 ?_
                    refine sf_R_iaddV pm_M185 (pc' := 35) rfl rfl sf_k1 B1334 (by decide) (by decide) e1336 ?_
                    refine pm_R_lo pm_M185 (pc' := 37) rfl rfl rfl ?_
                    refine sf_R_iadd pm_M185 (pc' := 38) rfl rfl B1337 sf_k2 (by decide) (by decide) (fun z1366 e1367 B1368 => ?_)
                    refine pm_R_lo pm_M185 (pc' := 39) rfl rfl rfl ?_
                    refine rf_R_get pm_M185 T1359 (pc' := 42) (v := .ref 52) rfl rfl rfl rfl ?_
                    refine pm_R_lo pm_M185 (pc' := 44) rfl rfl rfl ?_
                    refine pm_R_lo pm_M185 (pc' := 46) rfl rfl rfl ?_
                    refine pm_R_op pm_M185 (pc' := 47) (st' := [.int 2, .ref 52, .int z1366, .ref 51]) rfl rfl rfl ?_
                    have e1369 := (F1360.cell (by decide) e1355)
                    refine pm_R_iald pm_M185 (pc' := 48) (v := (m1182 14)) rfl e1369 (Nat.lt_of_lt_of_le (by decide) T1359.1) rfl rfl rfl ?_
                    refine rf_R_ist pm_M185 T1359 (pc' := 49) rfl e1361 (by decide) (by decide) (sf_in B1368 (by decide) (by decide)) ⟨_, rfl⟩ rfl (fun h1372 T1373 F1374 e1375 => ?_)
                    have F1376 := F1362.trans F1374 (by decide)
                    have w1377 := rf_w3o (sf_aux121 _ _ _ _ e1333 e1336 e1367) B868
                    have ct1378 : rf_ct 3 (upd (upd (upd f2 (Int32.toNatClampNeg z1338) 3) (Int32.toNatClampNeg z1352) (m871 14)) (Int32.toNatClampNeg z1366) (m1182 14)) := (sf_eqL (Eq.trans (sf_upd_ne (j := Int32.toNatClampNeg 0) B1368 (by decide) (by decide)) (Eq.trans (sf_upd_ne (j := Int32.toNatClampNeg 0) B1354 (by decide) (by decide)) (Eq.trans (sf_upd_ne (j := Int32.toNatClampNeg 0) B1340 (by decide) (by decide)) rfl))) (sf_weak B868 (by decide) (by decide)))
                    have bd1379 : (m1316 17).toInt = 0 → rf_bd 3 (upd (upd (upd f2 (Int32.toNatClampNeg z1338) 3) (Int32.toNatClampNeg z1352) (m871 14)) (Int32.toNatClampNeg z1366) (m1182 14)) := fun z => ((bd1365 z).set (k := z1366) (sf_weak B1311 (by decide) (by decide)) w1377.1 w1377.2)
                    refine pm_R_lo pm_M185 (pc' := 52) (ls' := [.ref 41, .int 0, .int 1, .int 3, .int 8, .int 0, .int (f2 0), .int 3]) (st' := []) rfl rfl rfl ?_
                    refine pm_R_br pm_M185 (pc' := 19) rfl rfl ?_
                    refine pm_R_lo pm_M185 (pc' := 21) rfl rfl rfl ?_
                    refine pm_R_lo pm_M185 (pc' := 22) rfl rfl rfl ?_
                    refine pm_R_br pm_M185 (pc' := 55) (st' := []) rfl rfl ?_
                    refine pm_R_lo pm_M185 (pc' := 56) rfl rfl rfl ?_
                    refine rf_R_get pm_M185 T1373 (pc' := 59) (v := .ref 51) rfl rfl rfl rfl ?_
                    refine pm_R_lo pm_M185 (pc' := 60) rfl rfl rfl ?_
                    refine pm_R_op pm_M185 (pc' := 61) (st' := [.int 0, .ref 51, .int 0, .ref 51]) rfl rfl rfl ?_
                    refine pm_R_iald pm_M185 (pc' := 62) (v := (f2 0)) rfl e1375 (Nat.lt_of_lt_of_le (by decide) T1373.1) rfl (Eq.trans (sf_upd_ne (j := Int32.toNatClampNeg 0) B1368 (by decide) (by decide)) (Eq.trans (sf_upd_ne (j := Int32.toNatClampNeg 0) B1354 (by decide) (by decide)) (Eq.trans (sf_upd_ne (j := Int32.toNatClampNeg 0) B1340 (by decide) (by decide)) rfl))) rfl ?_
                    refine pm_R_op pm_M185 (pc' := 63) (st' := [.int 1, .int (f2 0), .int 0, .ref 51]) rfl rfl rfl ?_
                    refine sf_R_iadd pm_M185 (pc' := 64) rfl rfl B868 sf_k1 (by decide) (by decide) (fun z1382 e1383 B1384 => ?_)
                    refine rf_R_ist pm_M185 T1373 (pc' := 65) rfl e1375 (by decide) (by decide) rfl ⟨_, rfl⟩ rfl (fun h1385 T1386 F1387 e1388 => ?_)
                    have F1389 := F1376.trans F1387 (by decide)
                    have ct1390 : rf_ct 3 (upd (upd (upd (upd f2 (Int32.toNatClampNeg z1338) 3) (Int32.toNatClampNeg z1352) (m871 14)) (Int32.toNatClampNeg z1366) (m1182 14)) (Int32.toNatClampNeg 0) z1382) := (sf_eqL rfl (sf_weak B1384 (by decide) (by decide)))
                    have bd1391 : (m1316 17).toInt = 0 → rf_bd 3 (upd (upd (upd (upd f2 (Int32.toNatClampNeg z1338) 3) (Int32.toNatClampNeg z1352) (m871 14)) (Int32.toNatClampNeg z1366) (m1182 14)) (Int32.toNatClampNeg 0) z1382) := fun z => ((bd1379 z).set (k := 0) B1384 (by decide) (by decide))
                    refine pm_R_ret pm_M185 (r := none) rfl rfl ?_
                    show pm_R _ 192 173 [.ref 41, .long a0, pm_no, .int a1, .int 3] [] _ _
                    refine pm_R_op pm_M192 (pc' := 174) (st' := [.int 1]) (pm_q192_1 (Nat.le_of_ble_eq_true rfl)) rfl rfl ?_
                    have B1392 : sf_B 0 600 (m1316 10) := T1386.2.2.1 10
                    exact pm_R_ret pm_M192 (r := some (.int 1)) (pm_q192_1 (Nat.le_of_ble_eq_true rfl)) rfl (K1 m1316 w1317 h1385 T1386 F1389 W1327 (⟨(upd (upd (upd (upd f2 (Int32.toNatClampNeg z1338) 3) (Int32.toNatClampNeg z1352) (m871 14)) (Int32.toNatClampNeg z1366) (m1182 14)) (Int32.toNatClampNeg 0) z1382), e1388, ct1390, fun z => (bd1391 z)⟩) (sf_aux111 _ _ _ _ X877 X1188 X1322))
                · skip
                  refine pm_R_lo pm_M183 (pc' := 9) rfl rfl rfl ?_
                  refine pm_R_cv pm_M183 (pc' := 12) (a := 41) (ra := []) (rest := []) (ls' := [.ref 41]) rfl rfl (Or.inl rfl) pm_M184 T1185.2.1 rfl (by decide) (Nat.lt_of_lt_of_le (by decide) T1185.1) rfl rfl (Nat.le_of_ble_eq_true rfl) rfl rfl ?_
                  refine pm_R_lo pm_M184 (pc' := 1) rfl rfl rfl ?_
                  refine pm_R_lo pm_M184 (pc' := 2) rfl rfl rfl ?_
                  have B1393 : sf_B 0 600 (m1182 12) := T1185.2.2.1 12
                  refine rf_R_get pm_M184 T1185 (pc' := 5) (v := .int (m1182 12)) rfl rfl rfl rfl ?_
                  refine rf_R_put pm_M184 T1185 (pc' := 8) rfl rfl rfl (by decide) rfl rfl B1393 rfl rfl (fun h1394 m1397 em1398 T1395 F1396 => ?_)
                  have F1399 := F1190.trans F1396 (by decide)
                  have B1400 : sf_B 0 4 (m1397 17) := by rw [em1398]; exact B1191
                  have ek1401 : (m1397 17).toInt = ((m 17)).toInt := by rw [em1398]; exact ek1192
                  have B1402 : sf_B 0 600 (m1397 16) := by rw [em1398]; exact B1393
                  have ek1403 : (m1397 16).toInt = ((m1182 12)).toInt := by rw [em1398]; rfl
                  have W1404 : rf_W [10, 12, 13, 14, 16, 17, 18, 22] m m1397 := by rw [em1398]; exact W1193.put (by decide)
                  refine pm_R_op pm_M184 (pc' := 9) (st' := [.int 0]) rfl rfl rfl ?_
                  refine pm_R_ret pm_M184 (r := some (.int 0)) rfl rfl ?_
                  show pm_R _ 183 12 [.ref 41, .int 2, .int 9, .int (-1)] [.int 0] _ _
                  refine pm_R_ret pm_M183 (r := some (.int 0)) rfl rfl ?_
                  show pm_R _ 192 158 [.ref 41, .long a0, pm_no, .int a1, .int 3] [.int 0] _ _
                  refine pm_R_br pm_M192 (pc' := 161) (st' := []) (pm_q192_1 (Nat.le_of_ble_eq_true rfl)) rfl ?_
                  refine pm_R_op pm_M192 (pc' := 162) (st' := [.int 0]) (pm_q192_1 (Nat.le_of_ble_eq_true rfl)) rfl rfl ?_
                  have B1405 : sf_B 0 600 (m1397 10) := T1395.2.2.1 10
                  exact pm_R_ret pm_M192 (r := some (.int 0)) (pm_q192_1 (Nat.le_of_ble_eq_true rfl)) rfl (K0 m1397 w1183 h1394 T1395 F1399 W1404 (sf_aux90 _ _ _ _ X877 X1188))
            · skip
              refine pm_R_lo pm_M183 (pc' := 9) rfl rfl rfl ?_
              refine pm_R_cv pm_M183 (pc' := 12) (a := 41) (ra := []) (rest := []) (ls' := [.ref 41]) rfl rfl (Or.inl rfl) pm_M184 T907.2.1 rfl (by decide) (Nat.lt_of_lt_of_le (by decide) T907.1) rfl rfl (Nat.le_of_ble_eq_true rfl) rfl rfl ?_
              refine pm_R_lo pm_M184 (pc' := 1) rfl rfl rfl ?_
              refine pm_R_lo pm_M184 (pc' := 2) rfl rfl rfl ?_
              have B1406 : sf_B 0 600 (m871 12) := T907.2.2.1 12
              refine rf_R_get pm_M184 T907 (pc' := 5) (v := .int (m871 12)) rfl rfl rfl rfl ?_
              refine rf_R_put pm_M184 T907 (pc' := 8) rfl rfl rfl (by decide) rfl rfl B1406 rfl rfl (fun h1407 m1410 em1411 T1408 F1409 => ?_)
              have F1412 := F910.trans F1409 (by decide)
              have B1413 : sf_B 0 4 (m1410 17) := by rw [em1411]; exact B880
              have ek1414 : (m1410 17).toInt = ((m 17)).toInt := by rw [em1411]; exact ek881
              have B1415 : sf_B 0 600 (m1410 16) := by rw [em1411]; exact B1406
              have ek1416 : (m1410 16).toInt = ((m871 12)).toInt := by rw [em1411]; rfl
              have W1417 : rf_W [10, 12, 13, 14, 16, 17, 18, 22] m m1410 := by rw [em1411]; exact W882.put (by decide)
              refine pm_R_op pm_M184 (pc' := 9) (st' := [.int 0]) rfl rfl rfl ?_
              refine pm_R_ret pm_M184 (r := some (.int 0)) rfl rfl ?_
              show pm_R _ 183 12 [.ref 41, .int 1, .int 9, .int (-1)] [.int 0] _ _
              refine pm_R_ret pm_M183 (r := some (.int 0)) rfl rfl ?_
              show pm_R _ 192 127 [.ref 41, .long a0, pm_no, .int a1, .int 3] [.int 0] _ _
              refine pm_R_br pm_M192 (pc' := 130) (st' := []) (pm_q192_1 (Nat.le_of_ble_eq_true rfl)) rfl ?_
              refine pm_R_op pm_M192 (pc' := 131) (st' := [.int 0]) (pm_q192_1 (Nat.le_of_ble_eq_true rfl)) rfl rfl ?_
              have B1418 : sf_B 0 600 (m1410 10) := T1408.2.2.1 10
              exact pm_R_ret pm_M192 (r := some (.int 0)) (pm_q192_1 (Nat.le_of_ble_eq_true rfl)) rfl (K0 m1410 w872 h1407 T1408 F1412 W1417 (sf_aux91 _ _ _ X877))
          · have B1419 : sf_B 8 8 (f2 0) := sf_eqL (Classical.not_not.mp c867) sf_k8
            refine pm_R_lo pm_M192 (pc' := 98) rfl rfl rfl ?_
            refine pm_R_op pm_M192 (pc' := 99) (st' := [.int 3, .ref 41]) rfl rfl rfl ?_
            refine pm_R_lo pm_M192 (pc' := 100) rfl rfl rfl ?_
            refine pm_R_cv pm_M192 (pc' := 103) (a := 41) (ra := [.int a1, .int 3]) (rest := []) (ls' := [.ref 41, .int 3, .int a1]) rfl rfl (Or.inl rfl) pm_M182 T.2.1 rfl (by decide) (Nat.lt_of_lt_of_le (by decide) T.1) rfl rfl (Nat.le_of_ble_eq_true rfl) rfl rfl ?_
            refine rf_c182 (d := d + 2) T (sf_weak sf_k3 (by decide) (by decide)) Ba1 (fun m1422 w1423 h1424 T1425 F1426 W1427 B1428 => ?_)
            have F1429 := (rf_G.refl [41, 51, 52] h).trans F1426 (by decide)
            have B1430 : sf_B 0 600 (m1422 10) := by rw [W1427 10 (by decide)]; exact B1
            have ek1431 : (m1422 10).toInt = ((m 10)).toInt := by rw [W1427 10 (by decide)]
            have W1432 : rf_W [10, 12, 13, 14, 16, 17, 18, 22] m m1422 := (rf_W.refl [10, 12, 13, 14, 16, 17, 18, 22] m).trans W1427 (by decide)
            show pm_R _ 192 103 [.ref 41, .long a0, pm_no, .int a1, .int 3] [] _ _
            refine pm_R_lo pm_M192 (pc' := 104) rfl rfl rfl ?_
            refine pm_R_cv pm_M192 (pc' := 107) (a := 41) (ra := []) (rest := []) (ls' := [.ref 41, pm_no, pm_no]) rfl rfl (Or.inl rfl) pm_M179 T1425.2.1 rfl (by decide) (Nat.lt_of_lt_of_le (by decide) T1425.1) rfl rfl (Nat.le_of_ble_eq_true rfl) rfl rfl ?_
            refine rf_c179 (d := d + 1) T1425  (fun m1435 w1436 h1437 T1438 F1439 W1440 X1441 X1442 => ?_)
            have F1443 := F1429.trans F1439 (by decide)
            have B1444 : sf_B 1 4 (m1435 17) := by rw [W1440 17 (by decide)]; exact B1428
            have ek1445 : (m1435 17).toInt = ((m1422 17)).toInt := by rw [W1440 17 (by decide)]
            have W1446 : rf_W [10, 12, 13, 14, 16, 17, 18, 22] m m1435 := W1432.trans W1440 (by decide)
            show pm_R _ 192 107 [.ref 41, .long a0, pm_no, .int a1, .int 3] [] _ _
            refine pm_R_lo pm_M192 (pc' := 108) rfl rfl rfl ?_
            refine pm_R_cv pm_M192 (pc' := 111) (a := 41) (ra := []) (rest := []) (ls' := [.ref 41, pm_no]) rfl rfl (Or.inl rfl) pm_M190 T1438.2.1 rfl (by decide) (Nat.lt_of_lt_of_le (by decide) T1438.1) rfl rfl (Nat.le_of_ble_eq_true rfl) rfl rfl ?_
            refine pm_R_op pm_M190 (pc' := 1) (st' := [.int 0]) rfl rfl rfl ?_
            refine pm_R_lo pm_M190 (pc' := 2) (ls' := [.ref 41, .int 0]) (st' := []) rfl rfl rfl ?_
            refine pm_R_lo pm_M190 (pc' := 3) rfl rfl rfl ?_
            refine pm_R_op pm_M190 (pc' := 4) (st' := [.int 4, .int 0]) rfl rfl rfl ?_
            refine pm_R_br pm_M190 (pc' := 7) (st' := []) rfl rfl ?_
            refine pm_R_lo pm_M190 (pc' := 8) rfl rfl rfl ?_
            refine rf_R_get pm_M190 T1438 (pc' := 11) (v := .ref 52) rfl rfl rfl rfl ?_
            refine pm_R_lo pm_M190 (pc' := 12) rfl rfl rfl ?_
            refine pm_R_op pm_M190 (pc' := 13) (st' := [.int (-1), .int 0, .ref 52]) rfl rfl rfl ?_
            obtain ⟨f1447, e1448, b1449⟩ := T1438.2.2.2.1 52 (by decide) (by decide)
            refine rf_R_ist pm_M190 T1438 (pc' := 14) rfl e1448 (by decide) (by decide) rfl ⟨_, rfl, sf_upd b1449 (sf_weak sf_kn1 (by decide) (by decide)) _⟩ rfl (fun h1450 T1451 F1452 e1453 => ?_)
            have F1454 := F1443.trans F1452 (by decide)
            refine pm_R_lo pm_M190 (pc' := 17) (ls' := [.ref 41, .int 1]) (st' := []) rfl rfl rfl ?_
            refine pm_R_br pm_M190 (pc' := 2) rfl rfl ?_
            refine pm_R_lo pm_M190 (pc' := 3) rfl rfl rfl ?_
            refine pm_R_op pm_M190 (pc' := 4) (st' := [.int 4, .int 1]) rfl rfl rfl ?_
            refine pm_R_br pm_M190 (pc' := 7) (st' := []) rfl rfl ?_
            refine pm_R_lo pm_M190 (pc' := 8) rfl rfl rfl ?_
            refine rf_R_get pm_M190 T1451 (pc' := 11) (v := .ref 52) rfl rfl rfl rfl ?_
            refine pm_R_lo pm_M190 (pc' := 12) rfl rfl rfl ?_
            refine pm_R_op pm_M190 (pc' := 13) (st' := [.int (-1), .int 1, .ref 52]) rfl rfl rfl ?_
            refine rf_R_ist pm_M190 T1451 (pc' := 14) rfl e1453 (by decide) (by decide) rfl ⟨_, rfl, sf_upd (sf_upd b1449 (sf_weak sf_kn1 (by decide) (by decide)) _) (sf_weak sf_kn1 (by decide) (by decide)) _⟩ rfl (fun h1455 T1456 F1457 e1458 => ?_)
            have F1459 := F1454.trans F1457 (by decide)
            refine pm_R_lo pm_M190 (pc' := 17) (ls' := [.ref 41, .int 2]) (st' := []) rfl rfl rfl ?_
            refine pm_R_br pm_M190 (pc' := 2) rfl rfl ?_
            refine pm_R_lo pm_M190 (pc' := 3) rfl rfl rfl ?_
            refine pm_R_op pm_M190 (pc' := 4) (st' := [.int 4, .int 2]) rfl rfl rfl ?_
            refine pm_R_br pm_M190 (pc' := 7) (st' := []) rfl rfl ?_
            refine pm_R_lo pm_M190 (pc' := 8) rfl rfl rfl ?_
            refine rf_R_get pm_M190 T1456 (pc' := 11) (v := .ref 52) rfl rfl rfl rfl ?_
            refine pm_R_lo pm_M190 (pc' := 12) rfl rfl rfl ?_
            refine pm_R_op pm_M190 (pc' := 13) (st' := [.int (-1), .int 2, .ref 52]) rfl rfl rfl ?_
            refine rf_R_ist pm_M190 T1456 (pc' := 14) rfl e1458 (by decide) (by decide) rfl ⟨_, rfl, sf_upd (sf_upd (sf_upd b1449 (sf_weak sf_kn1 (by decide) (by decide)) _) (sf_weak sf_kn1 (by decide) (by decide)) _) (sf_weak sf_kn1 (by decide) (by decide)) _⟩ rfl (fun h1460 T1461 F1462 e1463 => ?_)
            have F1464 := F1459.trans F1462 (by decide)
            refine pm_R_lo pm_M190 (pc' := 17) (ls' := [.ref 41, .int 3]) (st' := []) rfl rfl rfl ?_
            refine pm_R_br pm_M190 (pc' := 2) rfl rfl ?_
            refine pm_R_lo pm_M190 (pc' := 3) rfl rfl rfl ?_
            refine pm_R_op pm_M190 (pc' := 4) (st' := [.int 4, .int 3]) rfl rfl rfl ?_
            refine pm_R_br pm_M190 (pc' := 7) (st' := []) rfl rfl ?_
            refine pm_R_lo pm_M190 (pc' := 8) rfl rfl rfl ?_
            refine rf_R_get pm_M190 T1461 (pc' := 11) (v := .ref 52) rfl rfl rfl rfl ?_
            refine pm_R_lo pm_M190 (pc' := 12) rfl rfl rfl ?_
            refine pm_R_op pm_M190 (pc' := 13) (st' := [.int (-1), .int 3, .ref 52]) rfl rfl rfl ?_
            refine rf_R_ist pm_M190 T1461 (pc' := 14) rfl e1463 (by decide) (by decide) rfl ⟨_, rfl, sf_upd (sf_upd (sf_upd (sf_upd b1449 (sf_weak sf_kn1 (by decide) (by decide)) _) (sf_weak sf_kn1 (by decide) (by decide)) _) (sf_weak sf_kn1 (by decide) (by decide)) _) (sf_weak sf_kn1 (by decide) (by decide)) _⟩ rfl (fun h1465 T1466 F1467 e1468 => ?_)
            have F1469 := F1464.trans F1467 (by decide)
            refine pm_R_lo pm_M190 (pc' := 17) (ls' := [.ref 41, .int 4]) (st' := []) rfl rfl rfl ?_
            refine pm_R_br pm_M190 (pc' := 2) rfl rfl ?_
            refine pm_R_lo pm_M190 (pc' := 3) rfl rfl rfl ?_
            refine pm_R_op pm_M190 (pc' := 4) (st' := [.int 4, .int 4]) rfl rfl rfl ?_
            refine pm_R_br pm_M190 (pc' := 20) (st' := []) rfl rfl ?_
            refine pm_R_ret pm_M190 (r := none) rfl rfl ?_
            show pm_R _ 192 111 [.ref 41, .long a0, pm_no, .int a1, .int 3] [] _ _
            refine pm_R_lo pm_M192 (pc' := 112) rfl rfl rfl ?_
            refine rf_R_get pm_M192 T1466 (pc' := 115) (v := .ref 52) rfl rfl rfl rfl ?_
            refine pm_R_op pm_M192 (pc' := 116) (st' := [.int 0, .ref 52]) (pm_q192_1 (Nat.le_of_ble_eq_true rfl)) rfl rfl ?_
            refine pm_R_lo pm_M192 (pc' := 118) (pm_q192_1 (Nat.le_of_ble_eq_true rfl)) rfl rfl ?_
            refine rf_R_ist pm_M192 T1466 (pc' := 119) (pm_q192_1 (Nat.le_of_ble_eq_true rfl)) e1468 (by decide) (by decide) rfl ⟨_, rfl, sf_upd (sf_upd (sf_upd (sf_upd (sf_upd b1449 (sf_weak sf_kn1 (by decide) (by decide)) _) (sf_weak sf_kn1 (by decide) (by decide)) _) (sf_weak sf_kn1 (by decide) (by decide)) _) (sf_weak sf_kn1 (by decide) (by decide)) _) (sf_weak sf_k3 (by decide) (by decide)) _⟩ rfl (fun h1470 T1471 F1472 e1473 => ?_)
            have F1474 := F1469.trans F1472 (by decide)
            refine pm_R_lo pm_M192 (pc' := 120) (pm_q192_1 (Nat.le_of_ble_eq_true rfl)) rfl rfl ?_
            refine pm_R_op pm_M192 (pc' := 121) (st' := [.int 1, .ref 41]) (pm_q192_1 (Nat.le_of_ble_eq_true rfl)) rfl rfl ?_
            refine pm_R_op pm_M192 (pc' := 123) (st' := [.int 9, .int 1, .ref 41]) (pm_q192_1 (Nat.le_of_ble_eq_true rfl)) rfl rfl ?_
            refine pm_R_op pm_M192 (pc' := 124) (st' := [.int (-1), .int 9, .int 1, .ref 41]) (pm_q192_1 (Nat.le_of_ble_eq_true rfl)) rfl rfl ?_
            refine pm_R_cv pm_M192 (pc' := 127) (a := 41) (ra := [.int (-1), .int 9, .int 1]) (rest := []) (ls' := [.ref 41, .int 1, .int 9, .int (-1)]) (pm_q192_1 (Nat.le_of_ble_eq_true rfl)) rfl (Or.inl rfl) pm_M183 T1471.2.1 rfl (by decide) (Nat.lt_of_lt_of_le (by decide) T1471.1) rfl rfl (Nat.le_of_ble_eq_true rfl) rfl rfl ?_
            refine pm_R_lo pm_M183 (pc' := 1) rfl rfl rfl ?_
            have B1475 : sf_B 0 4 (m1435 13) := T1471.2.2.1 13
            refine rf_R_get pm_M183 T1471 (pc' := 4) (v := .int (m1435 13)) rfl rfl rfl rfl ?_
            refine pm_R_op pm_M183 (pc' := 5) (st' := [.int 3, .int (m1435 13)]) rfl rfl rfl ?_
            refine pm_R_icmp pm_M183 (t := 13) (pc' := 8) rfl rfl rfl (fun c1476 => ?_) (fun c1476 => ?_)
            · have B1477 : sf_B 3 3 (m1435 13) := sf_eqL c1476 sf_k3
              refine pm_R_lo pm_M183 (pc' := 14) rfl rfl rfl ?_
              refine rf_R_get pm_M183 T1471 (pc' := 17) (v := .ref 52) rfl rfl rfl rfl ?_
              refine pm_R_lo pm_M183 (pc' := 18) rfl rfl rfl ?_
              refine pm_R_lo pm_M183 (pc' := 19) rfl rfl rfl ?_
              have B1478 : sf_B 0 99 (m1435 14) := T1471.2.2.1 14
              refine rf_R_get pm_M183 T1471 (pc' := 22) (v := .int (m1435 14)) rfl rfl rfl rfl ?_
              refine rf_R_ist pm_M183 T1471 (pc' := 23) rfl e1473 (by decide) (by decide) rfl ⟨_, rfl, sf_upd (sf_upd (sf_upd (sf_upd (sf_upd (sf_upd b1449 (sf_weak sf_kn1 (by decide) (by decide)) _) (sf_weak sf_kn1 (by decide) (by decide)) _) (sf_weak sf_kn1 (by decide) (by decide)) _) (sf_weak sf_kn1 (by decide) (by decide)) _) (sf_weak sf_k3 (by decide) (by decide)) _) (sf_weak B1478 (by decide) (by decide)) _⟩ rfl (fun h1479 T1480 F1481 e1482 => ?_)
              have F1483 := F1474.trans F1481 (by decide)
              refine pm_R_lo pm_M183 (pc' := 24) rfl rfl rfl ?_
              refine rf_R_get pm_M183 T1480 (pc' := 27) (v := .int (m1435 14)) rfl rfl rfl rfl ?_
              refine pm_R_lo pm_M183 (pc' := 28) rfl rfl rfl ?_
              refine pm_R_icmp pm_M183 (t := 39) (pc' := 31) rfl rfl rfl (fun c1484 => ?_) (fun c1484 => ?_)
              · have B1485 : sf_B 10 99 (m1435 14) := sf_ltR c1484 sf_k9 B1478
                refine pm_R_lo pm_M183 (pc' := 40) rfl rfl rfl ?_
                refine pm_R_op pm_M183 (pc' := 41) (st' := [.int 2, .ref 41]) rfl rfl rfl ?_
                refine pm_R_lo pm_M183 (pc' := 42) rfl rfl rfl ?_
                have B1486 : sf_B 0 600 (m1435 12) := T1480.2.2.1 12
                refine rf_R_get pm_M183 T1480 (pc' := 45) (v := .int (m1435 12)) rfl rfl rfl rfl ?_
                refine pm_R_cv pm_M183 (pc' := 48) (a := 41) (ra := [.int (m1435 12), .int 2]) (rest := []) (ls' := [.ref 41, .int 2, .int (m1435 12)]) rfl rfl (Or.inl rfl) pm_M182 T1480.2.1 rfl (by decide) (Nat.lt_of_lt_of_le (by decide) T1480.1) rfl rfl (Nat.le_of_ble_eq_true rfl) rfl rfl ?_
                refine rf_c182 (d := d + 1) T1480 (sf_weak sf_k2 (by decide) (by decide)) B1486 (fun m1489 w1490 h1491 T1492 F1493 W1494 B1495 => ?_)
                have F1496 := F1483.trans F1493 (by decide)
                have B1497 : sf_B 3 3 (m1489 13) := by rw [W1494 13 (by decide)]; exact B1477
                have B1498 : sf_B 10 99 (m1489 14) := by rw [W1494 14 (by decide)]; exact B1485
                have W1499 : rf_W [10, 12, 13, 14, 16, 17, 18, 22] m m1489 := W1446.trans W1494 (by decide)
                show pm_R _ 183 48 [.ref 41, .int 1, .int 9, .int (-1)] [] _ _
                refine pm_R_lo pm_M183 (pc' := 49) rfl rfl rfl ?_
                refine pm_R_op pm_M183 (pc' := 50) (st' := [.int 0, .ref 41]) rfl rfl rfl ?_
                refine rf_R_put pm_M183 T1492 (pc' := 53) rfl rfl rfl (by decide) rfl rfl (sf_weak sf_k0 (by decide) (by decide)) rfl rfl (fun h1500 m1503 em1504 T1501 F1502 => ?_)
                have F1505 := F1496.trans F1502 (by decide)
                have B1506 : sf_B 3 3 (m1503 13) := by rw [em1504]; exact B1497
                have B1507 : sf_B 10 99 (m1503 14) := by rw [em1504]; exact B1498
                have B1508 : sf_B 1 4 (m1503 17) := by rw [em1504]; exact B1495
                have ek1509 : (m1503 17).toInt = ((m1489 17)).toInt := by rw [em1504]; rfl
                have B1510 : sf_B 0 0 (m1503 22) := by rw [em1504]; exact sf_k0
                have W1512 : rf_W [10, 12, 13, 14, 16, 17, 18, 22] m m1503 := by rw [em1504]; exact W1499.put (by decide)
                refine pm_R_lo pm_M183 (pc' := 54) rfl rfl rfl ?_
                refine pm_R_cv pm_M183 (pc' := 57) (a := 41) (ra := []) (rest := []) (ls' := [.ref 41, pm_no, pm_no]) rfl rfl (Or.inl rfl) pm_M179 T1501.2.1 rfl (by decide) (Nat.lt_of_lt_of_le (by decide) T1501.1) rfl rfl (Nat.le_of_ble_eq_true rfl) rfl rfl ?_
                have B1513 : sf_B 0 600 (m1503 10) := T1501.2.2.1 10
                refine rf_c179 (d := d + 0) T1501  (fun m1516 w1517 h1518 T1519 F1520 W1521 X1522 X1523 => ?_)
                have F1524 := F1505.trans F1520 (by decide)
                have B1525 : sf_B 1 4 (m1516 17) := by rw [W1521 17 (by decide)]; exact B1508
                have ek1526 : (m1516 17).toInt = ((m1489 17)).toInt := by rw [W1521 17 (by decide)]; exact ek1509
                have B1527 : sf_B 0 0 (m1516 22) := by rw [W1521 22 (by decide)]; exact B1510
                have W1528 : rf_W [10, 12, 13, 14, 16, 17, 18, 22] m m1516 := W1512.trans W1521 (by decide)
                show pm_R _ 183 57 [.ref 41, .int 1, .int 9, .int (-1)] [] _ _
                refine pm_R_op pm_M183 (pc' := 58) (st' := [.int 1]) rfl rfl rfl ?_
                refine pm_R_ret pm_M183 (r := some (.int 1)) rfl rfl ?_
                show pm_R _ 192 127 [.ref 41, .long a0, pm_no, .int a1, .int 3] [.int 1] _ _
                refine pm_R_br pm_M192 (pc' := 132) (st' := []) (pm_q192_1 (Nat.le_of_ble_eq_true rfl)) rfl ?_
                refine pm_R_lo pm_M192 (pc' := 134) (pm_q192_1 (Nat.le_of_ble_eq_true rfl)) rfl rfl ?_
                refine pm_R_op pm_M192 (pc' := 135) (st' := [.int 1, .int 3]) (pm_q192_1 (Nat.le_of_ble_eq_true rfl)) rfl rfl ?_
                refine pm_R_br pm_M192 (pc' := 138) (st' := []) (pm_q192_1 (Nat.le_of_ble_eq_true rfl)) rfl ?_
                refine pm_R_lo pm_M192 (pc' := 140) (pm_q192_1 (Nat.le_of_ble_eq_true rfl)) rfl rfl ?_
                refine pm_R_op pm_M192 (pc' := 141) (st' := [.int 2, .int 3]) (pm_q192_1 (Nat.le_of_ble_eq_true rfl)) rfl rfl ?_
                refine pm_R_br pm_M192 (pc' := 144) (st' := []) (pm_q192_1 (Nat.le_of_ble_eq_true rfl)) rfl ?_
                refine pm_R_lo pm_M192 (pc' := 146) (pm_q192_1 (Nat.le_of_ble_eq_true rfl)) rfl rfl ?_
                refine pm_R_op pm_M192 (pc' := 147) (st' := [.int 3, .int 3]) (pm_q192_1 (Nat.le_of_ble_eq_true rfl)) rfl rfl ?_
                refine pm_R_br pm_M192 (pc' := 150) (st' := []) (pm_q192_1 (Nat.le_of_ble_eq_true rfl)) rfl ?_
                refine pm_R_lo pm_M192 (pc' := 151) (pm_q192_1 (Nat.le_of_ble_eq_true rfl)) rfl rfl ?_
                refine pm_R_op pm_M192 (pc' := 152) (st' := [.int 2, .ref 41]) (pm_q192_1 (Nat.le_of_ble_eq_true rfl)) rfl rfl ?_
                refine pm_R_op pm_M192 (pc' := 154) (st' := [.int 9, .int 2, .ref 41]) (pm_q192_1 (Nat.le_of_ble_eq_true rfl)) rfl rfl ?_
                refine pm_R_op pm_M192 (pc' := 155) (st' := [.int (-1), .int 9, .int 2, .ref 41]) (pm_q192_1 (Nat.le_of_ble_eq_true rfl)) rfl rfl ?_
                refine pm_R_cv pm_M192 (pc' := 158) (a := 41) (ra := [.int (-1), .int 9, .int 2]) (rest := []) (ls' := [.ref 41, .int 2, .int 9, .int (-1)]) (pm_q192_1 (Nat.le_of_ble_eq_true rfl)) rfl (Or.inl rfl) pm_M183 T1519.2.1 rfl (by decide) (Nat.lt_of_lt_of_le (by decide) T1519.1) rfl rfl (Nat.le_of_ble_eq_true rfl) rfl rfl ?_
                refine pm_R_lo pm_M183 (pc' := 1) rfl rfl rfl ?_
                have B1529 : sf_B 0 4 (m1516 13) := T1519.2.2.1 13
                refine rf_R_get pm_M183 T1519 (pc' := 4) (v := .int (m1516 13)) rfl rfl rfl rfl ?_
                refine pm_R_op pm_M183 (pc' := 5) (st' := [.int 3, .int (m1516 13)]) rfl rfl rfl ?_
                refine pm_R_icmp pm_M183 (t := 13) (pc' := 8) rfl rfl rfl (fun c1530 => ?_) (fun c1530 => ?_)
                · have B1531 : sf_B 3 3 (m1516 13) := sf_eqL c1530 sf_k3
                  refine pm_R_lo pm_M183 (pc' := 14) rfl rfl rfl ?_
                  refine rf_R_get pm_M183 T1519 (pc' := 17) (v := .ref 52) rfl rfl rfl rfl ?_
                  refine pm_R_lo pm_M183 (pc' := 18) rfl rfl rfl ?_
                  refine pm_R_lo pm_M183 (pc' := 19) rfl rfl rfl ?_
                  have B1532 : sf_B 0 99 (m1516 14) := T1519.2.2.1 14
                  refine rf_R_get pm_M183 T1519 (pc' := 22) (v := .int (m1516 14)) rfl rfl rfl rfl ?_
                  have e1533 := (F1520.cell (by decide) (F1502.cell (by decide) (F1493.cell (by decide) e1482)))
                  refine rf_R_ist pm_M183 T1519 (pc' := 23) rfl e1533 (by decide) (by decide) rfl ⟨_, rfl, sf_upd (sf_upd (sf_upd (sf_upd (sf_upd (sf_upd (sf_upd b1449 (sf_weak sf_kn1 (by decide) (by decide)) _) (sf_weak sf_kn1 (by decide) (by decide)) _) (sf_weak sf_kn1 (by decide) (by decide)) _) (sf_weak sf_kn1 (by decide) (by decide)) _) (sf_weak sf_k3 (by decide) (by decide)) _) (sf_weak B1478 (by decide) (by decide)) _) (sf_weak B1532 (by decide) (by decide)) _⟩ rfl (fun h1534 T1535 F1536 e1537 => ?_)
                  have F1538 := F1524.trans F1536 (by decide)
                  refine pm_R_lo pm_M183 (pc' := 24) rfl rfl rfl ?_
                  refine rf_R_get pm_M183 T1535 (pc' := 27) (v := .int (m1516 14)) rfl rfl rfl rfl ?_
                  refine pm_R_lo pm_M183 (pc' := 28) rfl rfl rfl ?_
                  refine pm_R_icmp pm_M183 (t := 39) (pc' := 31) rfl rfl rfl (fun c1539 => ?_) (fun c1539 => ?_)
                  · have B1540 : sf_B 10 99 (m1516 14) := sf_ltR c1539 sf_k9 B1532
                    refine pm_R_lo pm_M183 (pc' := 40) rfl rfl rfl ?_
                    refine pm_R_op pm_M183 (pc' := 41) (st' := [.int 2, .ref 41]) rfl rfl rfl ?_
                    refine pm_R_lo pm_M183 (pc' := 42) rfl rfl rfl ?_
                    have B1541 : sf_B 0 600 (m1516 12) := T1535.2.2.1 12
                    refine rf_R_get pm_M183 T1535 (pc' := 45) (v := .int (m1516 12)) rfl rfl rfl rfl ?_
                    refine pm_R_cv pm_M183 (pc' := 48) (a := 41) (ra := [.int (m1516 12), .int 2]) (rest := []) (ls' := [.ref 41, .int 2, .int (m1516 12)]) rfl rfl (Or.inl rfl) pm_M182 T1535.2.1 rfl (by decide) (Nat.lt_of_lt_of_le (by decide) T1535.1) rfl rfl (Nat.le_of_ble_eq_true rfl) rfl rfl ?_
                    refine rf_c182 (d := d + 1) T1535 (sf_weak sf_k2 (by decide) (by decide)) B1541 (fun m1544 w1545 h1546 T1547 F1548 W1549 B1550 => ?_)
                    have F1551 := F1538.trans F1548 (by decide)
                    have B1552 : sf_B 0 0 (m1544 22) := by rw [W1549 22 (by decide)]; exact B1527
                    have B1553 : sf_B 3 3 (m1544 13) := by rw [W1549 13 (by decide)]; exact B1531
                    have B1554 : sf_B 10 99 (m1544 14) := by rw [W1549 14 (by decide)]; exact B1540
                    have W1555 : rf_W [10, 12, 13, 14, 16, 17, 18, 22] m m1544 := W1528.trans W1549 (by decide)
                    show pm_R _ 183 48 [.ref 41, .int 2, .int 9, .int (-1)] [] _ _
                    refine pm_R_lo pm_M183 (pc' := 49) rfl rfl rfl ?_
                    refine pm_R_op pm_M183 (pc' := 50) (st' := [.int 0, .ref 41]) rfl rfl rfl ?_
                    refine rf_R_put pm_M183 T1547 (pc' := 53) rfl rfl rfl (by decide) rfl rfl (sf_weak sf_k0 (by decide) (by decide)) rfl rfl (fun h1556 m1559 em1560 T1557 F1558 => ?_)
                    have F1561 := F1551.trans F1558 (by decide)
                    have B1562 : sf_B 3 3 (m1559 13) := by rw [em1560]; exact B1553
                    have B1563 : sf_B 10 99 (m1559 14) := by rw [em1560]; exact B1554
                    have B1564 : sf_B 1 4 (m1559 17) := by rw [em1560]; exact B1550
                    have ek1565 : (m1559 17).toInt = ((m1544 17)).toInt := by rw [em1560]; rfl
                    have B1566 : sf_B 0 0 (m1559 22) := by rw [em1560]; exact sf_k0
                    have W1568 : rf_W [10, 12, 13, 14, 16, 17, 18, 22] m m1559 := by rw [em1560]; exact W1555.put (by decide)
                    refine pm_R_lo pm_M183 (pc' := 54) rfl rfl rfl ?_
                    refine pm_R_cv pm_M183 (pc' := 57) (a := 41) (ra := []) (rest := []) (ls' := [.ref 41, pm_no, pm_no]) rfl rfl (Or.inl rfl) pm_M179 T1557.2.1 rfl (by decide) (Nat.lt_of_lt_of_le (by decide) T1557.1) rfl rfl (Nat.le_of_ble_eq_true rfl) rfl rfl ?_
                    have B1569 : sf_B 0 600 (m1559 10) := T1557.2.2.1 10
                    refine rf_c179 (d := d + 0) T1557  (fun m1572 w1573 h1574 T1575 F1576 W1577 X1578 X1579 => ?_)
                    have F1580 := F1561.trans F1576 (by decide)
                    have B1581 : sf_B 1 4 (m1572 17) := by rw [W1577 17 (by decide)]; exact B1564
                    have ek1582 : (m1572 17).toInt = ((m1544 17)).toInt := by rw [W1577 17 (by decide)]; exact ek1565
                    have B1583 : sf_B 0 0 (m1572 22) := by rw [W1577 22 (by decide)]; exact B1566
                    have W1584 : rf_W [10, 12, 13, 14, 16, 17, 18, 22] m m1572 := W1568.trans W1577 (by decide)
                    show pm_R _ 183 57 [.ref 41, .int 2, .int 9, .int (-1)] [] _ _
                    refine pm_R_op pm_M183 (pc' := 58) (st' := [.int 1]) rfl rfl rfl ?_
                    refine pm_R_ret pm_M183 (r := some (.int 1)) rfl rfl ?_
                    show pm_R _ 192 158 [.ref 41, .long a0, pm_no, .int a1, .int 3] [.int 1] _ _
                    refine pm_R_br pm_M192 (pc' := 163) (st' := []) (pm_q192_1 (Nat.le_of_ble_eq_true rfl)) rfl ?_
                    refine pm_R_lo pm_M192 (pc' := 164) (pm_q192_1 (Nat.le_of_ble_eq_true rfl)) rfl rfl ?_
                    refine pm_R_op pm_M192 (pc' := 165) (st' := [.int 0, .ref 41]) (pm_q192_1 (Nat.le_of_ble_eq_true rfl)) rfl rfl ?_
                    refine pm_R_op pm_M192 (pc' := 166) (st' := [.int 1, .int 0, .ref 41]) (pm_q192_1 (Nat.le_of_ble_eq_true rfl)) rfl rfl ?_
                    refine pm_R_op pm_M192 (pc' := 167) (st' := [.int 3, .int 1, .int 0, .ref 41]) (pm_q192_1 (Nat.le_of_ble_eq_true rfl)) rfl rfl ?_
                    refine pm_R_op pm_M192 (pc' := 169) (st' := [.int 8, .int 3, .int 1, .int 0, .ref 41]) (pm_q192_1 (Nat.le_of_ble_eq_true rfl)) rfl rfl ?_
                    refine pm_R_op pm_M192 (pc' := 170) (st' := [.int 0, .int 8, .int 3, .int 1, .int 0, .ref 41]) (pm_q192_1 (Nat.le_of_ble_eq_true rfl)) rfl rfl ?_
                    refine pm_R_cv pm_M192 (pc' := 173) (a := 41) (ra := [.int 0, .int 8, .int 3, .int 1, .int 0]) (rest := []) (ls' := [.ref 41, .int 0, .int 1, .int 3, .int 8, .int 0, pm_no, pm_no]) (pm_q192_1 (Nat.le_of_ble_eq_true rfl)) rfl (Or.inl rfl) pm_M185 T1575.2.1 rfl (by decide) (Nat.lt_of_lt_of_le (by decide) T1575.1) rfl rfl (Nat.le_of_ble_eq_true rfl) rfl rfl ?_
                    refine pm_R_lo pm_M185 (pc' := 1) rfl rfl rfl ?_
                    refine rf_R_get pm_M185 T1575 (pc' := 4) (v := .ref 51) rfl rfl rfl rfl ?_
                    refine pm_R_lo pm_M185 (pc' := 5) rfl rfl rfl ?_
                    have e1585 := (F1576.cell (by decide) (F1558.cell (by decide) (F1548.cell (by decide) (F1536.cell (by decide) (F1520.cell (by decide) (F1502.cell (by decide) (F1493.cell (by decide) (F1481.cell (by decide) (F1472.cell (by decide) (F1467.cell (by decide) (F1462.cell (by decide) (F1457.cell (by decide) (F1452.cell (by decide) (F1439.cell (by decide) (F1426.cell (by decide) e3)))))))))))))))
                    refine pm_R_iald pm_M185 (pc' := 6) (v := (f2 0)) rfl e1585 (Nat.lt_of_lt_of_le (by decide) T1575.1) rfl rfl rfl ?_
                    refine pm_R_lo pm_M185 (pc' := 8) (ls' := [.ref 41, .int 0, .int 1, .int 3, .int 8, .int 0, .int (f2 0), pm_no]) (st' := []) rfl rfl rfl ?_
                    refine pm_R_lo pm_M185 (pc' := 10) rfl rfl rfl ?_
                    refine pm_R_lo pm_M185 (pc' := 12) rfl rfl rfl ?_
                    refine pm_R_icmp pm_M185 (t := 16) (pc' := 15) rfl rfl rfl (fun c1588 => absurd (sf_pt2 B1419 sf_k8) c1588) (fun c1588 => ?_)
                    refine pm_R_ret pm_M185 (r := none) rfl rfl ?_
                    show pm_R _ 192 173 [.ref 41, .long a0, pm_no, .int a1, .int 3] [] _ _
                    refine pm_R_op pm_M192 (pc' := 174) (st' := [.int 1]) (pm_q192_1 (Nat.le_of_ble_eq_true rfl)) rfl rfl ?_
                    have B1589 : sf_B 0 600 (m1572 10) := T1575.2.2.1 10
                    exact pm_R_ret pm_M192 (r := some (.int 1)) (pm_q192_1 (Nat.le_of_ble_eq_true rfl)) rfl (K1 m1572 w1573 h1574 T1575 F1580 W1584 (⟨f2, e1585, ct4, fun z => (sf_pos B1581 (by decide) z)⟩) (sf_aux117 _ _ _ _ _ _ _ X1441 X1522 X1578))
                  · have B1590 : sf_B 0 9 (m1516 14) := sf_leL (Int32.not_lt.mp c1539) B1532 sf_k9
                    refine pm_R_lo pm_M183 (pc' := 32) rfl rfl rfl ?_
                    refine rf_R_get pm_M183 T1535 (pc' := 35) (v := .int (m1516 14)) rfl rfl rfl rfl ?_
                    refine pm_R_lo pm_M183 (pc' := 36) rfl rfl rfl ?_
                    refine pm_R_icmp pm_M183 (t := 53) (pc' := 39) rfl rfl rfl (fun c1591 => ?_) (fun c1591 => absurd (Classical.not_not.mp c1591) (sf_neq1 B1590 sf_kn1 (by decide)))
                    skip
                    refine pm_R_lo pm_M183 (pc' := 54) rfl rfl rfl ?_
                    refine pm_R_cv pm_M183 (pc' := 57) (a := 41) (ra := []) (rest := []) (ls' := [.ref 41, pm_no, pm_no]) rfl rfl (Or.inl rfl) pm_M179 T1535.2.1 rfl (by decide) (Nat.lt_of_lt_of_le (by decide) T1535.1) rfl rfl (Nat.le_of_ble_eq_true rfl) rfl rfl ?_
                    have B1592 : sf_B 0 600 (m1516 10) := T1535.2.2.1 10
                    refine rf_c179 (d := d + 0) T1535  (fun m1595 w1596 h1597 T1598 F1599 W1600 X1601 X1602 => ?_)
                    have F1603 := F1538.trans F1599 (by decide)
                    have B1604 : sf_B 1 4 (m1595 17) := by rw [W1600 17 (by decide)]; exact B1525
                    have ek1605 : (m1595 17).toInt = ((m1489 17)).toInt := by rw [W1600 17 (by decide)]; exact ek1526
                    have B1606 : sf_B 0 0 (m1595 22) := by rw [W1600 22 (by decide)]; exact B1527
                    have W1607 : rf_W [10, 12, 13, 14, 16, 17, 18, 22] m m1595 := W1528.trans W1600 (by decide)
                    show pm_R _ 183 57 [.ref 41, .int 2, .int 9, .int (-1)] [] _ _
                    refine pm_R_op pm_M183 (pc' := 58) (st' := [.int 1]) rfl rfl rfl ?_
                    refine pm_R_ret pm_M183 (r := some (.int 1)) rfl rfl ?_
                    show pm_R _ 192 158 [.ref 41, .long a0, pm_no, .int a1, .int 3] [.int 1] _ _
                    refine pm_R_br pm_M192 (pc' := 163) (st' := []) (pm_q192_1 (Nat.le_of_ble_eq_true rfl)) rfl ?_
                    refine pm_R_lo pm_M192 (pc' := 164) (pm_q192_1 (Nat.le_of_ble_eq_true rfl)) rfl rfl ?_
                    refine pm_R_op pm_M192 (pc' := 165) (st' := [.int 0, .ref 41]) (pm_q192_1 (Nat.le_of_ble_eq_true rfl)) rfl rfl ?_
                    refine pm_R_op pm_M192 (pc' := 166) (st' := [.int 1, .int 0, .ref 41]) (pm_q192_1 (Nat.le_of_ble_eq_true rfl)) rfl rfl ?_
                    refine pm_R_op pm_M192 (pc' := 167) (st' := [.int 3, .int 1, .int 0, .ref 41]) (pm_q192_1 (Nat.le_of_ble_eq_true rfl)) rfl rfl ?_
                    refine pm_R_op pm_M192 (pc' := 169) (st' := [.int 8, .int 3, .int 1, .int 0, .ref 41]) (pm_q192_1 (Nat.le_of_ble_eq_true rfl)) rfl rfl ?_
                    refine pm_R_op pm_M192 (pc' := 170) (st' := [.int 0, .int 8, .int 3, .int 1, .int 0, .ref 41]) (pm_q192_1 (Nat.le_of_ble_eq_true rfl)) rfl rfl ?_
                    refine pm_R_cv pm_M192 (pc' := 173) (a := 41) (ra := [.int 0, .int 8, .int 3, .int 1, .int 0]) (rest := []) (ls' := [.ref 41, .int 0, .int 1, .int 3, .int 8, .int 0, pm_no, pm_no]) (pm_q192_1 (Nat.le_of_ble_eq_true rfl)) rfl (Or.inl rfl) pm_M185 T1598.2.1 rfl (by decide) (Nat.lt_of_lt_of_le (by decide) T1598.1) rfl rfl (Nat.le_of_ble_eq_true rfl) rfl rfl ?_
                    refine pm_R_lo pm_M185 (pc' := 1) rfl rfl rfl ?_
                    refine rf_R_get pm_M185 T1598 (pc' := 4) (v := .ref 51) rfl rfl rfl rfl ?_
                    refine pm_R_lo pm_M185 (pc' := 5) rfl rfl rfl ?_
                    have e1608 := (F1599.cell (by decide) (F1536.cell (by decide) (F1520.cell (by decide) (F1502.cell (by decide) (F1493.cell (by decide) (F1481.cell (by decide) (F1472.cell (by decide) (F1467.cell (by decide) (F1462.cell (by decide) (F1457.cell (by decide) (F1452.cell (by decide) (F1439.cell (by decide) (F1426.cell (by decide) e3)))))))))))))
                    refine pm_R_iald pm_M185 (pc' := 6) (v := (f2 0)) rfl e1608 (Nat.lt_of_lt_of_le (by decide) T1598.1) rfl rfl rfl ?_
                    refine pm_R_lo pm_M185 (pc' := 8) (ls' := [.ref 41, .int 0, .int 1, .int 3, .int 8, .int 0, .int (f2 0), pm_no]) (st' := []) rfl rfl rfl ?_
                    refine pm_R_lo pm_M185 (pc' := 10) rfl rfl rfl ?_
                    refine pm_R_lo pm_M185 (pc' := 12) rfl rfl rfl ?_
                    refine pm_R_icmp pm_M185 (t := 16) (pc' := 15) rfl rfl rfl (fun c1611 => absurd (sf_pt2 B1419 sf_k8) c1611) (fun c1611 => ?_)
                    refine pm_R_ret pm_M185 (r := none) rfl rfl ?_
                    show pm_R _ 192 173 [.ref 41, .long a0, pm_no, .int a1, .int 3] [] _ _
                    refine pm_R_op pm_M192 (pc' := 174) (st' := [.int 1]) (pm_q192_1 (Nat.le_of_ble_eq_true rfl)) rfl rfl ?_
                    have B1612 : sf_B 0 600 (m1595 10) := T1598.2.2.1 10
                    exact pm_R_ret pm_M192 (r := some (.int 1)) (pm_q192_1 (Nat.le_of_ble_eq_true rfl)) rfl (K1 m1595 w1596 h1597 T1598 F1603 W1607 (⟨f2, e1608, ct4, fun z => (sf_pos B1604 (by decide) z)⟩) (sf_aux124 _ _ _ _ _ _ X1441 X1522 X1601))
                · skip
                  refine pm_R_lo pm_M183 (pc' := 9) rfl rfl rfl ?_
                  refine pm_R_cv pm_M183 (pc' := 12) (a := 41) (ra := []) (rest := []) (ls' := [.ref 41]) rfl rfl (Or.inl rfl) pm_M184 T1519.2.1 rfl (by decide) (Nat.lt_of_lt_of_le (by decide) T1519.1) rfl rfl (Nat.le_of_ble_eq_true rfl) rfl rfl ?_
                  refine pm_R_lo pm_M184 (pc' := 1) rfl rfl rfl ?_
                  refine pm_R_lo pm_M184 (pc' := 2) rfl rfl rfl ?_
                  have B1613 : sf_B 0 600 (m1516 12) := T1519.2.2.1 12
                  refine rf_R_get pm_M184 T1519 (pc' := 5) (v := .int (m1516 12)) rfl rfl rfl rfl ?_
                  refine rf_R_put pm_M184 T1519 (pc' := 8) rfl rfl rfl (by decide) rfl rfl B1613 rfl rfl (fun h1614 m1617 em1618 T1615 F1616 => ?_)
                  have F1619 := F1524.trans F1616 (by decide)
                  have B1620 : sf_B 1 4 (m1617 17) := by rw [em1618]; exact B1525
                  have ek1621 : (m1617 17).toInt = ((m1489 17)).toInt := by rw [em1618]; exact ek1526
                  have B1622 : sf_B 0 0 (m1617 22) := by rw [em1618]; exact B1527
                  have B1623 : sf_B 0 600 (m1617 16) := by rw [em1618]; exact B1613
                  have ek1624 : (m1617 16).toInt = ((m1516 12)).toInt := by rw [em1618]; rfl
                  have W1625 : rf_W [10, 12, 13, 14, 16, 17, 18, 22] m m1617 := by rw [em1618]; exact W1528.put (by decide)
                  refine pm_R_op pm_M184 (pc' := 9) (st' := [.int 0]) rfl rfl rfl ?_
                  refine pm_R_ret pm_M184 (r := some (.int 0)) rfl rfl ?_
                  show pm_R _ 183 12 [.ref 41, .int 2, .int 9, .int (-1)] [.int 0] _ _
                  refine pm_R_ret pm_M183 (r := some (.int 0)) rfl rfl ?_
                  show pm_R _ 192 158 [.ref 41, .long a0, pm_no, .int a1, .int 3] [.int 0] _ _
                  refine pm_R_br pm_M192 (pc' := 161) (st' := []) (pm_q192_1 (Nat.le_of_ble_eq_true rfl)) rfl ?_
                  refine pm_R_op pm_M192 (pc' := 162) (st' := [.int 0]) (pm_q192_1 (Nat.le_of_ble_eq_true rfl)) rfl rfl ?_
                  have B1626 : sf_B 0 600 (m1617 10) := T1615.2.2.1 10
                  exact pm_R_ret pm_M192 (r := some (.int 0)) (pm_q192_1 (Nat.le_of_ble_eq_true rfl)) rfl (K0 m1617 w1517 h1614 T1615 F1619 W1625 (sf_aux68 _ _ _ _ _ _ X1441 X1522))
              · have B1627 : sf_B 0 9 (m1435 14) := sf_leL (Int32.not_lt.mp c1484) B1478 sf_k9
                refine pm_R_lo pm_M183 (pc' := 32) rfl rfl rfl ?_
                refine rf_R_get pm_M183 T1480 (pc' := 35) (v := .int (m1435 14)) rfl rfl rfl rfl ?_
                refine pm_R_lo pm_M183 (pc' := 36) rfl rfl rfl ?_
                refine pm_R_icmp pm_M183 (t := 53) (pc' := 39) rfl rfl rfl (fun c1628 => ?_) (fun c1628 => absurd (Classical.not_not.mp c1628) (sf_neq1 B1627 sf_kn1 (by decide)))
                skip
                refine pm_R_lo pm_M183 (pc' := 54) rfl rfl rfl ?_
                refine pm_R_cv pm_M183 (pc' := 57) (a := 41) (ra := []) (rest := []) (ls' := [.ref 41, pm_no, pm_no]) rfl rfl (Or.inl rfl) pm_M179 T1480.2.1 rfl (by decide) (Nat.lt_of_lt_of_le (by decide) T1480.1) rfl rfl (Nat.le_of_ble_eq_true rfl) rfl rfl ?_
                have B1629 : sf_B 0 600 (m1435 10) := T1480.2.2.1 10
                refine rf_c179 (d := d + 0) T1480  (fun m1632 w1633 h1634 T1635 F1636 W1637 X1638 X1639 => ?_)
                have F1640 := F1483.trans F1636 (by decide)
                have B1641 : sf_B 1 4 (m1632 17) := by rw [W1637 17 (by decide)]; exact B1444
                have ek1642 : (m1632 17).toInt = ((m1422 17)).toInt := by rw [W1637 17 (by decide)]; exact ek1445
                have W1643 : rf_W [10, 12, 13, 14, 16, 17, 18, 22] m m1632 := W1446.trans W1637 (by decide)
                show pm_R _ 183 57 [.ref 41, .int 1, .int 9, .int (-1)] [] _ _
                refine pm_R_op pm_M183 (pc' := 58) (st' := [.int 1]) rfl rfl rfl ?_
                refine pm_R_ret pm_M183 (r := some (.int 1)) rfl rfl ?_
                show pm_R _ 192 127 [.ref 41, .long a0, pm_no, .int a1, .int 3] [.int 1] _ _
                refine pm_R_br pm_M192 (pc' := 132) (st' := []) (pm_q192_1 (Nat.le_of_ble_eq_true rfl)) rfl ?_
                refine pm_R_lo pm_M192 (pc' := 134) (pm_q192_1 (Nat.le_of_ble_eq_true rfl)) rfl rfl ?_
                refine pm_R_op pm_M192 (pc' := 135) (st' := [.int 1, .int 3]) (pm_q192_1 (Nat.le_of_ble_eq_true rfl)) rfl rfl ?_
                refine pm_R_br pm_M192 (pc' := 138) (st' := []) (pm_q192_1 (Nat.le_of_ble_eq_true rfl)) rfl ?_
                refine pm_R_lo pm_M192 (pc' := 140) (pm_q192_1 (Nat.le_of_ble_eq_true rfl)) rfl rfl ?_
                refine pm_R_op pm_M192 (pc' := 141) (st' := [.int 2, .int 3]) (pm_q192_1 (Nat.le_of_ble_eq_true rfl)) rfl rfl ?_
                refine pm_R_br pm_M192 (pc' := 144) (st' := []) (pm_q192_1 (Nat.le_of_ble_eq_true rfl)) rfl ?_
                refine pm_R_lo pm_M192 (pc' := 146) (pm_q192_1 (Nat.le_of_ble_eq_true rfl)) rfl rfl ?_
                refine pm_R_op pm_M192 (pc' := 147) (st' := [.int 3, .int 3]) (pm_q192_1 (Nat.le_of_ble_eq_true rfl)) rfl rfl ?_
                refine pm_R_br pm_M192 (pc' := 150) (st' := []) (pm_q192_1 (Nat.le_of_ble_eq_true rfl)) rfl ?_
                refine pm_R_lo pm_M192 (pc' := 151) (pm_q192_1 (Nat.le_of_ble_eq_true rfl)) rfl rfl ?_
                refine pm_R_op pm_M192 (pc' := 152) (st' := [.int 2, .ref 41]) (pm_q192_1 (Nat.le_of_ble_eq_true rfl)) rfl rfl ?_
                refine pm_R_op pm_M192 (pc' := 154) (st' := [.int 9, .int 2, .ref 41]) (pm_q192_1 (Nat.le_of_ble_eq_true rfl)) rfl rfl ?_
                refine pm_R_op pm_M192 (pc' := 155) (st' := [.int (-1), .int 9, .int 2, .ref 41]) (pm_q192_1 (Nat.le_of_ble_eq_true rfl)) rfl rfl ?_
                refine pm_R_cv pm_M192 (pc' := 158) (a := 41) (ra := [.int (-1), .int 9, .int 2]) (rest := []) (ls' := [.ref 41, .int 2, .int 9, .int (-1)]) (pm_q192_1 (Nat.le_of_ble_eq_true rfl)) rfl (Or.inl rfl) pm_M183 T1635.2.1 rfl (by decide) (Nat.lt_of_lt_of_le (by decide) T1635.1) rfl rfl (Nat.le_of_ble_eq_true rfl) rfl rfl ?_
                refine pm_R_lo pm_M183 (pc' := 1) rfl rfl rfl ?_
                have B1644 : sf_B 0 4 (m1632 13) := T1635.2.2.1 13
                refine rf_R_get pm_M183 T1635 (pc' := 4) (v := .int (m1632 13)) rfl rfl rfl rfl ?_
                refine pm_R_op pm_M183 (pc' := 5) (st' := [.int 3, .int (m1632 13)]) rfl rfl rfl ?_
                refine pm_R_icmp pm_M183 (t := 13) (pc' := 8) rfl rfl rfl (fun c1645 => ?_) (fun c1645 => ?_)
                · have B1646 : sf_B 3 3 (m1632 13) := sf_eqL c1645 sf_k3
                  refine pm_R_lo pm_M183 (pc' := 14) rfl rfl rfl ?_
                  refine rf_R_get pm_M183 T1635 (pc' := 17) (v := .ref 52) rfl rfl rfl rfl ?_
                  refine pm_R_lo pm_M183 (pc' := 18) rfl rfl rfl ?_
                  refine pm_R_lo pm_M183 (pc' := 19) rfl rfl rfl ?_
                  have B1647 : sf_B 0 99 (m1632 14) := T1635.2.2.1 14
                  refine rf_R_get pm_M183 T1635 (pc' := 22) (v := .int (m1632 14)) rfl rfl rfl rfl ?_
                  have e1648 := (F1636.cell (by decide) e1482)
                  refine rf_R_ist pm_M183 T1635 (pc' := 23) rfl e1648 (by decide) (by decide) rfl ⟨_, rfl, sf_upd (sf_upd (sf_upd (sf_upd (sf_upd (sf_upd (sf_upd b1449 (sf_weak sf_kn1 (by decide) (by decide)) _) (sf_weak sf_kn1 (by decide) (by decide)) _) (sf_weak sf_kn1 (by decide) (by decide)) _) (sf_weak sf_kn1 (by decide) (by decide)) _) (sf_weak sf_k3 (by decide) (by decide)) _) (sf_weak B1478 (by decide) (by decide)) _) (sf_weak B1647 (by decide) (by decide)) _⟩ rfl (fun h1649 T1650 F1651 e1652 => ?_)
                  have F1653 := F1640.trans F1651 (by decide)
                  refine pm_R_lo pm_M183 (pc' := 24) rfl rfl rfl ?_
                  refine rf_R_get pm_M183 T1650 (pc' := 27) (v := .int (m1632 14)) rfl rfl rfl rfl ?_
                  refine pm_R_lo pm_M183 (pc' := 28) rfl rfl rfl ?_
                  refine pm_R_icmp pm_M183 (t := 39) (pc' := 31) rfl rfl rfl (fun c1654 => ?_) (fun c1654 => ?_)
                  · have B1655 : sf_B 10 99 (m1632 14) := sf_ltR c1654 sf_k9 B1647
                    refine pm_R_lo pm_M183 (pc' := 40) rfl rfl rfl ?_
                    refine pm_R_op pm_M183 (pc' := 41) (st' := [.int 2, .ref 41]) rfl rfl rfl ?_
                    refine pm_R_lo pm_M183 (pc' := 42) rfl rfl rfl ?_
                    have B1656 : sf_B 0 600 (m1632 12) := T1650.2.2.1 12
                    refine rf_R_get pm_M183 T1650 (pc' := 45) (v := .int (m1632 12)) rfl rfl rfl rfl ?_
                    refine pm_R_cv pm_M183 (pc' := 48) (a := 41) (ra := [.int (m1632 12), .int 2]) (rest := []) (ls' := [.ref 41, .int 2, .int (m1632 12)]) rfl rfl (Or.inl rfl) pm_M182 T1650.2.1 rfl (by decide) (Nat.lt_of_lt_of_le (by decide) T1650.1) rfl rfl (Nat.le_of_ble_eq_true rfl) rfl rfl ?_
                    refine rf_c182 (d := d + 1) T1650 (sf_weak sf_k2 (by decide) (by decide)) B1656 (fun m1659 w1660 h1661 T1662 F1663 W1664 B1665 => ?_)
                    have F1666 := F1653.trans F1663 (by decide)
                    have B1667 : sf_B 3 3 (m1659 13) := by rw [W1664 13 (by decide)]; exact B1646
                    have B1668 : sf_B 10 99 (m1659 14) := by rw [W1664 14 (by decide)]; exact B1655
                    have W1669 : rf_W [10, 12, 13, 14, 16, 17, 18, 22] m m1659 := W1643.trans W1664 (by decide)
                    show pm_R _ 183 48 [.ref 41, .int 2, .int 9, .int (-1)] [] _ _
                    refine pm_R_lo pm_M183 (pc' := 49) rfl rfl rfl ?_
                    refine pm_R_op pm_M183 (pc' := 50) (st' := [.int 0, .ref 41]) rfl rfl rfl ?_
                    refine rf_R_put pm_M183 T1662 (pc' := 53) rfl rfl rfl (by decide) rfl rfl (sf_weak sf_k0 (by decide) (by decide)) rfl rfl (fun h1670 m1673 em1674 T1671 F1672 => ?_)
                    have F1675 := F1666.trans F1672 (by decide)
                    have B1676 : sf_B 3 3 (m1673 13) := by rw [em1674]; exact B1667
                    have B1677 : sf_B 10 99 (m1673 14) := by rw [em1674]; exact B1668
                    have B1678 : sf_B 1 4 (m1673 17) := by rw [em1674]; exact B1665
                    have ek1679 : (m1673 17).toInt = ((m1659 17)).toInt := by rw [em1674]; rfl
                    have B1680 : sf_B 0 0 (m1673 22) := by rw [em1674]; exact sf_k0
                    have W1682 : rf_W [10, 12, 13, 14, 16, 17, 18, 22] m m1673 := by rw [em1674]; exact W1669.put (by decide)
                    refine pm_R_lo pm_M183 (pc' := 54) rfl rfl rfl ?_
                    refine pm_R_cv pm_M183 (pc' := 57) (a := 41) (ra := []) (rest := []) (ls' := [.ref 41, pm_no, pm_no]) rfl rfl (Or.inl rfl) pm_M179 T1671.2.1 rfl (by decide) (Nat.lt_of_lt_of_le (by decide) T1671.1) rfl rfl (Nat.le_of_ble_eq_true rfl) rfl rfl ?_
                    have B1683 : sf_B 0 600 (m1673 10) := T1671.2.2.1 10
                    refine rf_c179 (d := d + 0) T1671  (fun m1686 w1687 h1688 T1689 F1690 W1691 X1692 X1693 => ?_)
                    have F1694 := F1675.trans F1690 (by decide)
                    have B1695 : sf_B 1 4 (m1686 17) := by rw [W1691 17 (by decide)]; exact B1678
                    have ek1696 : (m1686 17).toInt = ((m1659 17)).toInt := by rw [W1691 17 (by decide)]; exact ek1679
                    have B1697 : sf_B 0 0 (m1686 22) := by rw [W1691 22 (by decide)]; exact B1680
                    have W1698 : rf_W [10, 12, 13, 14, 16, 17, 18, 22] m m1686 := W1682.trans W1691 (by decide)
                    show pm_R _ 183 57 [.ref 41, .int 2, .int 9, .int (-1)] [] _ _
                    refine pm_R_op pm_M183 (pc' := 58) (st' := [.int 1]) rfl rfl rfl ?_
                    refine pm_R_ret pm_M183 (r := some (.int 1)) rfl rfl ?_
                    show pm_R _ 192 158 [.ref 41, .long a0, pm_no, .int a1, .int 3] [.int 1] _ _
                    refine pm_R_br pm_M192 (pc' := 163) (st' := []) (pm_q192_1 (Nat.le_of_ble_eq_true rfl)) rfl ?_
                    refine pm_R_lo pm_M192 (pc' := 164) (pm_q192_1 (Nat.le_of_ble_eq_true rfl)) rfl rfl ?_
                    refine pm_R_op pm_M192 (pc' := 165) (st' := [.int 0, .ref 41]) (pm_q192_1 (Nat.le_of_ble_eq_true rfl)) rfl rfl ?_
                    refine pm_R_op pm_M192 (pc' := 166) (st' := [.int 1, .int 0, .ref 41]) (pm_q192_1 (Nat.le_of_ble_eq_true rfl)) rfl rfl ?_
                    refine pm_R_op pm_M192 (pc' := 167) (st' := [.int 3, .int 1, .int 0, .ref 41]) (pm_q192_1 (Nat.le_of_ble_eq_true rfl)) rfl rfl ?_
                    refine pm_R_op pm_M192 (pc' := 169) (st' := [.int 8, .int 3, .int 1, .int 0, .ref 41]) (pm_q192_1 (Nat.le_of_ble_eq_true rfl)) rfl rfl ?_
                    refine pm_R_op pm_M192 (pc' := 170) (st' := [.int 0, .int 8, .int 3, .int 1, .int 0, .ref 41]) (pm_q192_1 (Nat.le_of_ble_eq_true rfl)) rfl rfl ?_
                    refine pm_R_cv pm_M192 (pc' := 173) (a := 41) (ra := [.int 0, .int 8, .int 3, .int 1, .int 0]) (rest := []) (ls' := [.ref 41, .int 0, .int 1, .int 3, .int 8, .int 0, pm_no, pm_no]) (pm_q192_1 (Nat.le_of_ble_eq_true rfl)) rfl (Or.inl rfl) pm_M185 T1689.2.1 rfl (by decide) (Nat.lt_of_lt_of_le (by decide) T1689.1) rfl rfl (Nat.le_of_ble_eq_true rfl) rfl rfl ?_
                    refine pm_R_lo pm_M185 (pc' := 1) rfl rfl rfl ?_
                    refine rf_R_get pm_M185 T1689 (pc' := 4) (v := .ref 51) rfl rfl rfl rfl ?_
                    refine pm_R_lo pm_M185 (pc' := 5) rfl rfl rfl ?_
                    have e1699 := (F1690.cell (by decide) (F1672.cell (by decide) (F1663.cell (by decide) (F1651.cell (by decide) (F1636.cell (by decide) (F1481.cell (by decide) (F1472.cell (by decide) (F1467.cell (by decide) (F1462.cell (by decide) (F1457.cell (by decide) (F1452.cell (by decide) (F1439.cell (by decide) (F1426.cell (by decide) e3)))))))))))))
                    refine pm_R_iald pm_M185 (pc' := 6) (v := (f2 0)) rfl e1699 (Nat.lt_of_lt_of_le (by decide) T1689.1) rfl rfl rfl ?_
                    refine pm_R_lo pm_M185 (pc' := 8) (ls' := [.ref 41, .int 0, .int 1, .int 3, .int 8, .int 0, .int (f2 0), pm_no]) (st' := []) rfl rfl rfl ?_
                    refine pm_R_lo pm_M185 (pc' := 10) rfl rfl rfl ?_
                    refine pm_R_lo pm_M185 (pc' := 12) rfl rfl rfl ?_
                    refine pm_R_icmp pm_M185 (t := 16) (pc' := 15) rfl rfl rfl (fun c1702 => absurd (sf_pt2 B1419 sf_k8) c1702) (fun c1702 => ?_)
                    refine pm_R_ret pm_M185 (r := none) rfl rfl ?_
                    show pm_R _ 192 173 [.ref 41, .long a0, pm_no, .int a1, .int 3] [] _ _
                    refine pm_R_op pm_M192 (pc' := 174) (st' := [.int 1]) (pm_q192_1 (Nat.le_of_ble_eq_true rfl)) rfl rfl ?_
                    have B1703 : sf_B 0 600 (m1686 10) := T1689.2.2.1 10
                    exact pm_R_ret pm_M192 (r := some (.int 1)) (pm_q192_1 (Nat.le_of_ble_eq_true rfl)) rfl (K1 m1686 w1687 h1688 T1689 F1694 W1698 (⟨f2, e1699, ct4, fun z => (sf_pos B1695 (by decide) z)⟩) (sf_aux118 _ _ _ _ _ _ X1441 X1638 X1692))
                  · have B1704 : sf_B 0 9 (m1632 14) := sf_leL (Int32.not_lt.mp c1654) B1647 sf_k9
                    refine pm_R_lo pm_M183 (pc' := 32) rfl rfl rfl ?_
                    refine rf_R_get pm_M183 T1650 (pc' := 35) (v := .int (m1632 14)) rfl rfl rfl rfl ?_
                    refine pm_R_lo pm_M183 (pc' := 36) rfl rfl rfl ?_
                    refine pm_R_icmp pm_M183 (t := 53) (pc' := 39) rfl rfl rfl (fun c1705 => ?_) (fun c1705 => absurd (Classical.not_not.mp c1705) (sf_neq1 B1704 sf_kn1 (by decide)))
                    skip
                    refine pm_R_lo pm_M183 (pc' := 54) rfl rfl rfl ?_
                    refine pm_R_cv pm_M183 (pc' := 57) (a := 41) (ra := []) (rest := []) (ls' := [.ref 41, pm_no, pm_no]) rfl rfl (Or.inl rfl) pm_M179 T1650.2.1 rfl (by decide) (Nat.lt_of_lt_of_le (by decide) T1650.1) rfl rfl (Nat.le_of_ble_eq_true rfl) rfl rfl ?_
                    have B1706 : sf_B 0 600 (m1632 10) := T1650.2.2.1 10
                    refine rf_c179 (d := d + 0) T1650  (fun m1709 w1710 h1711 T1712 F1713 W1714 X1715 X1716 => ?_)
                    have F1717 := F1653.trans F1713 (by decide)
                    have B1718 : sf_B 1 4 (m1709 17) := by rw [W1714 17 (by decide)]; exact B1641
                    have ek1719 : (m1709 17).toInt = ((m1422 17)).toInt := by rw [W1714 17 (by decide)]; exact ek1642
                    have W1720 : rf_W [10, 12, 13, 14, 16, 17, 18, 22] m m1709 := W1643.trans W1714 (by decide)
                    show pm_R _ 183 57 [.ref 41, .int 2, .int 9, .int (-1)] [] _ _
                    refine pm_R_op pm_M183 (pc' := 58) (st' := [.int 1]) rfl rfl rfl ?_
                    refine pm_R_ret pm_M183 (r := some (.int 1)) rfl rfl ?_
                    show pm_R _ 192 158 [.ref 41, .long a0, pm_no, .int a1, .int 3] [.int 1] _ _
                    refine pm_R_br pm_M192 (pc' := 163) (st' := []) (pm_q192_1 (Nat.le_of_ble_eq_true rfl)) rfl ?_
                    refine pm_R_lo pm_M192 (pc' := 164) (pm_q192_1 (Nat.le_of_ble_eq_true rfl)) rfl rfl ?_
                    refine pm_R_op pm_M192 (pc' := 165) (st' := [.int 0, .ref 41]) (pm_q192_1 (Nat.le_of_ble_eq_true rfl)) rfl rfl ?_
                    refine pm_R_op pm_M192 (pc' := 166) (st' := [.int 1, .int 0, .ref 41]) (pm_q192_1 (Nat.le_of_ble_eq_true rfl)) rfl rfl ?_
                    refine pm_R_op pm_M192 (pc' := 167) (st' := [.int 3, .int 1, .int 0, .ref 41]) (pm_q192_1 (Nat.le_of_ble_eq_true rfl)) rfl rfl ?_
                    refine pm_R_op pm_M192 (pc' := 169) (st' := [.int 8, .int 3, .int 1, .int 0, .ref 41]) (pm_q192_1 (Nat.le_of_ble_eq_true rfl)) rfl rfl ?_
                    refine pm_R_op pm_M192 (pc' := 170) (st' := [.int 0, .int 8, .int 3, .int 1, .int 0, .ref 41]) (pm_q192_1 (Nat.le_of_ble_eq_true rfl)) rfl rfl ?_
                    refine pm_R_cv pm_M192 (pc' := 173) (a := 41) (ra := [.int 0, .int 8, .int 3, .int 1, .int 0]) (rest := []) (ls' := [.ref 41, .int 0, .int 1, .int 3, .int 8, .int 0, pm_no, pm_no]) (pm_q192_1 (Nat.le_of_ble_eq_true rfl)) rfl (Or.inl rfl) pm_M185 T1712.2.1 rfl (by decide) (Nat.lt_of_lt_of_le (by decide) T1712.1) rfl rfl (Nat.le_of_ble_eq_true rfl) rfl rfl ?_
                    refine pm_R_lo pm_M185 (pc' := 1) rfl rfl rfl ?_
                    refine rf_R_get pm_M185 T1712 (pc' := 4) (v := .ref 51) rfl rfl rfl rfl ?_
                    refine pm_R_lo pm_M185 (pc' := 5) rfl rfl rfl ?_
                    have e1721 := (F1713.cell (by decide) (F1651.cell (by decide) (F1636.cell (by decide) (F1481.cell (by decide) (F1472.cell (by decide) (F1467.cell (by decide) (F1462.cell (by decide) (F1457.cell (by decide) (F1452.cell (by decide) (F1439.cell (by decide) (F1426.cell (by decide) e3)))))))))))
                    refine pm_R_iald pm_M185 (pc' := 6) (v := (f2 0)) rfl e1721 (Nat.lt_of_lt_of_le (by decide) T1712.1) rfl rfl rfl ?_
                    refine pm_R_lo pm_M185 (pc' := 8) (ls' := [.ref 41, .int 0, .int 1, .int 3, .int 8, .int 0, .int (f2 0), pm_no]) (st' := []) rfl rfl rfl ?_
                    refine pm_R_lo pm_M185 (pc' := 10) rfl rfl rfl ?_
                    refine pm_R_lo pm_M185 (pc' := 12) rfl rfl rfl ?_
                    refine pm_R_icmp pm_M185 (t := 16) (pc' := 15) rfl rfl rfl (fun c1724 => absurd (sf_pt2 B1419 sf_k8) c1724) (fun c1724 => ?_)
                    refine pm_R_ret pm_M185 (r := none) rfl rfl ?_
                    show pm_R _ 192 173 [.ref 41, .long a0, pm_no, .int a1, .int 3] [] _ _
                    refine pm_R_op pm_M192 (pc' := 174) (st' := [.int 1]) (pm_q192_1 (Nat.le_of_ble_eq_true rfl)) rfl rfl ?_
                    have B1725 : sf_B 0 600 (m1709 10) := T1712.2.2.1 10
                    exact pm_R_ret pm_M192 (r := some (.int 1)) (pm_q192_1 (Nat.le_of_ble_eq_true rfl)) rfl (K1 m1709 w1710 h1711 T1712 F1717 W1720 (⟨f2, e1721, ct4, fun z => (sf_pos B1718 (by decide) z)⟩) (sf_aux125 _ _ _ _ _ X1441 X1638 X1715))
                · skip
                  refine pm_R_lo pm_M183 (pc' := 9) rfl rfl rfl ?_
                  refine pm_R_cv pm_M183 (pc' := 12) (a := 41) (ra := []) (rest := []) (ls' := [.ref 41]) rfl rfl (Or.inl rfl) pm_M184 T1635.2.1 rfl (by decide) (Nat.lt_of_lt_of_le (by decide) T1635.1) rfl rfl (Nat.le_of_ble_eq_true rfl) rfl rfl ?_
                  refine pm_R_lo pm_M184 (pc' := 1) rfl rfl rfl ?_
                  refine pm_R_lo pm_M184 (pc' := 2) rfl rfl rfl ?_
                  have B1726 : sf_B 0 600 (m1632 12) := T1635.2.2.1 12
                  refine rf_R_get pm_M184 T1635 (pc' := 5) (v := .int (m1632 12)) rfl rfl rfl rfl ?_
                  refine rf_R_put pm_M184 T1635 (pc' := 8) rfl rfl rfl (by decide) rfl rfl B1726 rfl rfl (fun h1727 m1730 em1731 T1728 F1729 => ?_)
                  have F1732 := F1640.trans F1729 (by decide)
                  have B1733 : sf_B 1 4 (m1730 17) := by rw [em1731]; exact B1641
                  have ek1734 : (m1730 17).toInt = ((m1422 17)).toInt := by rw [em1731]; exact ek1642
                  have B1735 : sf_B 0 600 (m1730 16) := by rw [em1731]; exact B1726
                  have ek1736 : (m1730 16).toInt = ((m1632 12)).toInt := by rw [em1731]; rfl
                  have W1737 : rf_W [10, 12, 13, 14, 16, 17, 18, 22] m m1730 := by rw [em1731]; exact W1643.put (by decide)
                  refine pm_R_op pm_M184 (pc' := 9) (st' := [.int 0]) rfl rfl rfl ?_
                  refine pm_R_ret pm_M184 (r := some (.int 0)) rfl rfl ?_
                  show pm_R _ 183 12 [.ref 41, .int 2, .int 9, .int (-1)] [.int 0] _ _
                  refine pm_R_ret pm_M183 (r := some (.int 0)) rfl rfl ?_
                  show pm_R _ 192 158 [.ref 41, .long a0, pm_no, .int a1, .int 3] [.int 0] _ _
                  refine pm_R_br pm_M192 (pc' := 161) (st' := []) (pm_q192_1 (Nat.le_of_ble_eq_true rfl)) rfl ?_
                  refine pm_R_op pm_M192 (pc' := 162) (st' := [.int 0]) (pm_q192_1 (Nat.le_of_ble_eq_true rfl)) rfl rfl ?_
                  have B1738 : sf_B 0 600 (m1730 10) := T1728.2.2.1 10
                  exact pm_R_ret pm_M192 (r := some (.int 0)) (pm_q192_1 (Nat.le_of_ble_eq_true rfl)) rfl (K0 m1730 w1633 h1727 T1728 F1732 W1737 (sf_aux75 _ _ _ _ _ X1441 X1638))
            · skip
              refine pm_R_lo pm_M183 (pc' := 9) rfl rfl rfl ?_
              refine pm_R_cv pm_M183 (pc' := 12) (a := 41) (ra := []) (rest := []) (ls' := [.ref 41]) rfl rfl (Or.inl rfl) pm_M184 T1471.2.1 rfl (by decide) (Nat.lt_of_lt_of_le (by decide) T1471.1) rfl rfl (Nat.le_of_ble_eq_true rfl) rfl rfl ?_
              refine pm_R_lo pm_M184 (pc' := 1) rfl rfl rfl ?_
              refine pm_R_lo pm_M184 (pc' := 2) rfl rfl rfl ?_
              have B1739 : sf_B 0 600 (m1435 12) := T1471.2.2.1 12
              refine rf_R_get pm_M184 T1471 (pc' := 5) (v := .int (m1435 12)) rfl rfl rfl rfl ?_
              refine rf_R_put pm_M184 T1471 (pc' := 8) rfl rfl rfl (by decide) rfl rfl B1739 rfl rfl (fun h1740 m1743 em1744 T1741 F1742 => ?_)
              have F1745 := F1474.trans F1742 (by decide)
              have B1746 : sf_B 1 4 (m1743 17) := by rw [em1744]; exact B1444
              have ek1747 : (m1743 17).toInt = ((m1422 17)).toInt := by rw [em1744]; exact ek1445
              have B1748 : sf_B 0 600 (m1743 16) := by rw [em1744]; exact B1739
              have ek1749 : (m1743 16).toInt = ((m1435 12)).toInt := by rw [em1744]; rfl
              have W1750 : rf_W [10, 12, 13, 14, 16, 17, 18, 22] m m1743 := by rw [em1744]; exact W1446.put (by decide)
              refine pm_R_op pm_M184 (pc' := 9) (st' := [.int 0]) rfl rfl rfl ?_
              refine pm_R_ret pm_M184 (r := some (.int 0)) rfl rfl ?_
              show pm_R _ 183 12 [.ref 41, .int 1, .int 9, .int (-1)] [.int 0] _ _
              refine pm_R_ret pm_M183 (r := some (.int 0)) rfl rfl ?_
              show pm_R _ 192 127 [.ref 41, .long a0, pm_no, .int a1, .int 3] [.int 0] _ _
              refine pm_R_br pm_M192 (pc' := 130) (st' := []) (pm_q192_1 (Nat.le_of_ble_eq_true rfl)) rfl ?_
              refine pm_R_op pm_M192 (pc' := 131) (st' := [.int 0]) (pm_q192_1 (Nat.le_of_ble_eq_true rfl)) rfl rfl ?_
              have B1751 : sf_B 0 600 (m1743 10) := T1741.2.2.1 10
              exact pm_R_ret pm_M192 (r := some (.int 0)) (pm_q192_1 (Nat.le_of_ble_eq_true rfl)) rfl (K0 m1743 w1436 h1740 T1741 F1745 W1750 (sf_aux76 _ _ _ _ X1441))
      · have B1752 : sf_B 0 0 z15 := sf_eqL (Classical.not_not.mp c17) sf_k0
        have B1753 : lf_B 478660552050 478660552050 a0 := lf_eqB e16 B1752 (⟨by decide, by decide⟩ : lf_B 478660552050 478660552050 478660552050)
        refine pm_R_op pm_M192 (pc' := 33) (st' := [.int 2]) rfl rfl rfl ?_
        refine pm_R_br pm_M192 (pc' := 73) rfl rfl ?_
        refine pm_R_lo pm_M192 (pc' := 75) (ls' := [.ref 41, .long a0, pm_no, .int a1, .int 2]) (st' := []) rfl rfl rfl ?_
        refine pm_R_lo pm_M192 (pc' := 77) rfl rfl rfl ?_
        refine pm_R_op pm_M192 (pc' := 78) (st' := [.int (-1), .int 2]) rfl rfl rfl ?_
        refine pm_R_br pm_M192 (pc' := 86) (st' := []) rfl rfl ?_
        refine pm_R_lo pm_M192 (pc' := 87) rfl rfl rfl ?_
        refine rf_R_get pm_M192 T (pc' := 90) (v := .ref 51) rfl rfl rfl rfl ?_
        refine pm_R_op pm_M192 (pc' := 91) (st' := [.int 0, .ref 51]) rfl rfl rfl ?_
        refine pm_R_iald pm_M192 (pc' := 92) (v := (f2 0)) rfl e3 (Nat.lt_of_lt_of_le (by decide) T.1) rfl rfl rfl ?_
        refine pm_R_op pm_M192 (pc' := 94) (st' := [.int 8, .int (f2 0)]) rfl rfl rfl ?_
        refine pm_R_icmp pm_M192 (t := 103) (pc' := 97) rfl rfl rfl (fun c1756 => ?_) (fun c1756 => ?_)
        · have B1757 : sf_B 0 7 (f2 0) := sf_neH0 c1756 sf_k8 ct4
          refine pm_R_lo pm_M192 (pc' := 104) rfl rfl rfl ?_
          refine pm_R_cv pm_M192 (pc' := 107) (a := 41) (ra := []) (rest := []) (ls' := [.ref 41, pm_no, pm_no]) rfl rfl (Or.inl rfl) pm_M179 T.2.1 rfl (by decide) (Nat.lt_of_lt_of_le (by decide) T.1) rfl rfl (Nat.le_of_ble_eq_true rfl) rfl rfl ?_
          refine rf_c179 (d := d + 1) T  (fun m1760 w1761 h1762 T1763 F1764 W1765 X1766 X1767 => ?_)
          have F1768 := (rf_G.refl [41, 51, 52] h).trans F1764 (by decide)
          have B1769 : sf_B 0 4 (m1760 17) := by rw [W1765 17 (by decide)]; exact B6
          have ek1770 : (m1760 17).toInt = ((m 17)).toInt := by rw [W1765 17 (by decide)]
          have W1771 : rf_W [10, 12, 13, 14, 16, 17, 18, 22] m m1760 := (rf_W.refl [10, 12, 13, 14, 16, 17, 18, 22] m).trans W1765 (by decide)
          show pm_R _ 192 107 [.ref 41, .long a0, pm_no, .int a1, .int 2] [] _ _
          refine pm_R_lo pm_M192 (pc' := 108) rfl rfl rfl ?_
          refine pm_R_cv pm_M192 (pc' := 111) (a := 41) (ra := []) (rest := []) (ls' := [.ref 41, pm_no]) rfl rfl (Or.inl rfl) pm_M190 T1763.2.1 rfl (by decide) (Nat.lt_of_lt_of_le (by decide) T1763.1) rfl rfl (Nat.le_of_ble_eq_true rfl) rfl rfl ?_
          refine pm_R_op pm_M190 (pc' := 1) (st' := [.int 0]) rfl rfl rfl ?_
          refine pm_R_lo pm_M190 (pc' := 2) (ls' := [.ref 41, .int 0]) (st' := []) rfl rfl rfl ?_
          refine pm_R_lo pm_M190 (pc' := 3) rfl rfl rfl ?_
          refine pm_R_op pm_M190 (pc' := 4) (st' := [.int 4, .int 0]) rfl rfl rfl ?_
          refine pm_R_br pm_M190 (pc' := 7) (st' := []) rfl rfl ?_
          refine pm_R_lo pm_M190 (pc' := 8) rfl rfl rfl ?_
          refine rf_R_get pm_M190 T1763 (pc' := 11) (v := .ref 52) rfl rfl rfl rfl ?_
          refine pm_R_lo pm_M190 (pc' := 12) rfl rfl rfl ?_
          refine pm_R_op pm_M190 (pc' := 13) (st' := [.int (-1), .int 0, .ref 52]) rfl rfl rfl ?_
          obtain ⟨f1772, e1773, b1774⟩ := T1763.2.2.2.1 52 (by decide) (by decide)
          refine rf_R_ist pm_M190 T1763 (pc' := 14) rfl e1773 (by decide) (by decide) rfl ⟨_, rfl, sf_upd b1774 (sf_weak sf_kn1 (by decide) (by decide)) _⟩ rfl (fun h1775 T1776 F1777 e1778 => ?_)
          have F1779 := F1768.trans F1777 (by decide)
          refine pm_R_lo pm_M190 (pc' := 17) (ls' := [.ref 41, .int 1]) (st' := []) rfl rfl rfl ?_
          refine pm_R_br pm_M190 (pc' := 2) rfl rfl ?_
          refine pm_R_lo pm_M190 (pc' := 3) rfl rfl rfl ?_
          refine pm_R_op pm_M190 (pc' := 4) (st' := [.int 4, .int 1]) rfl rfl rfl ?_
          refine pm_R_br pm_M190 (pc' := 7) (st' := []) rfl rfl ?_
          refine pm_R_lo pm_M190 (pc' := 8) rfl rfl rfl ?_
          refine rf_R_get pm_M190 T1776 (pc' := 11) (v := .ref 52) rfl rfl rfl rfl ?_
          refine pm_R_lo pm_M190 (pc' := 12) rfl rfl rfl ?_
          refine pm_R_op pm_M190 (pc' := 13) (st' := [.int (-1), .int 1, .ref 52]) rfl rfl rfl ?_
          refine rf_R_ist pm_M190 T1776 (pc' := 14) rfl e1778 (by decide) (by decide) rfl ⟨_, rfl, sf_upd (sf_upd b1774 (sf_weak sf_kn1 (by decide) (by decide)) _) (sf_weak sf_kn1 (by decide) (by decide)) _⟩ rfl (fun h1780 T1781 F1782 e1783 => ?_)
          have F1784 := F1779.trans F1782 (by decide)
          refine pm_R_lo pm_M190 (pc' := 17) (ls' := [.ref 41, .int 2]) (st' := []) rfl rfl rfl ?_
          refine pm_R_br pm_M190 (pc' := 2) rfl rfl ?_
          refine pm_R_lo pm_M190 (pc' := 3) rfl rfl rfl ?_
          refine pm_R_op pm_M190 (pc' := 4) (st' := [.int 4, .int 2]) rfl rfl rfl ?_
          refine pm_R_br pm_M190 (pc' := 7) (st' := []) rfl rfl ?_
          refine pm_R_lo pm_M190 (pc' := 8) rfl rfl rfl ?_
          refine rf_R_get pm_M190 T1781 (pc' := 11) (v := .ref 52) rfl rfl rfl rfl ?_
          refine pm_R_lo pm_M190 (pc' := 12) rfl rfl rfl ?_
          refine pm_R_op pm_M190 (pc' := 13) (st' := [.int (-1), .int 2, .ref 52]) rfl rfl rfl ?_
          refine rf_R_ist pm_M190 T1781 (pc' := 14) rfl e1783 (by decide) (by decide) rfl ⟨_, rfl, sf_upd (sf_upd (sf_upd b1774 (sf_weak sf_kn1 (by decide) (by decide)) _) (sf_weak sf_kn1 (by decide) (by decide)) _) (sf_weak sf_kn1 (by decide) (by decide)) _⟩ rfl (fun h1785 T1786 F1787 e1788 => ?_)
          have F1789 := F1784.trans F1787 (by decide)
          refine pm_R_lo pm_M190 (pc' := 17) (ls' := [.ref 41, .int 3]) (st' := []) rfl rfl rfl ?_
          refine pm_R_br pm_M190 (pc' := 2) rfl rfl ?_
          refine pm_R_lo pm_M190 (pc' := 3) rfl rfl rfl ?_
          refine pm_R_op pm_M190 (pc' := 4) (st' := [.int 4, .int 3]) rfl rfl rfl ?_
          refine pm_R_br pm_M190 (pc' := 7) (st' := []) rfl rfl ?_
          refine pm_R_lo pm_M190 (pc' := 8) rfl rfl rfl ?_
          refine rf_R_get pm_M190 T1786 (pc' := 11) (v := .ref 52) rfl rfl rfl rfl ?_
          refine pm_R_lo pm_M190 (pc' := 12) rfl rfl rfl ?_
          refine pm_R_op pm_M190 (pc' := 13) (st' := [.int (-1), .int 3, .ref 52]) rfl rfl rfl ?_
          refine rf_R_ist pm_M190 T1786 (pc' := 14) rfl e1788 (by decide) (by decide) rfl ⟨_, rfl, sf_upd (sf_upd (sf_upd (sf_upd b1774 (sf_weak sf_kn1 (by decide) (by decide)) _) (sf_weak sf_kn1 (by decide) (by decide)) _) (sf_weak sf_kn1 (by decide) (by decide)) _) (sf_weak sf_kn1 (by decide) (by decide)) _⟩ rfl (fun h1790 T1791 F1792 e1793 => ?_)
          have F1794 := F1789.trans F1792 (by decide)
          refine pm_R_lo pm_M190 (pc' := 17) (ls' := [.ref 41, .int 4]) (st' := []) rfl rfl rfl ?_
          refine pm_R_br pm_M190 (pc' := 2) rfl rfl ?_
          refine pm_R_lo pm_M190 (pc' := 3) rfl rfl rfl ?_
          refine pm_R_op pm_M190 (pc' := 4) (st' := [.int 4, .int 4]) rfl rfl rfl ?_
          refine pm_R_br pm_M190 (pc' := 20) (st' := []) rfl rfl ?_
          refine pm_R_ret pm_M190 (r := none) rfl rfl ?_
          show pm_R _ 192 111 [.ref 41, .long a0, pm_no, .int a1, .int 2] [] _ _
          refine pm_R_lo pm_M192 (pc' := 112) rfl rfl rfl ?_
          refine rf_R_get pm_M192 T1791 (pc' := 115) (v := .ref 52) rfl rfl rfl rfl ?_
          refine pm_R_op pm_M192 (pc' := 116) (st' := [.int 0, .ref 52]) (pm_q192_1 (Nat.le_of_ble_eq_true rfl)) rfl rfl ?_
          refine pm_R_lo pm_M192 (pc' := 118) (pm_q192_1 (Nat.le_of_ble_eq_true rfl)) rfl rfl ?_
          refine rf_R_ist pm_M192 T1791 (pc' := 119) (pm_q192_1 (Nat.le_of_ble_eq_true rfl)) e1793 (by decide) (by decide) rfl ⟨_, rfl, sf_upd (sf_upd (sf_upd (sf_upd (sf_upd b1774 (sf_weak sf_kn1 (by decide) (by decide)) _) (sf_weak sf_kn1 (by decide) (by decide)) _) (sf_weak sf_kn1 (by decide) (by decide)) _) (sf_weak sf_kn1 (by decide) (by decide)) _) (sf_weak sf_k2 (by decide) (by decide)) _⟩ rfl (fun h1795 T1796 F1797 e1798 => ?_)
          have F1799 := F1794.trans F1797 (by decide)
          refine pm_R_lo pm_M192 (pc' := 120) (pm_q192_1 (Nat.le_of_ble_eq_true rfl)) rfl rfl ?_
          refine pm_R_op pm_M192 (pc' := 121) (st' := [.int 1, .ref 41]) (pm_q192_1 (Nat.le_of_ble_eq_true rfl)) rfl rfl ?_
          refine pm_R_op pm_M192 (pc' := 123) (st' := [.int 9, .int 1, .ref 41]) (pm_q192_1 (Nat.le_of_ble_eq_true rfl)) rfl rfl ?_
          refine pm_R_op pm_M192 (pc' := 124) (st' := [.int (-1), .int 9, .int 1, .ref 41]) (pm_q192_1 (Nat.le_of_ble_eq_true rfl)) rfl rfl ?_
          refine pm_R_cv pm_M192 (pc' := 127) (a := 41) (ra := [.int (-1), .int 9, .int 1]) (rest := []) (ls' := [.ref 41, .int 1, .int 9, .int (-1)]) (pm_q192_1 (Nat.le_of_ble_eq_true rfl)) rfl (Or.inl rfl) pm_M183 T1796.2.1 rfl (by decide) (Nat.lt_of_lt_of_le (by decide) T1796.1) rfl rfl (Nat.le_of_ble_eq_true rfl) rfl rfl ?_
          refine pm_R_lo pm_M183 (pc' := 1) rfl rfl rfl ?_
          have B1800 : sf_B 0 4 (m1760 13) := T1796.2.2.1 13
          refine rf_R_get pm_M183 T1796 (pc' := 4) (v := .int (m1760 13)) rfl rfl rfl rfl ?_
          refine pm_R_op pm_M183 (pc' := 5) (st' := [.int 3, .int (m1760 13)]) rfl rfl rfl ?_
          refine pm_R_icmp pm_M183 (t := 13) (pc' := 8) rfl rfl rfl (fun c1801 => ?_) (fun c1801 => ?_)
          · have B1802 : sf_B 3 3 (m1760 13) := sf_eqL c1801 sf_k3
            refine pm_R_lo pm_M183 (pc' := 14) rfl rfl rfl ?_
            refine rf_R_get pm_M183 T1796 (pc' := 17) (v := .ref 52) rfl rfl rfl rfl ?_
            refine pm_R_lo pm_M183 (pc' := 18) rfl rfl rfl ?_
            refine pm_R_lo pm_M183 (pc' := 19) rfl rfl rfl ?_
            have B1803 : sf_B 0 99 (m1760 14) := T1796.2.2.1 14
            refine rf_R_get pm_M183 T1796 (pc' := 22) (v := .int (m1760 14)) rfl rfl rfl rfl ?_
            refine rf_R_ist pm_M183 T1796 (pc' := 23) rfl e1798 (by decide) (by decide) rfl ⟨_, rfl, sf_upd (sf_upd (sf_upd (sf_upd (sf_upd (sf_upd b1774 (sf_weak sf_kn1 (by decide) (by decide)) _) (sf_weak sf_kn1 (by decide) (by decide)) _) (sf_weak sf_kn1 (by decide) (by decide)) _) (sf_weak sf_kn1 (by decide) (by decide)) _) (sf_weak sf_k2 (by decide) (by decide)) _) (sf_weak B1803 (by decide) (by decide)) _⟩ rfl (fun h1804 T1805 F1806 e1807 => ?_)
            have F1808 := F1799.trans F1806 (by decide)
            refine pm_R_lo pm_M183 (pc' := 24) rfl rfl rfl ?_
            refine rf_R_get pm_M183 T1805 (pc' := 27) (v := .int (m1760 14)) rfl rfl rfl rfl ?_
            refine pm_R_lo pm_M183 (pc' := 28) rfl rfl rfl ?_
            refine pm_R_icmp pm_M183 (t := 39) (pc' := 31) rfl rfl rfl (fun c1809 => ?_) (fun c1809 => ?_)
            · have B1810 : sf_B 10 99 (m1760 14) := sf_ltR c1809 sf_k9 B1803
              refine pm_R_lo pm_M183 (pc' := 40) rfl rfl rfl ?_
              refine pm_R_op pm_M183 (pc' := 41) (st' := [.int 2, .ref 41]) rfl rfl rfl ?_
              refine pm_R_lo pm_M183 (pc' := 42) rfl rfl rfl ?_
              have B1811 : sf_B 0 600 (m1760 12) := T1805.2.2.1 12
              refine rf_R_get pm_M183 T1805 (pc' := 45) (v := .int (m1760 12)) rfl rfl rfl rfl ?_
              refine pm_R_cv pm_M183 (pc' := 48) (a := 41) (ra := [.int (m1760 12), .int 2]) (rest := []) (ls' := [.ref 41, .int 2, .int (m1760 12)]) rfl rfl (Or.inl rfl) pm_M182 T1805.2.1 rfl (by decide) (Nat.lt_of_lt_of_le (by decide) T1805.1) rfl rfl (Nat.le_of_ble_eq_true rfl) rfl rfl ?_
              refine rf_c182 (d := d + 1) T1805 (sf_weak sf_k2 (by decide) (by decide)) B1811 (fun m1814 w1815 h1816 T1817 F1818 W1819 B1820 => ?_)
              have F1821 := F1808.trans F1818 (by decide)
              have B1822 : sf_B 3 3 (m1814 13) := by rw [W1819 13 (by decide)]; exact B1802
              have B1823 : sf_B 10 99 (m1814 14) := by rw [W1819 14 (by decide)]; exact B1810
              have W1824 : rf_W [10, 12, 13, 14, 16, 17, 18, 22] m m1814 := W1771.trans W1819 (by decide)
              show pm_R _ 183 48 [.ref 41, .int 1, .int 9, .int (-1)] [] _ _
              refine pm_R_lo pm_M183 (pc' := 49) rfl rfl rfl ?_
              refine pm_R_op pm_M183 (pc' := 50) (st' := [.int 0, .ref 41]) rfl rfl rfl ?_
              refine rf_R_put pm_M183 T1817 (pc' := 53) rfl rfl rfl (by decide) rfl rfl (sf_weak sf_k0 (by decide) (by decide)) rfl rfl (fun h1825 m1828 em1829 T1826 F1827 => ?_)
              have F1830 := F1821.trans F1827 (by decide)
              have B1831 : sf_B 3 3 (m1828 13) := by rw [em1829]; exact B1822
              have B1832 : sf_B 10 99 (m1828 14) := by rw [em1829]; exact B1823
              have B1833 : sf_B 1 4 (m1828 17) := by rw [em1829]; exact B1820
              have ek1834 : (m1828 17).toInt = ((m1814 17)).toInt := by rw [em1829]; rfl
              have B1835 : sf_B 0 0 (m1828 22) := by rw [em1829]; exact sf_k0
              have W1837 : rf_W [10, 12, 13, 14, 16, 17, 18, 22] m m1828 := by rw [em1829]; exact W1824.put (by decide)
              refine pm_R_lo pm_M183 (pc' := 54) rfl rfl rfl ?_
              refine pm_R_cv pm_M183 (pc' := 57) (a := 41) (ra := []) (rest := []) (ls' := [.ref 41, pm_no, pm_no]) rfl rfl (Or.inl rfl) pm_M179 T1826.2.1 rfl (by decide) (Nat.lt_of_lt_of_le (by decide) T1826.1) rfl rfl (Nat.le_of_ble_eq_true rfl) rfl rfl ?_
              have B1838 : sf_B 0 600 (m1828 10) := T1826.2.2.1 10
              refine rf_c179 (d := d + 0) T1826  (fun m1841 w1842 h1843 T1844 F1845 W1846 X1847 X1848 => ?_)
              have F1849 := F1830.trans F1845 (by decide)
              have B1850 : sf_B 1 4 (m1841 17) := by rw [W1846 17 (by decide)]; exact B1833
              have ek1851 : (m1841 17).toInt = ((m1814 17)).toInt := by rw [W1846 17 (by decide)]; exact ek1834
              have B1852 : sf_B 0 0 (m1841 22) := by rw [W1846 22 (by decide)]; exact B1835
              have W1853 : rf_W [10, 12, 13, 14, 16, 17, 18, 22] m m1841 := W1837.trans W1846 (by decide)
              show pm_R _ 183 57 [.ref 41, .int 1, .int 9, .int (-1)] [] _ _
              refine pm_R_op pm_M183 (pc' := 58) (st' := [.int 1]) rfl rfl rfl ?_
              refine pm_R_ret pm_M183 (r := some (.int 1)) rfl rfl ?_
              show pm_R _ 192 127 [.ref 41, .long a0, pm_no, .int a1, .int 2] [.int 1] _ _
              refine pm_R_br pm_M192 (pc' := 132) (st' := []) (pm_q192_1 (Nat.le_of_ble_eq_true rfl)) rfl ?_
              refine pm_R_lo pm_M192 (pc' := 134) (pm_q192_1 (Nat.le_of_ble_eq_true rfl)) rfl rfl ?_
              refine pm_R_op pm_M192 (pc' := 135) (st' := [.int 1, .int 2]) (pm_q192_1 (Nat.le_of_ble_eq_true rfl)) rfl rfl ?_
              refine pm_R_br pm_M192 (pc' := 138) (st' := []) (pm_q192_1 (Nat.le_of_ble_eq_true rfl)) rfl ?_
              refine pm_R_lo pm_M192 (pc' := 140) (pm_q192_1 (Nat.le_of_ble_eq_true rfl)) rfl rfl ?_
              refine pm_R_op pm_M192 (pc' := 141) (st' := [.int 2, .int 2]) (pm_q192_1 (Nat.le_of_ble_eq_true rfl)) rfl rfl ?_
              refine pm_R_br pm_M192 (pc' := 150) (st' := []) (pm_q192_1 (Nat.le_of_ble_eq_true rfl)) rfl ?_
              refine pm_R_lo pm_M192 (pc' := 151) (pm_q192_1 (Nat.le_of_ble_eq_true rfl)) rfl rfl ?_
              refine pm_R_op pm_M192 (pc' := 152) (st' := [.int 2, .ref 41]) (pm_q192_1 (Nat.le_of_ble_eq_true rfl)) rfl rfl ?_
              refine pm_R_op pm_M192 (pc' := 154) (st' := [.int 9, .int 2, .ref 41]) (pm_q192_1 (Nat.le_of_ble_eq_true rfl)) rfl rfl ?_
              refine pm_R_op pm_M192 (pc' := 155) (st' := [.int (-1), .int 9, .int 2, .ref 41]) (pm_q192_1 (Nat.le_of_ble_eq_true rfl)) rfl rfl ?_
              refine pm_R_cv pm_M192 (pc' := 158) (a := 41) (ra := [.int (-1), .int 9, .int 2]) (rest := []) (ls' := [.ref 41, .int 2, .int 9, .int (-1)]) (pm_q192_1 (Nat.le_of_ble_eq_true rfl)) rfl (Or.inl rfl) pm_M183 T1844.2.1 rfl (by decide) (Nat.lt_of_lt_of_le (by decide) T1844.1) rfl rfl (Nat.le_of_ble_eq_true rfl) rfl rfl ?_
              refine pm_R_lo pm_M183 (pc' := 1) rfl rfl rfl ?_
              have B1854 : sf_B 0 4 (m1841 13) := T1844.2.2.1 13
              refine rf_R_get pm_M183 T1844 (pc' := 4) (v := .int (m1841 13)) rfl rfl rfl rfl ?_
              refine pm_R_op pm_M183 (pc' := 5) (st' := [.int 3, .int (m1841 13)]) rfl rfl rfl ?_
              refine pm_R_icmp pm_M183 (t := 13) (pc' := 8) rfl rfl rfl (fun c1855 => ?_) (fun c1855 => ?_)
              · have B1856 : sf_B 3 3 (m1841 13) := sf_eqL c1855 sf_k3
                refine pm_R_lo pm_M183 (pc' := 14) rfl rfl rfl ?_
                refine rf_R_get pm_M183 T1844 (pc' := 17) (v := .ref 52) rfl rfl rfl rfl ?_
                refine pm_R_lo pm_M183 (pc' := 18) rfl rfl rfl ?_
                refine pm_R_lo pm_M183 (pc' := 19) rfl rfl rfl ?_
                have B1857 : sf_B 0 99 (m1841 14) := T1844.2.2.1 14
                refine rf_R_get pm_M183 T1844 (pc' := 22) (v := .int (m1841 14)) rfl rfl rfl rfl ?_
                have e1858 := (F1845.cell (by decide) (F1827.cell (by decide) (F1818.cell (by decide) e1807)))
                refine rf_R_ist pm_M183 T1844 (pc' := 23) rfl e1858 (by decide) (by decide) rfl ⟨_, rfl, sf_upd (sf_upd (sf_upd (sf_upd (sf_upd (sf_upd (sf_upd b1774 (sf_weak sf_kn1 (by decide) (by decide)) _) (sf_weak sf_kn1 (by decide) (by decide)) _) (sf_weak sf_kn1 (by decide) (by decide)) _) (sf_weak sf_kn1 (by decide) (by decide)) _) (sf_weak sf_k2 (by decide) (by decide)) _) (sf_weak B1803 (by decide) (by decide)) _) (sf_weak B1857 (by decide) (by decide)) _⟩ rfl (fun h1859 T1860 F1861 e1862 => ?_)
                have F1863 := F1849.trans F1861 (by decide)
                refine pm_R_lo pm_M183 (pc' := 24) rfl rfl rfl ?_
                refine rf_R_get pm_M183 T1860 (pc' := 27) (v := .int (m1841 14)) rfl rfl rfl rfl ?_
                refine pm_R_lo pm_M183 (pc' := 28) rfl rfl rfl ?_
                refine pm_R_icmp pm_M183 (t := 39) (pc' := 31) rfl rfl rfl (fun c1864 => ?_) (fun c1864 => ?_)
                · have B1865 : sf_B 10 99 (m1841 14) := sf_ltR c1864 sf_k9 B1857
                  refine pm_R_lo pm_M183 (pc' := 40) rfl rfl rfl ?_
                  refine pm_R_op pm_M183 (pc' := 41) (st' := [.int 2, .ref 41]) rfl rfl rfl ?_
                  refine pm_R_lo pm_M183 (pc' := 42) rfl rfl rfl ?_
                  have B1866 : sf_B 0 600 (m1841 12) := T1860.2.2.1 12
                  refine rf_R_get pm_M183 T1860 (pc' := 45) (v := .int (m1841 12)) rfl rfl rfl rfl ?_
                  refine pm_R_cv pm_M183 (pc' := 48) (a := 41) (ra := [.int (m1841 12), .int 2]) (rest := []) (ls' := [.ref 41, .int 2, .int (m1841 12)]) rfl rfl (Or.inl rfl) pm_M182 T1860.2.1 rfl (by decide) (Nat.lt_of_lt_of_le (by decide) T1860.1) rfl rfl (Nat.le_of_ble_eq_true rfl) rfl rfl ?_
                  refine rf_c182 (d := d + 1) T1860 (sf_weak sf_k2 (by decide) (by decide)) B1866 (fun m1869 w1870 h1871 T1872 F1873 W1874 B1875 => ?_)
                  have F1876 := F1863.trans F1873 (by decide)
                  have B1877 : sf_B 0 0 (m1869 22) := by rw [W1874 22 (by decide)]; exact B1852
                  have B1878 : sf_B 3 3 (m1869 13) := by rw [W1874 13 (by decide)]; exact B1856
                  have B1879 : sf_B 10 99 (m1869 14) := by rw [W1874 14 (by decide)]; exact B1865
                  have W1880 : rf_W [10, 12, 13, 14, 16, 17, 18, 22] m m1869 := W1853.trans W1874 (by decide)
                  show pm_R _ 183 48 [.ref 41, .int 2, .int 9, .int (-1)] [] _ _
                  refine pm_R_lo pm_M183 (pc' := 49) rfl rfl rfl ?_
                  refine pm_R_op pm_M183 (pc' := 50) (st' := [.int 0, .ref 41]) rfl rfl rfl ?_
                  refine rf_R_put pm_M183 T1872 (pc' := 53) rfl rfl rfl (by decide) rfl rfl (sf_weak sf_k0 (by decide) (by decide)) rfl rfl (fun h1881 m1884 em1885 T1882 F1883 => ?_)
                  have F1886 := F1876.trans F1883 (by decide)
                  have B1887 : sf_B 3 3 (m1884 13) := by rw [em1885]; exact B1878
                  have B1888 : sf_B 10 99 (m1884 14) := by rw [em1885]; exact B1879
                  have B1889 : sf_B 1 4 (m1884 17) := by rw [em1885]; exact B1875
                  have ek1890 : (m1884 17).toInt = ((m1869 17)).toInt := by rw [em1885]; rfl
                  have B1891 : sf_B 0 0 (m1884 22) := by rw [em1885]; exact sf_k0
                  have W1893 : rf_W [10, 12, 13, 14, 16, 17, 18, 22] m m1884 := by rw [em1885]; exact W1880.put (by decide)
                  refine pm_R_lo pm_M183 (pc' := 54) rfl rfl rfl ?_
                  refine pm_R_cv pm_M183 (pc' := 57) (a := 41) (ra := []) (rest := []) (ls' := [.ref 41, pm_no, pm_no]) rfl rfl (Or.inl rfl) pm_M179 T1882.2.1 rfl (by decide) (Nat.lt_of_lt_of_le (by decide) T1882.1) rfl rfl (Nat.le_of_ble_eq_true rfl) rfl rfl ?_
                  have B1894 : sf_B 0 600 (m1884 10) := T1882.2.2.1 10
                  refine rf_c179 (d := d + 0) T1882  (fun m1897 w1898 h1899 T1900 F1901 W1902 X1903 X1904 => ?_)
                  have F1905 := F1886.trans F1901 (by decide)
                  have B1906 : sf_B 1 4 (m1897 17) := by rw [W1902 17 (by decide)]; exact B1889
                  have ek1907 : (m1897 17).toInt = ((m1869 17)).toInt := by rw [W1902 17 (by decide)]; exact ek1890
                  have B1908 : sf_B 0 0 (m1897 22) := by rw [W1902 22 (by decide)]; exact B1891
                  have W1909 : rf_W [10, 12, 13, 14, 16, 17, 18, 22] m m1897 := W1893.trans W1902 (by decide)
                  show pm_R _ 183 57 [.ref 41, .int 2, .int 9, .int (-1)] [] _ _
                  refine pm_R_op pm_M183 (pc' := 58) (st' := [.int 1]) rfl rfl rfl ?_
                  refine pm_R_ret pm_M183 (r := some (.int 1)) rfl rfl ?_
                  show pm_R _ 192 158 [.ref 41, .long a0, pm_no, .int a1, .int 2] [.int 1] _ _
                  refine pm_R_br pm_M192 (pc' := 163) (st' := []) (pm_q192_1 (Nat.le_of_ble_eq_true rfl)) rfl ?_
                  refine pm_R_lo pm_M192 (pc' := 164) (pm_q192_1 (Nat.le_of_ble_eq_true rfl)) rfl rfl ?_
                  refine pm_R_op pm_M192 (pc' := 165) (st' := [.int 0, .ref 41]) (pm_q192_1 (Nat.le_of_ble_eq_true rfl)) rfl rfl ?_
                  refine pm_R_op pm_M192 (pc' := 166) (st' := [.int 1, .int 0, .ref 41]) (pm_q192_1 (Nat.le_of_ble_eq_true rfl)) rfl rfl ?_
                  refine pm_R_op pm_M192 (pc' := 167) (st' := [.int 3, .int 1, .int 0, .ref 41]) (pm_q192_1 (Nat.le_of_ble_eq_true rfl)) rfl rfl ?_
                  refine pm_R_op pm_M192 (pc' := 169) (st' := [.int 8, .int 3, .int 1, .int 0, .ref 41]) (pm_q192_1 (Nat.le_of_ble_eq_true rfl)) rfl rfl ?_
                  refine pm_R_op pm_M192 (pc' := 170) (st' := [.int 0, .int 8, .int 3, .int 1, .int 0, .ref 41]) (pm_q192_1 (Nat.le_of_ble_eq_true rfl)) rfl rfl ?_
                  refine pm_R_cv pm_M192 (pc' := 173) (a := 41) (ra := [.int 0, .int 8, .int 3, .int 1, .int 0]) (rest := []) (ls' := [.ref 41, .int 0, .int 1, .int 3, .int 8, .int 0, pm_no, pm_no]) (pm_q192_1 (Nat.le_of_ble_eq_true rfl)) rfl (Or.inl rfl) pm_M185 T1900.2.1 rfl (by decide) (Nat.lt_of_lt_of_le (by decide) T1900.1) rfl rfl (Nat.le_of_ble_eq_true rfl) rfl rfl ?_
                  refine pm_R_lo pm_M185 (pc' := 1) rfl rfl rfl ?_
                  refine rf_R_get pm_M185 T1900 (pc' := 4) (v := .ref 51) rfl rfl rfl rfl ?_
                  refine pm_R_lo pm_M185 (pc' := 5) rfl rfl rfl ?_
                  have e1910 := (F1901.cell (by decide) (F1883.cell (by decide) (F1873.cell (by decide) (F1861.cell (by decide) (F1845.cell (by decide) (F1827.cell (by decide) (F1818.cell (by decide) (F1806.cell (by decide) (F1797.cell (by decide) (F1792.cell (by decide) (F1787.cell (by decide) (F1782.cell (by decide) (F1777.cell (by decide) (F1764.cell (by decide) e3))))))))))))))
                  refine pm_R_iald pm_M185 (pc' := 6) (v := (f2 0)) rfl e1910 (Nat.lt_of_lt_of_le (by decide) T1900.1) rfl rfl rfl ?_
                  refine pm_R_lo pm_M185 (pc' := 8) (ls' := [.ref 41, .int 0, .int 1, .int 3, .int 8, .int 0, .int (f2 0), pm_no]) (st' := []) rfl rfl rfl ?_
                  refine pm_R_lo pm_M185 (pc' := 10) rfl rfl rfl ?_
                  refine pm_R_lo pm_M185 (pc' := 12) rfl rfl rfl ?_
                  refine pm_R_icmp pm_M185 (t := 16) (pc' := 15) rfl rfl rfl (fun c1913 => ?_) (fun c1913 => absurd (Classical.not_not.mp c1913) (sf_neq2 B1757 sf_k8 (by decide)))
                  skip
                  refine pm_R_op pm_M185 (pc' := 17) (st' := [.int 0]) rfl rfl rfl ?_
                  refine pm_R_lo pm_M185 (pc' := 19) (ls' := [.ref 41, .int 0, .int 1, .int 3, .int 8, .int 0, .int (f2 0), .int 0]) (st' := []) rfl rfl rfl ?_
                  refine pm_R_lo pm_M185 (pc' := 21) rfl rfl rfl ?_
                  refine pm_R_lo pm_M185 (pc' := 22) rfl rfl rfl ?_
                  refine pm_R_br pm_M185 (pc' := 25) (st' := []) rfl rfl ?_
                  refine pm_R_lo pm_M185 (pc' := 26) rfl rfl rfl ?_
                  refine rf_R_get pm_M185 T1900 (pc' := 29) (v := .ref 51) rfl rfl rfl rfl ?_
                  refine pm_R_lo pm_M185 (pc' := 30) rfl rfl rfl ?_
                  refine pm_R_lo pm_M185 (pc' := 31) rfl rfl rfl ?_
                  refine pm_R_lo pm_M185 (pc' := 33) rfl rfl rfl ?_
                  refine sf_R_imul pm_M185 (pc' := 34) rfl rfl sf_k3 B1757 (by decide) (by decide) (by decide) (fun z1914 e1915 B1916 => ?_)
                  refine sf_R_iadd pm_M185 (pc' := 35) rfl rfl sf_k1 B1916 (by decide) (by decide) (fun z1917 e1918 B1919 => ?_)
                  refine pm_R_lo pm_M185 (pc' := 37) rfl rfl rfl ?_
                  refine sf_R_iadd pm_M185 (pc' := 38) rfl rfl B1919 sf_k0 (by decide) (by decide) (fun z1920 e1921 B1922 => ?_)
                  refine pm_R_lo pm_M185 (pc' := 39) rfl rfl rfl ?_
                  refine rf_R_get pm_M185 T1900 (pc' := 42) (v := .ref 52) rfl rfl rfl rfl ?_
                  refine pm_R_lo pm_M185 (pc' := 44) rfl rfl rfl ?_
                  refine pm_R_lo pm_M185 (pc' := 46) rfl rfl rfl ?_
                  refine pm_R_op pm_M185 (pc' := 47) (st' := [.int 0, .ref 52, .int z1920, .ref 51]) rfl rfl rfl ?_
                  have e1923 := (F1901.cell (by decide) (F1883.cell (by decide) (F1873.cell (by decide) e1862)))
                  refine pm_R_iald pm_M185 (pc' := 48) (v := 2) rfl e1923 (Nat.lt_of_lt_of_le (by decide) T1900.1) rfl (Eq.trans (show (upd (upd (upd (upd (upd (upd (upd f1772 (Int32.toNatClampNeg 0) (-1)) (Int32.toNatClampNeg 1) (-1)) (Int32.toNatClampNeg 2) (-1)) (Int32.toNatClampNeg 3) (-1)) (Int32.toNatClampNeg 0) 2) (Int32.toNatClampNeg 1) (m1760 14)) (Int32.toNatClampNeg 2) (m1841 14)) (Int32.toNatClampNeg 0) = (upd (upd (upd (upd (upd (upd f1772 (Int32.toNatClampNeg 0) (-1)) (Int32.toNatClampNeg 1) (-1)) (Int32.toNatClampNeg 2) (-1)) (Int32.toNatClampNeg 3) (-1)) (Int32.toNatClampNeg 0) 2) (Int32.toNatClampNeg 1) (m1760 14)) (Int32.toNatClampNeg 0) from rfl) (Eq.trans (show (upd (upd (upd (upd (upd (upd f1772 (Int32.toNatClampNeg 0) (-1)) (Int32.toNatClampNeg 1) (-1)) (Int32.toNatClampNeg 2) (-1)) (Int32.toNatClampNeg 3) (-1)) (Int32.toNatClampNeg 0) 2) (Int32.toNatClampNeg 1) (m1760 14)) (Int32.toNatClampNeg 0) = (upd (upd (upd (upd (upd f1772 (Int32.toNatClampNeg 0) (-1)) (Int32.toNatClampNeg 1) (-1)) (Int32.toNatClampNeg 2) (-1)) (Int32.toNatClampNeg 3) (-1)) (Int32.toNatClampNeg 0) 2) (Int32.toNatClampNeg 0) from rfl) rfl)) rfl ?_
                  refine rf_R_ist pm_M185 T1900 (pc' := 49) rfl e1910 (by decide) (by decide) (sf_in B1922 (by decide) (by decide)) ⟨_, rfl⟩ rfl (fun h1926 T1927 F1928 e1929 => ?_)
                  have F1930 := F1905.trans F1928 (by decide)
                  have ct1931 : rf_ct 3 (upd f2 (Int32.toNatClampNeg z1920) 2) := (sf_eqL (Eq.trans (sf_upd_ne (j := Int32.toNatClampNeg 0) B1922 (by decide) (by decide)) rfl) (sf_weak B1757 (by decide) (by decide)))
                  have bd1932 : (m1897 17).toInt = 0 → rf_bd 3 (upd f2 (Int32.toNatClampNeg z1920) 2) := fun z => (sf_pos B1906 (by decide) z)
                  refine pm_R_lo pm_M185 (pc' := 52) (ls' := [.ref 41, .int 0, .int 1, .int 3, .int 8, .int 0, .int (f2 0), .int 1]) (st' := []) rfl rfl rfl ?_
                  refine pm_R_br pm_M185 (pc' := 19) rfl rfl ?_
                  refine pm_R_lo pm_M185 (pc' := 21) rfl rfl rfl ?_
                  refine pm_R_lo pm_M185 (pc' := 22) rfl rfl rfl ?_
                  refine pm_R_br pm_M185 (pc' := 25) (st' := []) rfl rfl ?_
                  refine pm_R_lo pm_M185 (pc' := 26) rfl rfl rfl ?_
                  refine rf_R_get pm_M185 T1927 (pc' := 29) (v := .ref 51) rfl rfl rfl rfl ?_
                  refine pm_R_lo pm_M185 (pc' := 30) rfl rfl rfl ?_
                  refine pm_R_lo pm_M185 (pc' := 31) rfl rfl rfl ?_
                  refine pm_R_lo pm_M185 (pc' := 33) rfl rfl rfl ?_
                  refine sf_R_imulV pm_M185 (pc' := 34) rfl rfl sf_k3 B1757 (by decide) (by decide) (by decide) e1915 ?_
                  refine sf_R_iaddV pm_M185 (pc' := 35) rfl rfl sf_k1 B1916 (by decide) (by decide) e1918 ?_
                  refine pm_R_lo pm_M185 (pc' := 37) rfl rfl rfl ?_
                  refine sf_R_iadd pm_M185 (pc' := 38) rfl rfl B1919 sf_k1 (by decide) (by decide) (fun z1933 e1934 B1935 => ?_)
                  refine pm_R_lo pm_M185 (pc' := 39) rfl rfl rfl ?_
                  refine rf_R_get pm_M185 T1927 (pc' := 42) (v := .ref 52) rfl rfl rfl rfl ?_
                  refine pm_R_lo pm_M185 (pc' := 44) rfl rfl rfl ?_
                  refine pm_R_lo pm_M185 (pc' := 46) rfl rfl rfl ?_
                  refine pm_R_op pm_M185 (pc' := 47) (st' := [.int 1, .ref 52, .int z1933, .ref 51]) rfl rfl rfl ?_
                  have e1936 := (F1928.cell (by decide) e1923)
                  refine pm_R_iald pm_M185 (pc' := 48) (v := (m1760 14)) rfl e1936 (Nat.lt_of_lt_of_le (by decide) T1927.1) rfl (Eq.trans (show (upd (upd (upd (upd (upd (upd (upd f1772 (Int32.toNatClampNeg 0) (-1)) (Int32.toNatClampNeg 1) (-1)) (Int32.toNatClampNeg 2) (-1)) (Int32.toNatClampNeg 3) (-1)) (Int32.toNatClampNeg 0) 2) (Int32.toNatClampNeg 1) (m1760 14)) (Int32.toNatClampNeg 2) (m1841 14)) (Int32.toNatClampNeg 1) = (upd (upd (upd (upd (upd (upd f1772 (Int32.toNatClampNeg 0) (-1)) (Int32.toNatClampNeg 1) (-1)) (Int32.toNatClampNeg 2) (-1)) (Int32.toNatClampNeg 3) (-1)) (Int32.toNatClampNeg 0) 2) (Int32.toNatClampNeg 1) (m1760 14)) (Int32.toNatClampNeg 1) from rfl) rfl) rfl ?_
                  refine rf_R_ist pm_M185 T1927 (pc' := 49) rfl e1929 (by decide) (by decide) (sf_in B1935 (by decide) (by decide)) ⟨_, rfl⟩ rfl (fun h1939 T1940 F1941 e1942 => ?_)
                  have F1943 := F1930.trans F1941 (by decide)
                  have ct1944 : rf_ct 3 (upd (upd f2 (Int32.toNatClampNeg z1920) 2) (Int32.toNatClampNeg z1933) (m1760 14)) := (sf_eqL (Eq.trans (sf_upd_ne (j := Int32.toNatClampNeg 0) B1935 (by decide) (by decide)) (Eq.trans (sf_upd_ne (j := Int32.toNatClampNeg 0) B1922 (by decide) (by decide)) rfl)) (sf_weak B1757 (by decide) (by decide)))
                  have bd1945 : (m1897 17).toInt = 0 → rf_bd 3 (upd (upd f2 (Int32.toNatClampNeg z1920) 2) (Int32.toNatClampNeg z1933) (m1760 14)) := fun z => (sf_pos B1906 (by decide) z)
                  refine pm_R_lo pm_M185 (pc' := 52) (ls' := [.ref 41, .int 0, .int 1, .int 3, .int 8, .int 0, .int (f2 0), .int 2]) (st' := []) rfl rfl rfl ?_
                  refine pm_R_br pm_M185 (pc' := 19) rfl rfl ?_
                  refine pm_R_lo pm_M185 (pc' := 21) rfl rfl rfl ?_
                  refine pm_R_lo pm_M185 (pc' := 22) rfl rfl rfl ?_
                  refine pm_R_br pm_M185 (pc' := 25) (st' := []) rfl rfl ?_
                  refine pm_R_lo pm_M185 (pc' := 26) rfl rfl rfl ?_
                  refine rf_R_get pm_M185 T1940 (pc' := 29) (v := .ref 51) rfl rfl rfl rfl ?_
                  refine pm_R_lo pm_M185 (pc' := 30) rfl rfl rfl ?_
                  refine pm_R_lo pm_M185 (pc' := 31) rfl rfl rfl ?_
                  refine pm_R_lo pm_M185 (pc' := 33) rfl rfl rfl ?_
                  refine sf_R_imulV pm_M185 (pc' := 34) rfl rfl sf_k3 B1757 (by decide) (by decide) (by decide) e1915 ?_
                  refine sf_R_iaddV pm_M185 (pc' := 35) rfl rfl sf_k1 B1916 (by decide) (by decide) e1918 ?_
                  refine pm_R_lo pm_M185 (pc' := 37) rfl rfl rfl ?_
                  refine sf_R_iadd pm_M185 (pc' := 38) rfl rfl B1919 sf_k2 (by decide) (by decide) (fun z1946 e1947 B1948 => ?_)
                  refine pm_R_lo pm_M185 (pc' := 39) rfl rfl rfl ?_
                  refine rf_R_get pm_M185 T1940 (pc' := 42) (v := .ref 52) rfl rfl rfl rfl ?_
                  refine pm_R_lo pm_M185 (pc' := 44) rfl rfl rfl ?_
                  refine pm_R_lo pm_M185 (pc' := 46) rfl rfl rfl ?_
                  refine pm_R_op pm_M185 (pc' := 47) (st' := [.int 2, .ref 52, .int z1946, .ref 51]) rfl rfl rfl ?_
                  have e1949 := (F1941.cell (by decide) e1936)
                  refine pm_R_iald pm_M185 (pc' := 48) (v := (m1841 14)) rfl e1949 (Nat.lt_of_lt_of_le (by decide) T1940.1) rfl rfl rfl ?_
                  refine rf_R_ist pm_M185 T1940 (pc' := 49) rfl e1942 (by decide) (by decide) (sf_in B1948 (by decide) (by decide)) ⟨_, rfl⟩ rfl (fun h1952 T1953 F1954 e1955 => ?_)
                  have F1956 := F1943.trans F1954 (by decide)
                  have ct1957 : rf_ct 3 (upd (upd (upd f2 (Int32.toNatClampNeg z1920) 2) (Int32.toNatClampNeg z1933) (m1760 14)) (Int32.toNatClampNeg z1946) (m1841 14)) := (sf_eqL (Eq.trans (sf_upd_ne (j := Int32.toNatClampNeg 0) B1948 (by decide) (by decide)) (Eq.trans (sf_upd_ne (j := Int32.toNatClampNeg 0) B1935 (by decide) (by decide)) (Eq.trans (sf_upd_ne (j := Int32.toNatClampNeg 0) B1922 (by decide) (by decide)) rfl))) (sf_weak B1757 (by decide) (by decide)))
                  have bd1958 : (m1897 17).toInt = 0 → rf_bd 3 (upd (upd (upd f2 (Int32.toNatClampNeg z1920) 2) (Int32.toNatClampNeg z1933) (m1760 14)) (Int32.toNatClampNeg z1946) (m1841 14)) := fun z => (sf_pos B1906 (by decide) z)
                  refine pm_R_lo pm_M185 (pc' := 52) (ls' := [.ref 41, .int 0, .int 1, .int 3, .int 8, .int 0, .int (f2 0), .int 3]) (st' := []) rfl rfl rfl ?_
                  refine pm_R_br pm_M185 (pc' := 19) rfl rfl ?_
                  refine pm_R_lo pm_M185 (pc' := 21) rfl rfl rfl ?_
                  refine pm_R_lo pm_M185 (pc' := 22) rfl rfl rfl ?_
                  refine pm_R_br pm_M185 (pc' := 55) (st' := []) rfl rfl ?_
                  refine pm_R_lo pm_M185 (pc' := 56) rfl rfl rfl ?_
                  refine rf_R_get pm_M185 T1953 (pc' := 59) (v := .ref 51) rfl rfl rfl rfl ?_
                  refine pm_R_lo pm_M185 (pc' := 60) rfl rfl rfl ?_
                  refine pm_R_op pm_M185 (pc' := 61) (st' := [.int 0, .ref 51, .int 0, .ref 51]) rfl rfl rfl ?_
                  refine pm_R_iald pm_M185 (pc' := 62) (v := (f2 0)) rfl e1955 (Nat.lt_of_lt_of_le (by decide) T1953.1) rfl (Eq.trans (sf_upd_ne (j := Int32.toNatClampNeg 0) B1948 (by decide) (by decide)) (Eq.trans (sf_upd_ne (j := Int32.toNatClampNeg 0) B1935 (by decide) (by decide)) (Eq.trans (sf_upd_ne (j := Int32.toNatClampNeg 0) B1922 (by decide) (by decide)) rfl))) rfl ?_
                  refine pm_R_op pm_M185 (pc' := 63) (st' := [.int 1, .int (f2 0), .int 0, .ref 51]) rfl rfl rfl ?_
                  refine sf_R_iadd pm_M185 (pc' := 64) rfl rfl B1757 sf_k1 (by decide) (by decide) (fun z1961 e1962 B1963 => ?_)
                  refine rf_R_ist pm_M185 T1953 (pc' := 65) rfl e1955 (by decide) (by decide) rfl ⟨_, rfl⟩ rfl (fun h1964 T1965 F1966 e1967 => ?_)
                  have F1968 := F1956.trans F1966 (by decide)
                  have ct1969 : rf_ct 3 (upd (upd (upd (upd f2 (Int32.toNatClampNeg z1920) 2) (Int32.toNatClampNeg z1933) (m1760 14)) (Int32.toNatClampNeg z1946) (m1841 14)) (Int32.toNatClampNeg 0) z1961) := (sf_eqL rfl (sf_weak B1963 (by decide) (by decide)))
                  have bd1970 : (m1897 17).toInt = 0 → rf_bd 3 (upd (upd (upd (upd f2 (Int32.toNatClampNeg z1920) 2) (Int32.toNatClampNeg z1933) (m1760 14)) (Int32.toNatClampNeg z1946) (m1841 14)) (Int32.toNatClampNeg 0) z1961) := fun z => (sf_pos B1906 (by decide) z)
                  refine pm_R_ret pm_M185 (r := none) rfl rfl ?_
                  show pm_R _ 192 173 [.ref 41, .long a0, pm_no, .int a1, .int 2] [] _ _
                  refine pm_R_op pm_M192 (pc' := 174) (st' := [.int 1]) (pm_q192_1 (Nat.le_of_ble_eq_true rfl)) rfl rfl ?_
                  have B1971 : sf_B 0 600 (m1897 10) := T1965.2.2.1 10
                  exact pm_R_ret pm_M192 (r := some (.int 1)) (pm_q192_1 (Nat.le_of_ble_eq_true rfl)) rfl (K1 m1897 w1898 h1964 T1965 F1968 W1909 (⟨(upd (upd (upd (upd f2 (Int32.toNatClampNeg z1920) 2) (Int32.toNatClampNeg z1933) (m1760 14)) (Int32.toNatClampNeg z1946) (m1841 14)) (Int32.toNatClampNeg 0) z1961), e1967, ct1969, fun z => (sf_pos B1906 (by decide) z)⟩) (sf_aux108 _ _ _ _ _ _ X1766 X1847 X1903))
                · have B1972 : sf_B 0 9 (m1841 14) := sf_leL (Int32.not_lt.mp c1864) B1857 sf_k9
                  refine pm_R_lo pm_M183 (pc' := 32) rfl rfl rfl ?_
                  refine rf_R_get pm_M183 T1860 (pc' := 35) (v := .int (m1841 14)) rfl rfl rfl rfl ?_
                  refine pm_R_lo pm_M183 (pc' := 36) rfl rfl rfl ?_
                  refine pm_R_icmp pm_M183 (t := 53) (pc' := 39) rfl rfl rfl (fun c1973 => ?_) (fun c1973 => absurd (Classical.not_not.mp c1973) (sf_neq1 B1972 sf_kn1 (by decide)))
                  skip
                  refine pm_R_lo pm_M183 (pc' := 54) rfl rfl rfl ?_
                  refine pm_R_cv pm_M183 (pc' := 57) (a := 41) (ra := []) (rest := []) (ls' := [.ref 41, pm_no, pm_no]) rfl rfl (Or.inl rfl) pm_M179 T1860.2.1 rfl (by decide) (Nat.lt_of_lt_of_le (by decide) T1860.1) rfl rfl (Nat.le_of_ble_eq_true rfl) rfl rfl ?_
                  have B1974 : sf_B 0 600 (m1841 10) := T1860.2.2.1 10
                  refine rf_c179 (d := d + 0) T1860  (fun m1977 w1978 h1979 T1980 F1981 W1982 X1983 X1984 => ?_)
                  have F1985 := F1863.trans F1981 (by decide)
                  have B1986 : sf_B 1 4 (m1977 17) := by rw [W1982 17 (by decide)]; exact B1850
                  have ek1987 : (m1977 17).toInt = ((m1814 17)).toInt := by rw [W1982 17 (by decide)]; exact ek1851
                  have B1988 : sf_B 0 0 (m1977 22) := by rw [W1982 22 (by decide)]; exact B1852
                  have W1989 : rf_W [10, 12, 13, 14, 16, 17, 18, 22] m m1977 := W1853.trans W1982 (by decide)
                  show pm_R _ 183 57 [.ref 41, .int 2, .int 9, .int (-1)] [] _ _
                  refine pm_R_op pm_M183 (pc' := 58) (st' := [.int 1]) rfl rfl rfl ?_
                  refine pm_R_ret pm_M183 (r := some (.int 1)) rfl rfl ?_
                  show pm_R _ 192 158 [.ref 41, .long a0, pm_no, .int a1, .int 2] [.int 1] _ _
                  refine pm_R_br pm_M192 (pc' := 163) (st' := []) (pm_q192_1 (Nat.le_of_ble_eq_true rfl)) rfl ?_
                  refine pm_R_lo pm_M192 (pc' := 164) (pm_q192_1 (Nat.le_of_ble_eq_true rfl)) rfl rfl ?_
                  refine pm_R_op pm_M192 (pc' := 165) (st' := [.int 0, .ref 41]) (pm_q192_1 (Nat.le_of_ble_eq_true rfl)) rfl rfl ?_
                  refine pm_R_op pm_M192 (pc' := 166) (st' := [.int 1, .int 0, .ref 41]) (pm_q192_1 (Nat.le_of_ble_eq_true rfl)) rfl rfl ?_
                  refine pm_R_op pm_M192 (pc' := 167) (st' := [.int 3, .int 1, .int 0, .ref 41]) (pm_q192_1 (Nat.le_of_ble_eq_true rfl)) rfl rfl ?_
                  refine pm_R_op pm_M192 (pc' := 169) (st' := [.int 8, .int 3, .int 1, .int 0, .ref 41]) (pm_q192_1 (Nat.le_of_ble_eq_true rfl)) rfl rfl ?_
                  refine pm_R_op pm_M192 (pc' := 170) (st' := [.int 0, .int 8, .int 3, .int 1, .int 0, .ref 41]) (pm_q192_1 (Nat.le_of_ble_eq_true rfl)) rfl rfl ?_
                  refine pm_R_cv pm_M192 (pc' := 173) (a := 41) (ra := [.int 0, .int 8, .int 3, .int 1, .int 0]) (rest := []) (ls' := [.ref 41, .int 0, .int 1, .int 3, .int 8, .int 0, pm_no, pm_no]) (pm_q192_1 (Nat.le_of_ble_eq_true rfl)) rfl (Or.inl rfl) pm_M185 T1980.2.1 rfl (by decide) (Nat.lt_of_lt_of_le (by decide) T1980.1) rfl rfl (Nat.le_of_ble_eq_true rfl) rfl rfl ?_
                  refine pm_R_lo pm_M185 (pc' := 1) rfl rfl rfl ?_
                  refine rf_R_get pm_M185 T1980 (pc' := 4) (v := .ref 51) rfl rfl rfl rfl ?_
                  refine pm_R_lo pm_M185 (pc' := 5) rfl rfl rfl ?_
                  have e1990 := (F1981.cell (by decide) (F1861.cell (by decide) (F1845.cell (by decide) (F1827.cell (by decide) (F1818.cell (by decide) (F1806.cell (by decide) (F1797.cell (by decide) (F1792.cell (by decide) (F1787.cell (by decide) (F1782.cell (by decide) (F1777.cell (by decide) (F1764.cell (by decide) e3))))))))))))
                  refine pm_R_iald pm_M185 (pc' := 6) (v := (f2 0)) rfl e1990 (Nat.lt_of_lt_of_le (by decide) T1980.1) rfl rfl rfl ?_
                  refine pm_R_lo pm_M185 (pc' := 8) (ls' := [.ref 41, .int 0, .int 1, .int 3, .int 8, .int 0, .int (f2 0), pm_no]) (st' := []) rfl rfl rfl ?_
                  refine pm_R_lo pm_M185 (pc' := 10) rfl rfl rfl ?_
                  refine pm_R_lo pm_M185 (pc' := 12) rfl rfl rfl ?_
                  refine pm_R_icmp pm_M185 (t := 16) (pc' := 15) rfl rfl rfl (fun c1993 => ?_) (fun c1993 => absurd (Classical.not_not.mp c1993) (sf_neq2 B1757 sf_k8 (by decide)))
                  skip
                  refine pm_R_op pm_M185 (pc' := 17) (st' := [.int 0]) rfl rfl rfl ?_
                  refine pm_R_lo pm_M185 (pc' := 19) (ls' := [.ref 41, .int 0, .int 1, .int 3, .int 8, .int 0, .int (f2 0), .int 0]) (st' := []) rfl rfl rfl ?_
                  refine pm_R_lo pm_M185 (pc' := 21) rfl rfl rfl ?_
                  refine pm_R_lo pm_M185 (pc' := 22) rfl rfl rfl ?_
                  refine pm_R_br pm_M185 (pc' := 25) (st' := []) rfl rfl ?_
                  refine pm_R_lo pm_M185 (pc' := 26) rfl rfl rfl ?_
                  refine rf_R_get pm_M185 T1980 (pc' := 29) (v := .ref 51) rfl rfl rfl rfl ?_
                  refine pm_R_lo pm_M185 (pc' := 30) rfl rfl rfl ?_
                  refine pm_R_lo pm_M185 (pc' := 31) rfl rfl rfl ?_
                  refine pm_R_lo pm_M185 (pc' := 33) rfl rfl rfl ?_
                  refine sf_R_imul pm_M185 (pc' := 34) rfl rfl sf_k3 B1757 (by decide) (by decide) (by decide) (fun z1994 e1995 B1996 => ?_)
                  refine sf_R_iadd pm_M185 (pc' := 35) rfl rfl sf_k1 B1996 (by decide) (by decide) (fun z1997 e1998 B1999 => ?_)
                  refine pm_R_lo pm_M185 (pc' := 37) rfl rfl rfl ?_
                  refine sf_R_iadd pm_M185 (pc' := 38) rfl rfl B1999 sf_k0 (by decide) (by decide) (fun z2000 e2001 B2002 => ?_)
                  refine pm_R_lo pm_M185 (pc' := 39) rfl rfl rfl ?_
                  refine rf_R_get pm_M185 T1980 (pc' := 42) (v := .ref 52) rfl rfl rfl rfl ?_
                  refine pm_R_lo pm_M185 (pc' := 44) rfl rfl rfl ?_
                  refine pm_R_lo pm_M185 (pc' := 46) rfl rfl rfl ?_
                  refine pm_R_op pm_M185 (pc' := 47) (st' := [.int 0, .ref 52, .int z2000, .ref 51]) rfl rfl rfl ?_
                  have e2003 := (F1981.cell (by decide) e1862)
                  refine pm_R_iald pm_M185 (pc' := 48) (v := 2) rfl e2003 (Nat.lt_of_lt_of_le (by decide) T1980.1) rfl (Eq.trans (show (upd (upd (upd (upd (upd (upd (upd f1772 (Int32.toNatClampNeg 0) (-1)) (Int32.toNatClampNeg 1) (-1)) (Int32.toNatClampNeg 2) (-1)) (Int32.toNatClampNeg 3) (-1)) (Int32.toNatClampNeg 0) 2) (Int32.toNatClampNeg 1) (m1760 14)) (Int32.toNatClampNeg 2) (m1841 14)) (Int32.toNatClampNeg 0) = (upd (upd (upd (upd (upd (upd f1772 (Int32.toNatClampNeg 0) (-1)) (Int32.toNatClampNeg 1) (-1)) (Int32.toNatClampNeg 2) (-1)) (Int32.toNatClampNeg 3) (-1)) (Int32.toNatClampNeg 0) 2) (Int32.toNatClampNeg 1) (m1760 14)) (Int32.toNatClampNeg 0) from rfl) (Eq.trans (show (upd (upd (upd (upd (upd (upd f1772 (Int32.toNatClampNeg 0) (-1)) (Int32.toNatClampNeg 1) (-1)) (Int32.toNatClampNeg 2) (-1)) (Int32.toNatClampNeg 3) (-1)) (Int32.toNatClampNeg 0) 2) (Int32.toNatClampNeg 1) (m1760 14)) (Int32.toNatClampNeg 0) = (upd (upd (upd (upd (upd f1772 (Int32.toNatClampNeg 0) (-1)) (Int32.toNatClampNeg 1) (-1)) (Int32.toNatClampNeg 2) (-1)) (Int32.toNatClampNeg 3) (-1)) (Int32.toNatClampNeg 0) 2) (Int32.toNatClampNeg 0) from rfl) rfl)) rfl ?_
                  refine rf_R_ist pm_M185 T1980 (pc' := 49) rfl e1990 (by decide) (by decide) (sf_in B2002 (by decide) (by decide)) ⟨_, rfl⟩ rfl (fun h2006 T2007 F2008 e2009 => ?_)
                  have F2010 := F1985.trans F2008 (by decide)
                  have ct2011 : rf_ct 3 (upd f2 (Int32.toNatClampNeg z2000) 2) := (sf_eqL (Eq.trans (sf_upd_ne (j := Int32.toNatClampNeg 0) B2002 (by decide) (by decide)) rfl) (sf_weak B1757 (by decide) (by decide)))
                  have bd2012 : (m1977 17).toInt = 0 → rf_bd 3 (upd f2 (Int32.toNatClampNeg z2000) 2) := fun z => (sf_pos B1986 (by decide) z)
                  refine pm_R_lo pm_M185 (pc' := 52) (ls' := [.ref 41, .int 0, .int 1, .int 3, .int 8, .int 0, .int (f2 0), .int 1]) (st' := []) rfl rfl rfl ?_
                  refine pm_R_br pm_M185 (pc' := 19) rfl rfl ?_
                  refine pm_R_lo pm_M185 (pc' := 21) rfl rfl rfl ?_
                  refine pm_R_lo pm_M185 (pc' := 22) rfl rfl rfl ?_
                  refine pm_R_br pm_M185 (pc' := 25) (st' := []) rfl rfl ?_
                  refine pm_R_lo pm_M185 (pc' := 26) rfl rfl rfl ?_
                  refine rf_R_get pm_M185 T2007 (pc' := 29) (v := .ref 51) rfl rfl rfl rfl ?_
                  refine pm_R_lo pm_M185 (pc' := 30) rfl rfl rfl ?_
                  refine pm_R_lo pm_M185 (pc' := 31) rfl rfl rfl ?_
                  refine pm_R_lo pm_M185 (pc' := 33) rfl rfl rfl ?_
                  refine sf_R_imulV pm_M185 (pc' := 34) rfl rfl sf_k3 B1757 (by decide) (by decide) (by decide) e1995 ?_
                  refine sf_R_iaddV pm_M185 (pc' := 35) rfl rfl sf_k1 B1996 (by decide) (by decide) e1998 ?_
                  refine pm_R_lo pm_M185 (pc' := 37) rfl rfl rfl ?_
                  refine sf_R_iadd pm_M185 (pc' := 38) rfl rfl B1999 sf_k1 (by decide) (by decide) (fun z2013 e2014 B2015 => ?_)
                  refine pm_R_lo pm_M185 (pc' := 39) rfl rfl rfl ?_
                  refine rf_R_get pm_M185 T2007 (pc' := 42) (v := .ref 52) rfl rfl rfl rfl ?_
                  refine pm_R_lo pm_M185 (pc' := 44) rfl rfl rfl ?_
                  refine pm_R_lo pm_M185 (pc' := 46) rfl rfl rfl ?_
                  refine pm_R_op pm_M185 (pc' := 47) (st' := [.int 1, .ref 52, .int z2013, .ref 51]) rfl rfl rfl ?_
                  have e2016 := (F2008.cell (by decide) e2003)
                  refine pm_R_iald pm_M185 (pc' := 48) (v := (m1760 14)) rfl e2016 (Nat.lt_of_lt_of_le (by decide) T2007.1) rfl (Eq.trans (show (upd (upd (upd (upd (upd (upd (upd f1772 (Int32.toNatClampNeg 0) (-1)) (Int32.toNatClampNeg 1) (-1)) (Int32.toNatClampNeg 2) (-1)) (Int32.toNatClampNeg 3) (-1)) (Int32.toNatClampNeg 0) 2) (Int32.toNatClampNeg 1) (m1760 14)) (Int32.toNatClampNeg 2) (m1841 14)) (Int32.toNatClampNeg 1) = (upd (upd (upd (upd (upd (upd f1772 (Int32.toNatClampNeg 0) (-1)) (Int32.toNatClampNeg 1) (-1)) (Int32.toNatClampNeg 2) (-1)) (Int32.toNatClampNeg 3) (-1)) (Int32.toNatClampNeg 0) 2) (Int32.toNatClampNeg 1) (m1760 14)) (Int32.toNatClampNeg 1) from rfl) rfl) rfl ?_
                  refine rf_R_ist pm_M185 T2007 (pc' := 49) rfl e2009 (by decide) (by decide) (sf_in B2015 (by decide) (by decide)) ⟨_, rfl⟩ rfl (fun h2019 T2020 F2021 e2022 => ?_)
                  have F2023 := F2010.trans F2021 (by decide)
                  have ct2024 : rf_ct 3 (upd (upd f2 (Int32.toNatClampNeg z2000) 2) (Int32.toNatClampNeg z2013) (m1760 14)) := (sf_eqL (Eq.trans (sf_upd_ne (j := Int32.toNatClampNeg 0) B2015 (by decide) (by decide)) (Eq.trans (sf_upd_ne (j := Int32.toNatClampNeg 0) B2002 (by decide) (by decide)) rfl)) (sf_weak B1757 (by decide) (by decide)))
                  have bd2025 : (m1977 17).toInt = 0 → rf_bd 3 (upd (upd f2 (Int32.toNatClampNeg z2000) 2) (Int32.toNatClampNeg z2013) (m1760 14)) := fun z => (sf_pos B1986 (by decide) z)
                  refine pm_R_lo pm_M185 (pc' := 52) (ls' := [.ref 41, .int 0, .int 1, .int 3, .int 8, .int 0, .int (f2 0), .int 2]) (st' := []) rfl rfl rfl ?_
                  refine pm_R_br pm_M185 (pc' := 19) rfl rfl ?_
                  refine pm_R_lo pm_M185 (pc' := 21) rfl rfl rfl ?_
                  refine pm_R_lo pm_M185 (pc' := 22) rfl rfl rfl ?_
                  refine pm_R_br pm_M185 (pc' := 25) (st' := []) rfl rfl ?_
                  refine pm_R_lo pm_M185 (pc' := 26) rfl rfl rfl ?_
                  refine rf_R_get pm_M185 T2020 (pc' := 29) (v := .ref 51) rfl rfl rfl rfl ?_
                  refine pm_R_lo pm_M185 (pc' := 30) rfl rfl rfl ?_
                  refine pm_R_lo pm_M185 (pc' := 31) rfl rfl rfl ?_
                  refine pm_R_lo pm_M185 (pc' := 33) rfl rfl rfl ?_
                  refine sf_R_imulV pm_M185 (pc' := 34) rfl rfl sf_k3 B1757 (by decide) (by decide) (by decide) e1995 ?_
                  refine sf_R_iaddV pm_M185 (pc' := 35) rfl rfl sf_k1 B1996 (by decide) (by decide) e1998 ?_
                  refine pm_R_lo pm_M185 (pc' := 37) rfl rfl rfl ?_
                  refine sf_R_iadd pm_M185 (pc' := 38) rfl rfl B1999 sf_k2 (by decide) (by decide) (fun z2026 e2027 B2028 => ?_)
                  refine pm_R_lo pm_M185 (pc' := 39) rfl rfl rfl ?_
                  refine rf_R_get pm_M185 T2020 (pc' := 42) (v := .ref 52) rfl rfl rfl rfl ?_
                  refine pm_R_lo pm_M185 (pc' := 44) rfl rfl rfl ?_
                  refine pm_R_lo pm_M185 (pc' := 46) rfl rfl rfl ?_
                  refine pm_R_op pm_M185 (pc' := 47) (st' := [.int 2, .ref 52, .int z2026, .ref 51]) rfl rfl rfl ?_
                  have e2029 := (F2021.cell (by decide) e2016)
                  refine pm_R_iald pm_M185 (pc' := 48) (v := (m1841 14)) rfl e2029 (Nat.lt_of_lt_of_le (by decide) T2020.1) rfl rfl rfl ?_
                  refine rf_R_ist pm_M185 T2020 (pc' := 49) rfl e2022 (by decide) (by decide) (sf_in B2028 (by decide) (by decide)) ⟨_, rfl⟩ rfl (fun h2032 T2033 F2034 e2035 => ?_)
                  have F2036 := F2023.trans F2034 (by decide)
                  have ct2037 : rf_ct 3 (upd (upd (upd f2 (Int32.toNatClampNeg z2000) 2) (Int32.toNatClampNeg z2013) (m1760 14)) (Int32.toNatClampNeg z2026) (m1841 14)) := (sf_eqL (Eq.trans (sf_upd_ne (j := Int32.toNatClampNeg 0) B2028 (by decide) (by decide)) (Eq.trans (sf_upd_ne (j := Int32.toNatClampNeg 0) B2015 (by decide) (by decide)) (Eq.trans (sf_upd_ne (j := Int32.toNatClampNeg 0) B2002 (by decide) (by decide)) rfl))) (sf_weak B1757 (by decide) (by decide)))
                  have bd2038 : (m1977 17).toInt = 0 → rf_bd 3 (upd (upd (upd f2 (Int32.toNatClampNeg z2000) 2) (Int32.toNatClampNeg z2013) (m1760 14)) (Int32.toNatClampNeg z2026) (m1841 14)) := fun z => (sf_pos B1986 (by decide) z)
                  refine pm_R_lo pm_M185 (pc' := 52) (ls' := [.ref 41, .int 0, .int 1, .int 3, .int 8, .int 0, .int (f2 0), .int 3]) (st' := []) rfl rfl rfl ?_
                  refine pm_R_br pm_M185 (pc' := 19) rfl rfl ?_
                  refine pm_R_lo pm_M185 (pc' := 21) rfl rfl rfl ?_
                  refine pm_R_lo pm_M185 (pc' := 22) rfl rfl rfl ?_
                  refine pm_R_br pm_M185 (pc' := 55) (st' := []) rfl rfl ?_
                  refine pm_R_lo pm_M185 (pc' := 56) rfl rfl rfl ?_
                  refine rf_R_get pm_M185 T2033 (pc' := 59) (v := .ref 51) rfl rfl rfl rfl ?_
                  refine pm_R_lo pm_M185 (pc' := 60) rfl rfl rfl ?_
                  refine pm_R_op pm_M185 (pc' := 61) (st' := [.int 0, .ref 51, .int 0, .ref 51]) rfl rfl rfl ?_
                  refine pm_R_iald pm_M185 (pc' := 62) (v := (f2 0)) rfl e2035 (Nat.lt_of_lt_of_le (by decide) T2033.1) rfl (Eq.trans (sf_upd_ne (j := Int32.toNatClampNeg 0) B2028 (by decide) (by decide)) (Eq.trans (sf_upd_ne (j := Int32.toNatClampNeg 0) B2015 (by decide) (by decide)) (Eq.trans (sf_upd_ne (j := Int32.toNatClampNeg 0) B2002 (by decide) (by decide)) rfl))) rfl ?_
                  refine pm_R_op pm_M185 (pc' := 63) (st' := [.int 1, .int (f2 0), .int 0, .ref 51]) rfl rfl rfl ?_
                  refine sf_R_iadd pm_M185 (pc' := 64) rfl rfl B1757 sf_k1 (by decide) (by decide) (fun z2041 e2042 B2043 => ?_)
                  refine rf_R_ist pm_M185 T2033 (pc' := 65) rfl e2035 (by decide) (by decide) rfl ⟨_, rfl⟩ rfl (fun h2044 T2045 F2046 e2047 => ?_)
                  have F2048 := F2036.trans F2046 (by decide)
                  have ct2049 : rf_ct 3 (upd (upd (upd (upd f2 (Int32.toNatClampNeg z2000) 2) (Int32.toNatClampNeg z2013) (m1760 14)) (Int32.toNatClampNeg z2026) (m1841 14)) (Int32.toNatClampNeg 0) z2041) := (sf_eqL rfl (sf_weak B2043 (by decide) (by decide)))
                  have bd2050 : (m1977 17).toInt = 0 → rf_bd 3 (upd (upd (upd (upd f2 (Int32.toNatClampNeg z2000) 2) (Int32.toNatClampNeg z2013) (m1760 14)) (Int32.toNatClampNeg z2026) (m1841 14)) (Int32.toNatClampNeg 0) z2041) := fun z => (sf_pos B1986 (by decide) z)
                  refine pm_R_ret pm_M185 (r := none) rfl rfl ?_
                  show pm_R _ 192 173 [.ref 41, .long a0, pm_no, .int a1, .int 2] [] _ _
                  refine pm_R_op pm_M192 (pc' := 174) (st' := [.int 1]) (pm_q192_1 (Nat.le_of_ble_eq_true rfl)) rfl rfl ?_
                  have B2051 : sf_B 0 600 (m1977 10) := T2045.2.2.1 10
                  exact pm_R_ret pm_M192 (r := some (.int 1)) (pm_q192_1 (Nat.le_of_ble_eq_true rfl)) rfl (K1 m1977 w1978 h2044 T2045 F2048 W1989 (⟨(upd (upd (upd (upd f2 (Int32.toNatClampNeg z2000) 2) (Int32.toNatClampNeg z2013) (m1760 14)) (Int32.toNatClampNeg z2026) (m1841 14)) (Int32.toNatClampNeg 0) z2041), e2047, ct2049, fun z => (sf_pos B1986 (by decide) z)⟩) (sf_aux109 _ _ _ _ _ X1766 X1847 X1983))
              · skip
                refine pm_R_lo pm_M183 (pc' := 9) rfl rfl rfl ?_
                refine pm_R_cv pm_M183 (pc' := 12) (a := 41) (ra := []) (rest := []) (ls' := [.ref 41]) rfl rfl (Or.inl rfl) pm_M184 T1844.2.1 rfl (by decide) (Nat.lt_of_lt_of_le (by decide) T1844.1) rfl rfl (Nat.le_of_ble_eq_true rfl) rfl rfl ?_
                refine pm_R_lo pm_M184 (pc' := 1) rfl rfl rfl ?_
                refine pm_R_lo pm_M184 (pc' := 2) rfl rfl rfl ?_
                have B2052 : sf_B 0 600 (m1841 12) := T1844.2.2.1 12
                refine rf_R_get pm_M184 T1844 (pc' := 5) (v := .int (m1841 12)) rfl rfl rfl rfl ?_
                refine rf_R_put pm_M184 T1844 (pc' := 8) rfl rfl rfl (by decide) rfl rfl B2052 rfl rfl (fun h2053 m2056 em2057 T2054 F2055 => ?_)
                have F2058 := F1849.trans F2055 (by decide)
                have B2059 : sf_B 1 4 (m2056 17) := by rw [em2057]; exact B1850
                have ek2060 : (m2056 17).toInt = ((m1814 17)).toInt := by rw [em2057]; exact ek1851
                have B2061 : sf_B 0 0 (m2056 22) := by rw [em2057]; exact B1852
                have B2062 : sf_B 0 600 (m2056 16) := by rw [em2057]; exact B2052
                have ek2063 : (m2056 16).toInt = ((m1841 12)).toInt := by rw [em2057]; rfl
                have W2064 : rf_W [10, 12, 13, 14, 16, 17, 18, 22] m m2056 := by rw [em2057]; exact W1853.put (by decide)
                refine pm_R_op pm_M184 (pc' := 9) (st' := [.int 0]) rfl rfl rfl ?_
                refine pm_R_ret pm_M184 (r := some (.int 0)) rfl rfl ?_
                show pm_R _ 183 12 [.ref 41, .int 2, .int 9, .int (-1)] [.int 0] _ _
                refine pm_R_ret pm_M183 (r := some (.int 0)) rfl rfl ?_
                show pm_R _ 192 158 [.ref 41, .long a0, pm_no, .int a1, .int 2] [.int 0] _ _
                refine pm_R_br pm_M192 (pc' := 161) (st' := []) (pm_q192_1 (Nat.le_of_ble_eq_true rfl)) rfl ?_
                refine pm_R_op pm_M192 (pc' := 162) (st' := [.int 0]) (pm_q192_1 (Nat.le_of_ble_eq_true rfl)) rfl rfl ?_
                have B2065 : sf_B 0 600 (m2056 10) := T2054.2.2.1 10
                exact pm_R_ret pm_M192 (r := some (.int 0)) (pm_q192_1 (Nat.le_of_ble_eq_true rfl)) rfl (K0 m2056 w1842 h2053 T2054 F2058 W2064 (sf_aux83 _ _ _ _ _ X1766 X1847))
            · have B2066 : sf_B 0 9 (m1760 14) := sf_leL (Int32.not_lt.mp c1809) B1803 sf_k9
              refine pm_R_lo pm_M183 (pc' := 32) rfl rfl rfl ?_
              refine rf_R_get pm_M183 T1805 (pc' := 35) (v := .int (m1760 14)) rfl rfl rfl rfl ?_
              refine pm_R_lo pm_M183 (pc' := 36) rfl rfl rfl ?_
              refine pm_R_icmp pm_M183 (t := 53) (pc' := 39) rfl rfl rfl (fun c2067 => ?_) (fun c2067 => absurd (Classical.not_not.mp c2067) (sf_neq1 B2066 sf_kn1 (by decide)))
              skip
              refine pm_R_lo pm_M183 (pc' := 54) rfl rfl rfl ?_
              refine pm_R_cv pm_M183 (pc' := 57) (a := 41) (ra := []) (rest := []) (ls' := [.ref 41, pm_no, pm_no]) rfl rfl (Or.inl rfl) pm_M179 T1805.2.1 rfl (by decide) (Nat.lt_of_lt_of_le (by decide) T1805.1) rfl rfl (Nat.le_of_ble_eq_true rfl) rfl rfl ?_
              have B2068 : sf_B 0 600 (m1760 10) := T1805.2.2.1 10
              refine rf_c179 (d := d + 0) T1805  (fun m2071 w2072 h2073 T2074 F2075 W2076 X2077 X2078 => ?_)
              have F2079 := F1808.trans F2075 (by decide)
              have B2080 : sf_B 0 4 (m2071 17) := by rw [W2076 17 (by decide)]; exact B1769
              have ek2081 : (m2071 17).toInt = ((m 17)).toInt := by rw [W2076 17 (by decide)]; exact ek1770
              have W2082 : rf_W [10, 12, 13, 14, 16, 17, 18, 22] m m2071 := W1771.trans W2076 (by decide)
              show pm_R _ 183 57 [.ref 41, .int 1, .int 9, .int (-1)] [] _ _
              refine pm_R_op pm_M183 (pc' := 58) (st' := [.int 1]) rfl rfl rfl ?_
              refine pm_R_ret pm_M183 (r := some (.int 1)) rfl rfl ?_
              show pm_R _ 192 127 [.ref 41, .long a0, pm_no, .int a1, .int 2] [.int 1] _ _
              refine pm_R_br pm_M192 (pc' := 132) (st' := []) (pm_q192_1 (Nat.le_of_ble_eq_true rfl)) rfl ?_
              refine pm_R_lo pm_M192 (pc' := 134) (pm_q192_1 (Nat.le_of_ble_eq_true rfl)) rfl rfl ?_
              refine pm_R_op pm_M192 (pc' := 135) (st' := [.int 1, .int 2]) (pm_q192_1 (Nat.le_of_ble_eq_true rfl)) rfl rfl ?_
              refine pm_R_br pm_M192 (pc' := 138) (st' := []) (pm_q192_1 (Nat.le_of_ble_eq_true rfl)) rfl ?_
              refine pm_R_lo pm_M192 (pc' := 140) (pm_q192_1 (Nat.le_of_ble_eq_true rfl)) rfl rfl ?_
              refine pm_R_op pm_M192 (pc' := 141) (st' := [.int 2, .int 2]) (pm_q192_1 (Nat.le_of_ble_eq_true rfl)) rfl rfl ?_
              refine pm_R_br pm_M192 (pc' := 150) (st' := []) (pm_q192_1 (Nat.le_of_ble_eq_true rfl)) rfl ?_
              refine pm_R_lo pm_M192 (pc' := 151) (pm_q192_1 (Nat.le_of_ble_eq_true rfl)) rfl rfl ?_
              refine pm_R_op pm_M192 (pc' := 152) (st' := [.int 2, .ref 41]) (pm_q192_1 (Nat.le_of_ble_eq_true rfl)) rfl rfl ?_
              refine pm_R_op pm_M192 (pc' := 154) (st' := [.int 9, .int 2, .ref 41]) (pm_q192_1 (Nat.le_of_ble_eq_true rfl)) rfl rfl ?_
              refine pm_R_op pm_M192 (pc' := 155) (st' := [.int (-1), .int 9, .int 2, .ref 41]) (pm_q192_1 (Nat.le_of_ble_eq_true rfl)) rfl rfl ?_
              refine pm_R_cv pm_M192 (pc' := 158) (a := 41) (ra := [.int (-1), .int 9, .int 2]) (rest := []) (ls' := [.ref 41, .int 2, .int 9, .int (-1)]) (pm_q192_1 (Nat.le_of_ble_eq_true rfl)) rfl (Or.inl rfl) pm_M183 T2074.2.1 rfl (by decide) (Nat.lt_of_lt_of_le (by decide) T2074.1) rfl rfl (Nat.le_of_ble_eq_true rfl) rfl rfl ?_
              refine pm_R_lo pm_M183 (pc' := 1) rfl rfl rfl ?_
              have B2083 : sf_B 0 4 (m2071 13) := T2074.2.2.1 13
              refine rf_R_get pm_M183 T2074 (pc' := 4) (v := .int (m2071 13)) rfl rfl rfl rfl ?_
              refine pm_R_op pm_M183 (pc' := 5) (st' := [.int 3, .int (m2071 13)]) rfl rfl rfl ?_
              refine pm_R_icmp pm_M183 (t := 13) (pc' := 8) rfl rfl rfl (fun c2084 => ?_) (fun c2084 => ?_)
              · have B2085 : sf_B 3 3 (m2071 13) := sf_eqL c2084 sf_k3
                refine pm_R_lo pm_M183 (pc' := 14) rfl rfl rfl ?_
                refine rf_R_get pm_M183 T2074 (pc' := 17) (v := .ref 52) rfl rfl rfl rfl ?_
                refine pm_R_lo pm_M183 (pc' := 18) rfl rfl rfl ?_
                refine pm_R_lo pm_M183 (pc' := 19) rfl rfl rfl ?_
                have B2086 : sf_B 0 99 (m2071 14) := T2074.2.2.1 14
                refine rf_R_get pm_M183 T2074 (pc' := 22) (v := .int (m2071 14)) rfl rfl rfl rfl ?_
                have e2087 := (F2075.cell (by decide) e1807)
                refine rf_R_ist pm_M183 T2074 (pc' := 23) rfl e2087 (by decide) (by decide) rfl ⟨_, rfl, sf_upd (sf_upd (sf_upd (sf_upd (sf_upd (sf_upd (sf_upd b1774 (sf_weak sf_kn1 (by decide) (by decide)) _) (sf_weak sf_kn1 (by decide) (by decide)) _) (sf_weak sf_kn1 (by decide) (by decide)) _) (sf_weak sf_kn1 (by decide) (by decide)) _) (sf_weak sf_k2 (by decide) (by decide)) _) (sf_weak B1803 (by decide) (by decide)) _) (sf_weak B2086 (by decide) (by decide)) _⟩ rfl (fun h2088 T2089 F2090 e2091 => ?_)
                have F2092 := F2079.trans F2090 (by decide)
                refine pm_R_lo pm_M183 (pc' := 24) rfl rfl rfl ?_
                refine rf_R_get pm_M183 T2089 (pc' := 27) (v := .int (m2071 14)) rfl rfl rfl rfl ?_
                refine pm_R_lo pm_M183 (pc' := 28) rfl rfl rfl ?_
                refine pm_R_icmp pm_M183 (t := 39) (pc' := 31) rfl rfl rfl (fun c2093 => ?_) (fun c2093 => ?_)
                · have B2094 : sf_B 10 99 (m2071 14) := sf_ltR c2093 sf_k9 B2086
                  refine pm_R_lo pm_M183 (pc' := 40) rfl rfl rfl ?_
                  refine pm_R_op pm_M183 (pc' := 41) (st' := [.int 2, .ref 41]) rfl rfl rfl ?_
                  refine pm_R_lo pm_M183 (pc' := 42) rfl rfl rfl ?_
                  have B2095 : sf_B 0 600 (m2071 12) := T2089.2.2.1 12
                  refine rf_R_get pm_M183 T2089 (pc' := 45) (v := .int (m2071 12)) rfl rfl rfl rfl ?_
                  refine pm_R_cv pm_M183 (pc' := 48) (a := 41) (ra := [.int (m2071 12), .int 2]) (rest := []) (ls' := [.ref 41, .int 2, .int (m2071 12)]) rfl rfl (Or.inl rfl) pm_M182 T2089.2.1 rfl (by decide) (Nat.lt_of_lt_of_le (by decide) T2089.1) rfl rfl (Nat.le_of_ble_eq_true rfl) rfl rfl ?_
                  refine rf_c182 (d := d + 1) T2089 (sf_weak sf_k2 (by decide) (by decide)) B2095 (fun m2098 w2099 h2100 T2101 F2102 W2103 B2104 => ?_)
                  have F2105 := F2092.trans F2102 (by decide)
                  have B2106 : sf_B 3 3 (m2098 13) := by rw [W2103 13 (by decide)]; exact B2085
                  have B2107 : sf_B 10 99 (m2098 14) := by rw [W2103 14 (by decide)]; exact B2094
                  have W2108 : rf_W [10, 12, 13, 14, 16, 17, 18, 22] m m2098 := W2082.trans W2103 (by decide)
                  show pm_R _ 183 48 [.ref 41, .int 2, .int 9, .int (-1)] [] _ _
                  refine pm_R_lo pm_M183 (pc' := 49) rfl rfl rfl ?_
                  refine pm_R_op pm_M183 (pc' := 50) (st' := [.int 0, .ref 41]) rfl rfl rfl ?_
                  refine rf_R_put pm_M183 T2101 (pc' := 53) rfl rfl rfl (by decide) rfl rfl (sf_weak sf_k0 (by decide) (by decide)) rfl rfl (fun h2109 m2112 em2113 T2110 F2111 => ?_)
                  have F2114 := F2105.trans F2111 (by decide)
                  have B2115 : sf_B 3 3 (m2112 13) := by rw [em2113]; exact B2106
                  have B2116 : sf_B 10 99 (m2112 14) := by rw [em2113]; exact B2107
                  have B2117 : sf_B 1 4 (m2112 17) := by rw [em2113]; exact B2104
                  have ek2118 : (m2112 17).toInt = ((m2098 17)).toInt := by rw [em2113]; rfl
                  have B2119 : sf_B 0 0 (m2112 22) := by rw [em2113]; exact sf_k0
                  have W2121 : rf_W [10, 12, 13, 14, 16, 17, 18, 22] m m2112 := by rw [em2113]; exact W2108.put (by decide)
                  refine pm_R_lo pm_M183 (pc' := 54) rfl rfl rfl ?_
                  refine pm_R_cv pm_M183 (pc' := 57) (a := 41) (ra := []) (rest := []) (ls' := [.ref 41, pm_no, pm_no]) rfl rfl (Or.inl rfl) pm_M179 T2110.2.1 rfl (by decide) (Nat.lt_of_lt_of_le (by decide) T2110.1) rfl rfl (Nat.le_of_ble_eq_true rfl) rfl rfl ?_
                  have B2122 : sf_B 0 600 (m2112 10) := T2110.2.2.1 10
                  refine rf_c179 (d := d + 0) T2110  (fun m2125 w2126 h2127 T2128 F2129 W2130 X2131 X2132 => ?_)
                  have F2133 := F2114.trans F2129 (by decide)
                  have B2134 : sf_B 1 4 (m2125 17) := by rw [W2130 17 (by decide)]; exact B2117
                  have ek2135 : (m2125 17).toInt = ((m2098 17)).toInt := by rw [W2130 17 (by decide)]; exact ek2118
                  have B2136 : sf_B 0 0 (m2125 22) := by rw [W2130 22 (by decide)]; exact B2119
                  have W2137 : rf_W [10, 12, 13, 14, 16, 17, 18, 22] m m2125 := W2121.trans W2130 (by decide)
                  show pm_R _ 183 57 [.ref 41, .int 2, .int 9, .int (-1)] [] _ _
                  refine pm_R_op pm_M183 (pc' := 58) (st' := [.int 1]) rfl rfl rfl ?_
                  refine pm_R_ret pm_M183 (r := some (.int 1)) rfl rfl ?_
                  show pm_R _ 192 158 [.ref 41, .long a0, pm_no, .int a1, .int 2] [.int 1] _ _
                  refine pm_R_br pm_M192 (pc' := 163) (st' := []) (pm_q192_1 (Nat.le_of_ble_eq_true rfl)) rfl ?_
                  refine pm_R_lo pm_M192 (pc' := 164) (pm_q192_1 (Nat.le_of_ble_eq_true rfl)) rfl rfl ?_
                  refine pm_R_op pm_M192 (pc' := 165) (st' := [.int 0, .ref 41]) (pm_q192_1 (Nat.le_of_ble_eq_true rfl)) rfl rfl ?_
                  refine pm_R_op pm_M192 (pc' := 166) (st' := [.int 1, .int 0, .ref 41]) (pm_q192_1 (Nat.le_of_ble_eq_true rfl)) rfl rfl ?_
                  refine pm_R_op pm_M192 (pc' := 167) (st' := [.int 3, .int 1, .int 0, .ref 41]) (pm_q192_1 (Nat.le_of_ble_eq_true rfl)) rfl rfl ?_
                  refine pm_R_op pm_M192 (pc' := 169) (st' := [.int 8, .int 3, .int 1, .int 0, .ref 41]) (pm_q192_1 (Nat.le_of_ble_eq_true rfl)) rfl rfl ?_
                  refine pm_R_op pm_M192 (pc' := 170) (st' := [.int 0, .int 8, .int 3, .int 1, .int 0, .ref 41]) (pm_q192_1 (Nat.le_of_ble_eq_true rfl)) rfl rfl ?_
                  refine pm_R_cv pm_M192 (pc' := 173) (a := 41) (ra := [.int 0, .int 8, .int 3, .int 1, .int 0]) (rest := []) (ls' := [.ref 41, .int 0, .int 1, .int 3, .int 8, .int 0, pm_no, pm_no]) (pm_q192_1 (Nat.le_of_ble_eq_true rfl)) rfl (Or.inl rfl) pm_M185 T2128.2.1 rfl (by decide) (Nat.lt_of_lt_of_le (by decide) T2128.1) rfl rfl (Nat.le_of_ble_eq_true rfl) rfl rfl ?_
                  refine pm_R_lo pm_M185 (pc' := 1) rfl rfl rfl ?_
                  refine rf_R_get pm_M185 T2128 (pc' := 4) (v := .ref 51) rfl rfl rfl rfl ?_
                  refine pm_R_lo pm_M185 (pc' := 5) rfl rfl rfl ?_
                  have e2138 := (F2129.cell (by decide) (F2111.cell (by decide) (F2102.cell (by decide) (F2090.cell (by decide) (F2075.cell (by decide) (F1806.cell (by decide) (F1797.cell (by decide) (F1792.cell (by decide) (F1787.cell (by decide) (F1782.cell (by decide) (F1777.cell (by decide) (F1764.cell (by decide) e3))))))))))))
                  refine pm_R_iald pm_M185 (pc' := 6) (v := (f2 0)) rfl e2138 (Nat.lt_of_lt_of_le (by decide) T2128.1) rfl rfl rfl ?_
                  refine pm_R_lo pm_M185 (pc' := 8) (ls' := [.ref 41, .int 0, .int 1, .int 3, .int 8, .int 0, .int (f2 0), pm_no]) (st' := []) rfl rfl rfl ?_
                  refine pm_R_lo pm_M185 (pc' := 10) rfl rfl rfl ?_
                  refine pm_R_lo pm_M185 (pc' := 12) rfl rfl rfl ?_
                  refine pm_R_icmp pm_M185 (t := 16) (pc' := 15) rfl rfl rfl (fun c2141 => ?_) (fun c2141 => absurd (Classical.not_not.mp c2141) (sf_neq2 B1757 sf_k8 (by decide)))
                  skip
                  refine pm_R_op pm_M185 (pc' := 17) (st' := [.int 0]) rfl rfl rfl ?_
                  refine pm_R_lo pm_M185 (pc' := 19) (ls' := [.ref 41, .int 0, .int 1, .int 3, .int 8, .int 0, .int (f2 0), .int 0]) (st' := []) rfl rfl rfl ?_
                  refine pm_R_lo pm_M185 (pc' := 21) rfl rfl rfl ?_
                  refine pm_R_lo pm_M185 (pc' := 22) rfl rfl rfl ?_
                  refine pm_R_br pm_M185 (pc' := 25) (st' := []) rfl rfl ?_
                  refine pm_R_lo pm_M185 (pc' := 26) rfl rfl rfl ?_
                  refine rf_R_get pm_M185 T2128 (pc' := 29) (v := .ref 51) rfl rfl rfl rfl ?_
                  refine pm_R_lo pm_M185 (pc' := 30) rfl rfl rfl ?_
                  refine pm_R_lo pm_M185 (pc' := 31) rfl rfl rfl ?_
                  refine pm_R_lo pm_M185 (pc' := 33) rfl rfl rfl ?_
                  refine sf_R_imul pm_M185 (pc' := 34) rfl rfl sf_k3 B1757 (by decide) (by decide) (by decide) (fun z2142 e2143 B2144 => ?_)
                  refine sf_R_iadd pm_M185 (pc' := 35) rfl rfl sf_k1 B2144 (by decide) (by decide) (fun z2145 e2146 B2147 => ?_)
                  refine pm_R_lo pm_M185 (pc' := 37) rfl rfl rfl ?_
                  refine sf_R_iadd pm_M185 (pc' := 38) rfl rfl B2147 sf_k0 (by decide) (by decide) (fun z2148 e2149 B2150 => ?_)
                  refine pm_R_lo pm_M185 (pc' := 39) rfl rfl rfl ?_
                  refine rf_R_get pm_M185 T2128 (pc' := 42) (v := .ref 52) rfl rfl rfl rfl ?_
                  refine pm_R_lo pm_M185 (pc' := 44) rfl rfl rfl ?_
                  refine pm_R_lo pm_M185 (pc' := 46) rfl rfl rfl ?_
                  refine pm_R_op pm_M185 (pc' := 47) (st' := [.int 0, .ref 52, .int z2148, .ref 51]) rfl rfl rfl ?_
                  have e2151 := (F2129.cell (by decide) (F2111.cell (by decide) (F2102.cell (by decide) e2091)))
                  refine pm_R_iald pm_M185 (pc' := 48) (v := 2) rfl e2151 (Nat.lt_of_lt_of_le (by decide) T2128.1) rfl (Eq.trans (show (upd (upd (upd (upd (upd (upd (upd f1772 (Int32.toNatClampNeg 0) (-1)) (Int32.toNatClampNeg 1) (-1)) (Int32.toNatClampNeg 2) (-1)) (Int32.toNatClampNeg 3) (-1)) (Int32.toNatClampNeg 0) 2) (Int32.toNatClampNeg 1) (m1760 14)) (Int32.toNatClampNeg 2) (m2071 14)) (Int32.toNatClampNeg 0) = (upd (upd (upd (upd (upd (upd f1772 (Int32.toNatClampNeg 0) (-1)) (Int32.toNatClampNeg 1) (-1)) (Int32.toNatClampNeg 2) (-1)) (Int32.toNatClampNeg 3) (-1)) (Int32.toNatClampNeg 0) 2) (Int32.toNatClampNeg 1) (m1760 14)) (Int32.toNatClampNeg 0) from rfl) (Eq.trans (show (upd (upd (upd (upd (upd (upd f1772 (Int32.toNatClampNeg 0) (-1)) (Int32.toNatClampNeg 1) (-1)) (Int32.toNatClampNeg 2) (-1)) (Int32.toNatClampNeg 3) (-1)) (Int32.toNatClampNeg 0) 2) (Int32.toNatClampNeg 1) (m1760 14)) (Int32.toNatClampNeg 0) = (upd (upd (upd (upd (upd f1772 (Int32.toNatClampNeg 0) (-1)) (Int32.toNatClampNeg 1) (-1)) (Int32.toNatClampNeg 2) (-1)) (Int32.toNatClampNeg 3) (-1)) (Int32.toNatClampNeg 0) 2) (Int32.toNatClampNeg 0) from rfl) rfl)) rfl ?_
                  refine rf_R_ist pm_M185 T2128 (pc' := 49) rfl e2138 (by decide) (by decide) (sf_in B2150 (by decide) (by decide)) ⟨_, rfl⟩ rfl (fun h2154 T2155 F2156 e2157 => ?_)
                  have F2158 := F2133.trans F2156 (by decide)
                  have ct2159 : rf_ct 3 (upd f2 (Int32.toNatClampNeg z2148) 2) := (sf_eqL (Eq.trans (sf_upd_ne (j := Int32.toNatClampNeg 0) B2150 (by decide) (by decide)) rfl) (sf_weak B1757 (by decide) (by decide)))
                  have bd2160 : (m2125 17).toInt = 0 → rf_bd 3 (upd f2 (Int32.toNatClampNeg z2148) 2) := fun z => (sf_pos B2134 (by decide) z)
                  refine pm_R_lo pm_M185 (pc' := 52) (ls' := [.ref 41, .int 0, .int 1, .int 3, .int 8, .int 0, .int (f2 0), .int 1]) (st' := []) rfl rfl rfl ?_
                  refine pm_R_br pm_M185 (pc' := 19) rfl rfl ?_
                  refine pm_R_lo pm_M185 (pc' := 21) rfl rfl rfl ?_
                  refine pm_R_lo pm_M185 (pc' := 22) rfl rfl rfl ?_
                  refine pm_R_br pm_M185 (pc' := 25) (st' := []) rfl rfl ?_
                  refine pm_R_lo pm_M185 (pc' := 26) rfl rfl rfl ?_
                  refine rf_R_get pm_M185 T2155 (pc' := 29) (v := .ref 51) rfl rfl rfl rfl ?_
                  refine pm_R_lo pm_M185 (pc' := 30) rfl rfl rfl ?_
                  refine pm_R_lo pm_M185 (pc' := 31) rfl rfl rfl ?_
                  refine pm_R_lo pm_M185 (pc' := 33) rfl rfl rfl ?_
                  refine sf_R_imulV pm_M185 (pc' := 34) rfl rfl sf_k3 B1757 (by decide) (by decide) (by decide) e2143 ?_
                  refine sf_R_iaddV pm_M185 (pc' := 35) rfl rfl sf_k1 B2144 (by decide) (by decide) e2146 ?_
                  refine pm_R_lo pm_M185 (pc' := 37) rfl rfl rfl ?_
                  refine sf_R_iadd pm_M185 (pc' := 38) rfl rfl B2147 sf_k1 (by decide) (by decide) (fun z2161 e2162 B2163 => ?_)
                  refine pm_R_lo pm_M185 (pc' := 39) rfl rfl rfl ?_
                  refine rf_R_get pm_M185 T2155 (pc' := 42) (v := .ref 52) rfl rfl rfl rfl ?_
                  refine pm_R_lo pm_M185 (pc' := 44) rfl rfl rfl ?_
                  refine pm_R_lo pm_M185 (pc' := 46) rfl rfl rfl ?_
                  refine pm_R_op pm_M185 (pc' := 47) (st' := [.int 1, .ref 52, .int z2161, .ref 51]) rfl rfl rfl ?_
                  have e2164 := (F2156.cell (by decide) e2151)
                  refine pm_R_iald pm_M185 (pc' := 48) (v := (m1760 14)) rfl e2164 (Nat.lt_of_lt_of_le (by decide) T2155.1) rfl (Eq.trans (show (upd (upd (upd (upd (upd (upd (upd f1772 (Int32.toNatClampNeg 0) (-1)) (Int32.toNatClampNeg 1) (-1)) (Int32.toNatClampNeg 2) (-1)) (Int32.toNatClampNeg 3) (-1)) (Int32.toNatClampNeg 0) 2) (Int32.toNatClampNeg 1) (m1760 14)) (Int32.toNatClampNeg 2) (m2071 14)) (Int32.toNatClampNeg 1) = (upd (upd (upd (upd (upd (upd f1772 (Int32.toNatClampNeg 0) (-1)) (Int32.toNatClampNeg 1) (-1)) (Int32.toNatClampNeg 2) (-1)) (Int32.toNatClampNeg 3) (-1)) (Int32.toNatClampNeg 0) 2) (Int32.toNatClampNeg 1) (m1760 14)) (Int32.toNatClampNeg 1) from rfl) rfl) rfl ?_
                  refine rf_R_ist pm_M185 T2155 (pc' := 49) rfl e2157 (by decide) (by decide) (sf_in B2163 (by decide) (by decide)) ⟨_, rfl⟩ rfl (fun h2167 T2168 F2169 e2170 => ?_)
                  have F2171 := F2158.trans F2169 (by decide)
                  have ct2172 : rf_ct 3 (upd (upd f2 (Int32.toNatClampNeg z2148) 2) (Int32.toNatClampNeg z2161) (m1760 14)) := (sf_eqL (Eq.trans (sf_upd_ne (j := Int32.toNatClampNeg 0) B2163 (by decide) (by decide)) (Eq.trans (sf_upd_ne (j := Int32.toNatClampNeg 0) B2150 (by decide) (by decide)) rfl)) (sf_weak B1757 (by decide) (by decide)))
                  have bd2173 : (m2125 17).toInt = 0 → rf_bd 3 (upd (upd f2 (Int32.toNatClampNeg z2148) 2) (Int32.toNatClampNeg z2161) (m1760 14)) := fun z => (sf_pos B2134 (by decide) z)
                  refine pm_R_lo pm_M185 (pc' := 52) (ls' := [.ref 41, .int 0, .int 1, .int 3, .int 8, .int 0, .int (f2 0), .int 2]) (st' := []) rfl rfl rfl ?_
                  refine pm_R_br pm_M185 (pc' := 19) rfl rfl ?_
                  refine pm_R_lo pm_M185 (pc' := 21) rfl rfl rfl ?_
                  refine pm_R_lo pm_M185 (pc' := 22) rfl rfl rfl ?_
                  refine pm_R_br pm_M185 (pc' := 25) (st' := []) rfl rfl ?_
                  refine pm_R_lo pm_M185 (pc' := 26) rfl rfl rfl ?_
                  refine rf_R_get pm_M185 T2168 (pc' := 29) (v := .ref 51) rfl rfl rfl rfl ?_
                  refine pm_R_lo pm_M185 (pc' := 30) rfl rfl rfl ?_
                  refine pm_R_lo pm_M185 (pc' := 31) rfl rfl rfl ?_
                  refine pm_R_lo pm_M185 (pc' := 33) rfl rfl rfl ?_
                  refine sf_R_imulV pm_M185 (pc' := 34) rfl rfl sf_k3 B1757 (by decide) (by decide) (by decide) e2143 ?_
                  refine sf_R_iaddV pm_M185 (pc' := 35) rfl rfl sf_k1 B2144 (by decide) (by decide) e2146 ?_
                  refine pm_R_lo pm_M185 (pc' := 37) rfl rfl rfl ?_
                  refine sf_R_iadd pm_M185 (pc' := 38) rfl rfl B2147 sf_k2 (by decide) (by decide) (fun z2174 e2175 B2176 => ?_)
                  refine pm_R_lo pm_M185 (pc' := 39) rfl rfl rfl ?_
                  refine rf_R_get pm_M185 T2168 (pc' := 42) (v := .ref 52) rfl rfl rfl rfl ?_
                  refine pm_R_lo pm_M185 (pc' := 44) rfl rfl rfl ?_
                  refine pm_R_lo pm_M185 (pc' := 46) rfl rfl rfl ?_
                  refine pm_R_op pm_M185 (pc' := 47) (st' := [.int 2, .ref 52, .int z2174, .ref 51]) rfl rfl rfl ?_
                  have e2177 := (F2169.cell (by decide) e2164)
                  refine pm_R_iald pm_M185 (pc' := 48) (v := (m2071 14)) rfl e2177 (Nat.lt_of_lt_of_le (by decide) T2168.1) rfl rfl rfl ?_
                  refine rf_R_ist pm_M185 T2168 (pc' := 49) rfl e2170 (by decide) (by decide) (sf_in B2176 (by decide) (by decide)) ⟨_, rfl⟩ rfl (fun h2180 T2181 F2182 e2183 => ?_)
                  have F2184 := F2171.trans F2182 (by decide)
                  have ct2185 : rf_ct 3 (upd (upd (upd f2 (Int32.toNatClampNeg z2148) 2) (Int32.toNatClampNeg z2161) (m1760 14)) (Int32.toNatClampNeg z2174) (m2071 14)) := (sf_eqL (Eq.trans (sf_upd_ne (j := Int32.toNatClampNeg 0) B2176 (by decide) (by decide)) (Eq.trans (sf_upd_ne (j := Int32.toNatClampNeg 0) B2163 (by decide) (by decide)) (Eq.trans (sf_upd_ne (j := Int32.toNatClampNeg 0) B2150 (by decide) (by decide)) rfl))) (sf_weak B1757 (by decide) (by decide)))
                  have bd2186 : (m2125 17).toInt = 0 → rf_bd 3 (upd (upd (upd f2 (Int32.toNatClampNeg z2148) 2) (Int32.toNatClampNeg z2161) (m1760 14)) (Int32.toNatClampNeg z2174) (m2071 14)) := fun z => (sf_pos B2134 (by decide) z)
                  refine pm_R_lo pm_M185 (pc' := 52) (ls' := [.ref 41, .int 0, .int 1, .int 3, .int 8, .int 0, .int (f2 0), .int 3]) (st' := []) rfl rfl rfl ?_
                  refine pm_R_br pm_M185 (pc' := 19) rfl rfl ?_
                  refine pm_R_lo pm_M185 (pc' := 21) rfl rfl rfl ?_
                  refine pm_R_lo pm_M185 (pc' := 22) rfl rfl rfl ?_
                  refine pm_R_br pm_M185 (pc' := 55) (st' := []) rfl rfl ?_
                  refine pm_R_lo pm_M185 (pc' := 56) rfl rfl rfl ?_
                  refine rf_R_get pm_M185 T2181 (pc' := 59) (v := .ref 51) rfl rfl rfl rfl ?_
                  refine pm_R_lo pm_M185 (pc' := 60) rfl rfl rfl ?_
                  refine pm_R_op pm_M185 (pc' := 61) (st' := [.int 0, .ref 51, .int 0, .ref 51]) rfl rfl rfl ?_
                  refine pm_R_iald pm_M185 (pc' := 62) (v := (f2 0)) rfl e2183 (Nat.lt_of_lt_of_le (by decide) T2181.1) rfl (Eq.trans (sf_upd_ne (j := Int32.toNatClampNeg 0) B2176 (by decide) (by decide)) (Eq.trans (sf_upd_ne (j := Int32.toNatClampNeg 0) B2163 (by decide) (by decide)) (Eq.trans (sf_upd_ne (j := Int32.toNatClampNeg 0) B2150 (by decide) (by decide)) rfl))) rfl ?_
                  refine pm_R_op pm_M185 (pc' := 63) (st' := [.int 1, .int (f2 0), .int 0, .ref 51]) rfl rfl rfl ?_
                  refine sf_R_iadd pm_M185 (pc' := 64) rfl rfl B1757 sf_k1 (by decide) (by decide) (fun z2189 e2190 B2191 => ?_)
                  refine rf_R_ist pm_M185 T2181 (pc' := 65) rfl e2183 (by decide) (by decide) rfl ⟨_, rfl⟩ rfl (fun h2192 T2193 F2194 e2195 => ?_)
                  have F2196 := F2184.trans F2194 (by decide)
                  have ct2197 : rf_ct 3 (upd (upd (upd (upd f2 (Int32.toNatClampNeg z2148) 2) (Int32.toNatClampNeg z2161) (m1760 14)) (Int32.toNatClampNeg z2174) (m2071 14)) (Int32.toNatClampNeg 0) z2189) := (sf_eqL rfl (sf_weak B2191 (by decide) (by decide)))
                  have bd2198 : (m2125 17).toInt = 0 → rf_bd 3 (upd (upd (upd (upd f2 (Int32.toNatClampNeg z2148) 2) (Int32.toNatClampNeg z2161) (m1760 14)) (Int32.toNatClampNeg z2174) (m2071 14)) (Int32.toNatClampNeg 0) z2189) := fun z => (sf_pos B2134 (by decide) z)
                  refine pm_R_ret pm_M185 (r := none) rfl rfl ?_
                  show pm_R _ 192 173 [.ref 41, .long a0, pm_no, .int a1, .int 2] [] _ _
                  refine pm_R_op pm_M192 (pc' := 174) (st' := [.int 1]) (pm_q192_1 (Nat.le_of_ble_eq_true rfl)) rfl rfl ?_
                  have B2199 : sf_B 0 600 (m2125 10) := T2193.2.2.1 10
                  exact pm_R_ret pm_M192 (r := some (.int 1)) (pm_q192_1 (Nat.le_of_ble_eq_true rfl)) rfl (K1 m2125 w2126 h2192 T2193 F2196 W2137 (⟨(upd (upd (upd (upd f2 (Int32.toNatClampNeg z2148) 2) (Int32.toNatClampNeg z2161) (m1760 14)) (Int32.toNatClampNeg z2174) (m2071 14)) (Int32.toNatClampNeg 0) z2189), e2195, ct2197, fun z => (sf_pos B2134 (by decide) z)⟩) (sf_aux110 _ _ _ _ _ X1766 X2077 X2131))
                · have B2200 : sf_B 0 9 (m2071 14) := sf_leL (Int32.not_lt.mp c2093) B2086 sf_k9
                  refine pm_R_lo pm_M183 (pc' := 32) rfl rfl rfl ?_
                  refine rf_R_get pm_M183 T2089 (pc' := 35) (v := .int (m2071 14)) rfl rfl rfl rfl ?_
                  refine pm_R_lo pm_M183 (pc' := 36) rfl rfl rfl ?_
                  refine pm_R_icmp pm_M183 (t := 53) (pc' := 39) rfl rfl rfl (fun c2201 => ?_) (fun c2201 => absurd (Classical.not_not.mp c2201) (sf_neq1 B2200 sf_kn1 (by decide)))
                  skip
                  refine pm_R_lo pm_M183 (pc' := 54) rfl rfl rfl ?_
                  refine pm_R_cv pm_M183 (pc' := 57) (a := 41) (ra := []) (rest := []) (ls' := [.ref 41, pm_no, pm_no]) rfl rfl (Or.inl rfl) pm_M179 T2089.2.1 rfl (by decide) (Nat.lt_of_lt_of_le (by decide) T2089.1) rfl rfl (Nat.le_of_ble_eq_true rfl) rfl rfl ?_
                  have B2202 : sf_B 0 600 (m2071 10) := T2089.2.2.1 10
                  refine rf_c179 (d := d + 0) T2089  (fun m2205 w2206 h2207 T2208 F2209 W2210 X2211 X2212 => ?_)
                  have F2213 := F2092.trans F2209 (by decide)
                  have B2214 : sf_B 0 4 (m2205 17) := by rw [W2210 17 (by decide)]; exact B2080
                  have ek2215 : (m2205 17).toInt = ((m 17)).toInt := by rw [W2210 17 (by decide)]; exact ek2081
                  have W2216 : rf_W [10, 12, 13, 14, 16, 17, 18, 22] m m2205 := W2082.trans W2210 (by decide)
                  show pm_R _ 183 57 [.ref 41, .int 2, .int 9, .int (-1)] [] _ _
                  refine pm_R_op pm_M183 (pc' := 58) (st' := [.int 1]) rfl rfl rfl ?_
                  refine pm_R_ret pm_M183 (r := some (.int 1)) rfl rfl ?_
                  show pm_R _ 192 158 [.ref 41, .long a0, pm_no, .int a1, .int 2] [.int 1] _ _
                  refine pm_R_br pm_M192 (pc' := 163) (st' := []) (pm_q192_1 (Nat.le_of_ble_eq_true rfl)) rfl ?_
                  refine pm_R_lo pm_M192 (pc' := 164) (pm_q192_1 (Nat.le_of_ble_eq_true rfl)) rfl rfl ?_
                  refine pm_R_op pm_M192 (pc' := 165) (st' := [.int 0, .ref 41]) (pm_q192_1 (Nat.le_of_ble_eq_true rfl)) rfl rfl ?_
                  refine pm_R_op pm_M192 (pc' := 166) (st' := [.int 1, .int 0, .ref 41]) (pm_q192_1 (Nat.le_of_ble_eq_true rfl)) rfl rfl ?_
                  refine pm_R_op pm_M192 (pc' := 167) (st' := [.int 3, .int 1, .int 0, .ref 41]) (pm_q192_1 (Nat.le_of_ble_eq_true rfl)) rfl rfl ?_
                  refine pm_R_op pm_M192 (pc' := 169) (st' := [.int 8, .int 3, .int 1, .int 0, .ref 41]) (pm_q192_1 (Nat.le_of_ble_eq_true rfl)) rfl rfl ?_
                  refine pm_R_op pm_M192 (pc' := 170) (st' := [.int 0, .int 8, .int 3, .int 1, .int 0, .ref 41]) (pm_q192_1 (Nat.le_of_ble_eq_true rfl)) rfl rfl ?_
                  refine pm_R_cv pm_M192 (pc' := 173) (a := 41) (ra := [.int 0, .int 8, .int 3, .int 1, .int 0]) (rest := []) (ls' := [.ref 41, .int 0, .int 1, .int 3, .int 8, .int 0, pm_no, pm_no]) (pm_q192_1 (Nat.le_of_ble_eq_true rfl)) rfl (Or.inl rfl) pm_M185 T2208.2.1 rfl (by decide) (Nat.lt_of_lt_of_le (by decide) T2208.1) rfl rfl (Nat.le_of_ble_eq_true rfl) rfl rfl ?_
                  refine pm_R_lo pm_M185 (pc' := 1) rfl rfl rfl ?_
                  refine rf_R_get pm_M185 T2208 (pc' := 4) (v := .ref 51) rfl rfl rfl rfl ?_
                  refine pm_R_lo pm_M185 (pc' := 5) rfl rfl rfl ?_
                  have e2217 := (F2209.cell (by decide) (F2090.cell (by decide) (F2075.cell (by decide) (F1806.cell (by decide) (F1797.cell (by decide) (F1792.cell (by decide) (F1787.cell (by decide) (F1782.cell (by decide) (F1777.cell (by decide) (F1764.cell (by decide) e3))))))))))
                  refine pm_R_iald pm_M185 (pc' := 6) (v := (f2 0)) rfl e2217 (Nat.lt_of_lt_of_le (by decide) T2208.1) rfl rfl rfl ?_
                  refine pm_R_lo pm_M185 (pc' := 8) (ls' := [.ref 41, .int 0, .int 1, .int 3, .int 8, .int 0, .int (f2 0), pm_no]) (st' := []) rfl rfl rfl ?_
                  refine pm_R_lo pm_M185 (pc' := 10) rfl rfl rfl ?_
                  refine pm_R_lo pm_M185 (pc' := 12) rfl rfl rfl ?_
                  refine pm_R_icmp pm_M185 (t := 16) (pc' := 15) rfl rfl rfl (fun c2220 => ?_) (fun c2220 => absurd (Classical.not_not.mp c2220) (sf_neq2 B1757 sf_k8 (by decide)))
                  skip
                  refine pm_R_op pm_M185 (pc' := 17) (st' := [.int 0]) rfl rfl rfl ?_
                  refine pm_R_lo pm_M185 (pc' := 19) (ls' := [.ref 41, .int 0, .int 1, .int 3, .int 8, .int 0, .int (f2 0), .int 0]) (st' := []) rfl rfl rfl ?_
                  refine pm_R_lo pm_M185 (pc' := 21) rfl rfl rfl ?_
                  refine pm_R_lo pm_M185 (pc' := 22) rfl rfl rfl ?_
                  refine pm_R_br pm_M185 (pc' := 25) (st' := []) rfl rfl ?_
                  refine pm_R_lo pm_M185 (pc' := 26) rfl rfl rfl ?_
                  refine rf_R_get pm_M185 T2208 (pc' := 29) (v := .ref 51) rfl rfl rfl rfl ?_
                  refine pm_R_lo pm_M185 (pc' := 30) rfl rfl rfl ?_
                  refine pm_R_lo pm_M185 (pc' := 31) rfl rfl rfl ?_
                  refine pm_R_lo pm_M185 (pc' := 33) rfl rfl rfl ?_
                  refine sf_R_imul pm_M185 (pc' := 34) rfl rfl sf_k3 B1757 (by decide) (by decide) (by decide) (fun z2221 e2222 B2223 => ?_)
                  refine sf_R_iadd pm_M185 (pc' := 35) rfl rfl sf_k1 B2223 (by decide) (by decide) (fun z2224 e2225 B2226 => ?_)
                  refine pm_R_lo pm_M185 (pc' := 37) rfl rfl rfl ?_
                  refine sf_R_iadd pm_M185 (pc' := 38) rfl rfl B2226 sf_k0 (by decide) (by decide) (fun z2227 e2228 B2229 => ?_)
                  refine pm_R_lo pm_M185 (pc' := 39) rfl rfl rfl ?_
                  refine rf_R_get pm_M185 T2208 (pc' := 42) (v := .ref 52) rfl rfl rfl rfl ?_
                  refine pm_R_lo pm_M185 (pc' := 44) rfl rfl rfl ?_
                  refine pm_R_lo pm_M185 (pc' := 46) rfl rfl rfl ?_
                  refine pm_R_op pm_M185 (pc' := 47) (st' := [.int 0, .ref 52, .int z2227, .ref 51]) rfl rfl rfl ?_
                  have e2230 := (F2209.cell (by decide) e2091)
                  refine pm_R_iald pm_M185 (pc' := 48) (v := 2) rfl e2230 (Nat.lt_of_lt_of_le (by decide) T2208.1) rfl (Eq.trans (show (upd (upd (upd (upd (upd (upd (upd f1772 (Int32.toNatClampNeg 0) (-1)) (Int32.toNatClampNeg 1) (-1)) (Int32.toNatClampNeg 2) (-1)) (Int32.toNatClampNeg 3) (-1)) (Int32.toNatClampNeg 0) 2) (Int32.toNatClampNeg 1) (m1760 14)) (Int32.toNatClampNeg 2) (m2071 14)) (Int32.toNatClampNeg 0) = (upd (upd (upd (upd (upd (upd f1772 (Int32.toNatClampNeg 0) (-1)) (Int32.toNatClampNeg 1) (-1)) (Int32.toNatClampNeg 2) (-1)) (Int32.toNatClampNeg 3) (-1)) (Int32.toNatClampNeg 0) 2) (Int32.toNatClampNeg 1) (m1760 14)) (Int32.toNatClampNeg 0) from rfl) (Eq.trans (show (upd (upd (upd (upd (upd (upd f1772 (Int32.toNatClampNeg 0) (-1)) (Int32.toNatClampNeg 1) (-1)) (Int32.toNatClampNeg 2) (-1)) (Int32.toNatClampNeg 3) (-1)) (Int32.toNatClampNeg 0) 2) (Int32.toNatClampNeg 1) (m1760 14)) (Int32.toNatClampNeg 0) = (upd (upd (upd (upd (upd f1772 (Int32.toNatClampNeg 0) (-1)) (Int32.toNatClampNeg 1) (-1)) (Int32.toNatClampNeg 2) (-1)) (Int32.toNatClampNeg 3) (-1)) (Int32.toNatClampNeg 0) 2) (Int32.toNatClampNeg 0) from rfl) rfl)) rfl ?_
                  refine rf_R_ist pm_M185 T2208 (pc' := 49) rfl e2217 (by decide) (by decide) (sf_in B2229 (by decide) (by decide)) ⟨_, rfl⟩ rfl (fun h2233 T2234 F2235 e2236 => ?_)
                  have F2237 := F2213.trans F2235 (by decide)
                  have w2238 := rf_w3s (sf_aux119 _ _ _ _ e2222 e2225 e2228) B1757
                  have ct2239 : rf_ct 3 (upd f2 (Int32.toNatClampNeg z2227) 2) := (sf_eqL (Eq.trans (sf_upd_ne (j := Int32.toNatClampNeg 0) B2229 (by decide) (by decide)) rfl) (sf_weak B1757 (by decide) (by decide)))
                  have bd2240 : (m2205 17).toInt = 0 → rf_bd 3 (upd f2 (Int32.toNatClampNeg z2227) 2) := fun z => ((bd5 (sf_aux53 _ _ ek2215 z)).set (k := z2227) (sf_weak sf_k2 (by decide) (by decide)) w2238.1 w2238.2)
                  refine pm_R_lo pm_M185 (pc' := 52) (ls' := [.ref 41, .int 0, .int 1, .int 3, .int 8, .int 0, .int (f2 0), .int 1]) (st' := []) rfl rfl rfl ?_
                  refine pm_R_br pm_M185 (pc' := 19) rfl rfl ?_
                  refine pm_R_lo pm_M185 (pc' := 21) rfl rfl rfl ?_
                  refine pm_R_lo pm_M185 (pc' := 22) rfl rfl rfl ?_
                  refine pm_R_br pm_M185 (pc' := 25) (st' := []) rfl rfl ?_
                  refine pm_R_lo pm_M185 (pc' := 26) rfl rfl rfl ?_
                  refine rf_R_get pm_M185 T2234 (pc' := 29) (v := .ref 51) rfl rfl rfl rfl ?_
                  refine pm_R_lo pm_M185 (pc' := 30) rfl rfl rfl ?_
                  refine pm_R_lo pm_M185 (pc' := 31) rfl rfl rfl ?_
                  refine pm_R_lo pm_M185 (pc' := 33) rfl rfl rfl ?_
                  refine sf_R_imulV pm_M185 (pc' := 34) rfl rfl sf_k3 B1757 (by decide) (by decide) (by decide) e2222 ?_
                  refine sf_R_iaddV pm_M185 (pc' := 35) rfl rfl sf_k1 B2223 (by decide) (by decide) e2225 ?_
                  refine pm_R_lo pm_M185 (pc' := 37) rfl rfl rfl ?_
                  refine sf_R_iadd pm_M185 (pc' := 38) rfl rfl B2226 sf_k1 (by decide) (by decide) (fun z2241 e2242 B2243 => ?_)
                  refine pm_R_lo pm_M185 (pc' := 39) rfl rfl rfl ?_
                  refine rf_R_get pm_M185 T2234 (pc' := 42) (v := .ref 52) rfl rfl rfl rfl ?_
                  refine pm_R_lo pm_M185 (pc' := 44) rfl rfl rfl ?_
                  refine pm_R_lo pm_M185 (pc' := 46) rfl rfl rfl ?_
                  refine pm_R_op pm_M185 (pc' := 47) (st' := [.int 1, .ref 52, .int z2241, .ref 51]) rfl rfl rfl ?_
                  have e2244 := (F2235.cell (by decide) e2230)
                  refine pm_R_iald pm_M185 (pc' := 48) (v := (m1760 14)) rfl e2244 (Nat.lt_of_lt_of_le (by decide) T2234.1) rfl (Eq.trans (show (upd (upd (upd (upd (upd (upd (upd f1772 (Int32.toNatClampNeg 0) (-1)) (Int32.toNatClampNeg 1) (-1)) (Int32.toNatClampNeg 2) (-1)) (Int32.toNatClampNeg 3) (-1)) (Int32.toNatClampNeg 0) 2) (Int32.toNatClampNeg 1) (m1760 14)) (Int32.toNatClampNeg 2) (m2071 14)) (Int32.toNatClampNeg 1) = (upd (upd (upd (upd (upd (upd f1772 (Int32.toNatClampNeg 0) (-1)) (Int32.toNatClampNeg 1) (-1)) (Int32.toNatClampNeg 2) (-1)) (Int32.toNatClampNeg 3) (-1)) (Int32.toNatClampNeg 0) 2) (Int32.toNatClampNeg 1) (m1760 14)) (Int32.toNatClampNeg 1) from rfl) rfl) rfl ?_
                  refine rf_R_ist pm_M185 T2234 (pc' := 49) rfl e2236 (by decide) (by decide) (sf_in B2243 (by decide) (by decide)) ⟨_, rfl⟩ rfl (fun h2247 T2248 F2249 e2250 => ?_)
                  have F2251 := F2237.trans F2249 (by decide)
                  have w2252 := rf_w3f (sf_aux120 _ _ _ _ e2222 e2225 e2242) B1757
                  have ct2253 : rf_ct 3 (upd (upd f2 (Int32.toNatClampNeg z2227) 2) (Int32.toNatClampNeg z2241) (m1760 14)) := (sf_eqL (Eq.trans (sf_upd_ne (j := Int32.toNatClampNeg 0) B2243 (by decide) (by decide)) (Eq.trans (sf_upd_ne (j := Int32.toNatClampNeg 0) B2229 (by decide) (by decide)) rfl)) (sf_weak B1757 (by decide) (by decide)))
                  have bd2254 : (m2205 17).toInt = 0 → rf_bd 3 (upd (upd f2 (Int32.toNatClampNeg z2227) 2) (Int32.toNatClampNeg z2241) (m1760 14)) := fun z => ((bd2240 z).set (k := z2241) B2066 w2252.1 w2252.2)
                  refine pm_R_lo pm_M185 (pc' := 52) (ls' := [.ref 41, .int 0, .int 1, .int 3, .int 8, .int 0, .int (f2 0), .int 2]) (st' := []) rfl rfl rfl ?_
                  refine pm_R_br pm_M185 (pc' := 19) rfl rfl ?_
                  refine pm_R_lo pm_M185 (pc' := 21) rfl rfl rfl ?_
                  refine pm_R_lo pm_M185 (pc' := 22) rfl rfl rfl ?_
                  refine pm_R_br pm_M185 (pc' := 25) (st' := []) rfl rfl ?_
                  refine pm_R_lo pm_M185 (pc' := 26) rfl rfl rfl ?_
                  refine rf_R_get pm_M185 T2248 (pc' := 29) (v := .ref 51) rfl rfl rfl rfl ?_
                  refine pm_R_lo pm_M185 (pc' := 30) rfl rfl rfl ?_
                  refine pm_R_lo pm_M185 (pc' := 31) rfl rfl rfl ?_
                  refine pm_R_lo pm_M185 (pc' := 33) rfl rfl rfl ?_
                  refine sf_R_imulV pm_M185 (pc' := 34) rfl rfl sf_k3 B1757 (by decide) (by decide) (by decide) e2222 ?_
                  refine sf_R_iaddV pm_M185 (pc' := 35) rfl rfl sf_k1 B2223 (by decide) (by decide) e2225 ?_
                  refine pm_R_lo pm_M185 (pc' := 37) rfl rfl rfl ?_
                  refine sf_R_iadd pm_M185 (pc' := 38) rfl rfl B2226 sf_k2 (by decide) (by decide) (fun z2255 e2256 B2257 => ?_)
                  refine pm_R_lo pm_M185 (pc' := 39) rfl rfl rfl ?_
                  refine rf_R_get pm_M185 T2248 (pc' := 42) (v := .ref 52) rfl rfl rfl rfl ?_
                  refine pm_R_lo pm_M185 (pc' := 44) rfl rfl rfl ?_
                  refine pm_R_lo pm_M185 (pc' := 46) rfl rfl rfl ?_
                  refine pm_R_op pm_M185 (pc' := 47) (st' := [.int 2, .ref 52, .int z2255, .ref 51]) rfl rfl rfl ?_
                  have e2258 := (F2249.cell (by decide) e2244)
                  refine pm_R_iald pm_M185 (pc' := 48) (v := (m2071 14)) rfl e2258 (Nat.lt_of_lt_of_le (by decide) T2248.1) rfl rfl rfl ?_
                  refine rf_R_ist pm_M185 T2248 (pc' := 49) rfl e2250 (by decide) (by decide) (sf_in B2257 (by decide) (by decide)) ⟨_, rfl⟩ rfl (fun h2261 T2262 F2263 e2264 => ?_)
                  have F2265 := F2251.trans F2263 (by decide)
                  have w2266 := rf_w3o (sf_aux121 _ _ _ _ e2222 e2225 e2256) B1757
                  have ct2267 : rf_ct 3 (upd (upd (upd f2 (Int32.toNatClampNeg z2227) 2) (Int32.toNatClampNeg z2241) (m1760 14)) (Int32.toNatClampNeg z2255) (m2071 14)) := (sf_eqL (Eq.trans (sf_upd_ne (j := Int32.toNatClampNeg 0) B2257 (by decide) (by decide)) (Eq.trans (sf_upd_ne (j := Int32.toNatClampNeg 0) B2243 (by decide) (by decide)) (Eq.trans (sf_upd_ne (j := Int32.toNatClampNeg 0) B2229 (by decide) (by decide)) rfl))) (sf_weak B1757 (by decide) (by decide)))
                  have bd2268 : (m2205 17).toInt = 0 → rf_bd 3 (upd (upd (upd f2 (Int32.toNatClampNeg z2227) 2) (Int32.toNatClampNeg z2241) (m1760 14)) (Int32.toNatClampNeg z2255) (m2071 14)) := fun z => ((bd2254 z).set (k := z2255) (sf_weak B2200 (by decide) (by decide)) w2266.1 w2266.2)
                  refine pm_R_lo pm_M185 (pc' := 52) (ls' := [.ref 41, .int 0, .int 1, .int 3, .int 8, .int 0, .int (f2 0), .int 3]) (st' := []) rfl rfl rfl ?_
                  refine pm_R_br pm_M185 (pc' := 19) rfl rfl ?_
                  refine pm_R_lo pm_M185 (pc' := 21) rfl rfl rfl ?_
                  refine pm_R_lo pm_M185 (pc' := 22) rfl rfl rfl ?_
                  refine pm_R_br pm_M185 (pc' := 55) (st' := []) rfl rfl ?_
                  refine pm_R_lo pm_M185 (pc' := 56) rfl rfl rfl ?_
                  refine rf_R_get pm_M185 T2262 (pc' := 59) (v := .ref 51) rfl rfl rfl rfl ?_
                  refine pm_R_lo pm_M185 (pc' := 60) rfl rfl rfl ?_
                  refine pm_R_op pm_M185 (pc' := 61) (st' := [.int 0, .ref 51, .int 0, .ref 51]) rfl rfl rfl ?_
                  refine pm_R_iald pm_M185 (pc' := 62) (v := (f2 0)) rfl e2264 (Nat.lt_of_lt_of_le (by decide) T2262.1) rfl (Eq.trans (sf_upd_ne (j := Int32.toNatClampNeg 0) B2257 (by decide) (by decide)) (Eq.trans (sf_upd_ne (j := Int32.toNatClampNeg 0) B2243 (by decide) (by decide)) (Eq.trans (sf_upd_ne (j := Int32.toNatClampNeg 0) B2229 (by decide) (by decide)) rfl))) rfl ?_
                  refine pm_R_op pm_M185 (pc' := 63) (st' := [.int 1, .int (f2 0), .int 0, .ref 51]) rfl rfl rfl ?_
                  refine sf_R_iadd pm_M185 (pc' := 64) rfl rfl B1757 sf_k1 (by decide) (by decide) (fun z2271 e2272 B2273 => ?_)
                  refine rf_R_ist pm_M185 T2262 (pc' := 65) rfl e2264 (by decide) (by decide) rfl ⟨_, rfl⟩ rfl (fun h2274 T2275 F2276 e2277 => ?_)
                  have F2278 := F2265.trans F2276 (by decide)
                  have ct2279 : rf_ct 3 (upd (upd (upd (upd f2 (Int32.toNatClampNeg z2227) 2) (Int32.toNatClampNeg z2241) (m1760 14)) (Int32.toNatClampNeg z2255) (m2071 14)) (Int32.toNatClampNeg 0) z2271) := (sf_eqL rfl (sf_weak B2273 (by decide) (by decide)))
                  have bd2280 : (m2205 17).toInt = 0 → rf_bd 3 (upd (upd (upd (upd f2 (Int32.toNatClampNeg z2227) 2) (Int32.toNatClampNeg z2241) (m1760 14)) (Int32.toNatClampNeg z2255) (m2071 14)) (Int32.toNatClampNeg 0) z2271) := fun z => ((bd2268 z).set (k := 0) B2273 (by decide) (by decide))
                  refine pm_R_ret pm_M185 (r := none) rfl rfl ?_
                  show pm_R _ 192 173 [.ref 41, .long a0, pm_no, .int a1, .int 2] [] _ _
                  refine pm_R_op pm_M192 (pc' := 174) (st' := [.int 1]) (pm_q192_1 (Nat.le_of_ble_eq_true rfl)) rfl rfl ?_
                  have B2281 : sf_B 0 600 (m2205 10) := T2275.2.2.1 10
                  exact pm_R_ret pm_M192 (r := some (.int 1)) (pm_q192_1 (Nat.le_of_ble_eq_true rfl)) rfl (K1 m2205 w2206 h2274 T2275 F2278 W2216 (⟨(upd (upd (upd (upd f2 (Int32.toNatClampNeg z2227) 2) (Int32.toNatClampNeg z2241) (m1760 14)) (Int32.toNatClampNeg z2255) (m2071 14)) (Int32.toNatClampNeg 0) z2271), e2277, ct2279, fun z => (bd2280 z)⟩) (sf_aux111 _ _ _ _ X1766 X2077 X2211))
              · skip
                refine pm_R_lo pm_M183 (pc' := 9) rfl rfl rfl ?_
                refine pm_R_cv pm_M183 (pc' := 12) (a := 41) (ra := []) (rest := []) (ls' := [.ref 41]) rfl rfl (Or.inl rfl) pm_M184 T2074.2.1 rfl (by decide) (Nat.lt_of_lt_of_le (by decide) T2074.1) rfl rfl (Nat.le_of_ble_eq_true rfl) rfl rfl ?_
                refine pm_R_lo pm_M184 (pc' := 1) rfl rfl rfl ?_
                refine pm_R_lo pm_M184 (pc' := 2) rfl rfl rfl ?_
                have B2282 : sf_B 0 600 (m2071 12) := T2074.2.2.1 12
                refine rf_R_get pm_M184 T2074 (pc' := 5) (v := .int (m2071 12)) rfl rfl rfl rfl ?_
                refine rf_R_put pm_M184 T2074 (pc' := 8) rfl rfl rfl (by decide) rfl rfl B2282 rfl rfl (fun h2283 m2286 em2287 T2284 F2285 => ?_)
                have F2288 := F2079.trans F2285 (by decide)
                have B2289 : sf_B 0 4 (m2286 17) := by rw [em2287]; exact B2080
                have ek2290 : (m2286 17).toInt = ((m 17)).toInt := by rw [em2287]; exact ek2081
                have B2291 : sf_B 0 600 (m2286 16) := by rw [em2287]; exact B2282
                have ek2292 : (m2286 16).toInt = ((m2071 12)).toInt := by rw [em2287]; rfl
                have W2293 : rf_W [10, 12, 13, 14, 16, 17, 18, 22] m m2286 := by rw [em2287]; exact W2082.put (by decide)
                refine pm_R_op pm_M184 (pc' := 9) (st' := [.int 0]) rfl rfl rfl ?_
                refine pm_R_ret pm_M184 (r := some (.int 0)) rfl rfl ?_
                show pm_R _ 183 12 [.ref 41, .int 2, .int 9, .int (-1)] [.int 0] _ _
                refine pm_R_ret pm_M183 (r := some (.int 0)) rfl rfl ?_
                show pm_R _ 192 158 [.ref 41, .long a0, pm_no, .int a1, .int 2] [.int 0] _ _
                refine pm_R_br pm_M192 (pc' := 161) (st' := []) (pm_q192_1 (Nat.le_of_ble_eq_true rfl)) rfl ?_
                refine pm_R_op pm_M192 (pc' := 162) (st' := [.int 0]) (pm_q192_1 (Nat.le_of_ble_eq_true rfl)) rfl rfl ?_
                have B2294 : sf_B 0 600 (m2286 10) := T2284.2.2.1 10
                exact pm_R_ret pm_M192 (r := some (.int 0)) (pm_q192_1 (Nat.le_of_ble_eq_true rfl)) rfl (K0 m2286 w2072 h2283 T2284 F2288 W2293 (sf_aux90 _ _ _ _ X1766 X2077))
          · skip
            refine pm_R_lo pm_M183 (pc' := 9) rfl rfl rfl ?_
            refine pm_R_cv pm_M183 (pc' := 12) (a := 41) (ra := []) (rest := []) (ls' := [.ref 41]) rfl rfl (Or.inl rfl) pm_M184 T1796.2.1 rfl (by decide) (Nat.lt_of_lt_of_le (by decide) T1796.1) rfl rfl (Nat.le_of_ble_eq_true rfl) rfl rfl ?_
            refine pm_R_lo pm_M184 (pc' := 1) rfl rfl rfl ?_
            refine pm_R_lo pm_M184 (pc' := 2) rfl rfl rfl ?_
            have B2295 : sf_B 0 600 (m1760 12) := T1796.2.2.1 12
            refine rf_R_get pm_M184 T1796 (pc' := 5) (v := .int (m1760 12)) rfl rfl rfl rfl ?_
            refine rf_R_put pm_M184 T1796 (pc' := 8) rfl rfl rfl (by decide) rfl rfl B2295 rfl rfl (fun h2296 m2299 em2300 T2297 F2298 => ?_)
            have F2301 := F1799.trans F2298 (by decide)
            have B2302 : sf_B 0 4 (m2299 17) := by rw [em2300]; exact B1769
            have ek2303 : (m2299 17).toInt = ((m 17)).toInt := by rw [em2300]; exact ek1770
            have B2304 : sf_B 0 600 (m2299 16) := by rw [em2300]; exact B2295
            have ek2305 : (m2299 16).toInt = ((m1760 12)).toInt := by rw [em2300]; rfl
            have W2306 : rf_W [10, 12, 13, 14, 16, 17, 18, 22] m m2299 := by rw [em2300]; exact W1771.put (by decide)
            refine pm_R_op pm_M184 (pc' := 9) (st' := [.int 0]) rfl rfl rfl ?_
            refine pm_R_ret pm_M184 (r := some (.int 0)) rfl rfl ?_
            show pm_R _ 183 12 [.ref 41, .int 1, .int 9, .int (-1)] [.int 0] _ _
            refine pm_R_ret pm_M183 (r := some (.int 0)) rfl rfl ?_
            show pm_R _ 192 127 [.ref 41, .long a0, pm_no, .int a1, .int 2] [.int 0] _ _
            refine pm_R_br pm_M192 (pc' := 130) (st' := []) (pm_q192_1 (Nat.le_of_ble_eq_true rfl)) rfl ?_
            refine pm_R_op pm_M192 (pc' := 131) (st' := [.int 0]) (pm_q192_1 (Nat.le_of_ble_eq_true rfl)) rfl rfl ?_
            have B2307 : sf_B 0 600 (m2299 10) := T2297.2.2.1 10
            exact pm_R_ret pm_M192 (r := some (.int 0)) (pm_q192_1 (Nat.le_of_ble_eq_true rfl)) rfl (K0 m2299 w1761 h2296 T2297 F2301 W2306 (sf_aux91 _ _ _ X1766))
        · have B2308 : sf_B 8 8 (f2 0) := sf_eqL (Classical.not_not.mp c1756) sf_k8
          refine pm_R_lo pm_M192 (pc' := 98) rfl rfl rfl ?_
          refine pm_R_op pm_M192 (pc' := 99) (st' := [.int 3, .ref 41]) rfl rfl rfl ?_
          refine pm_R_lo pm_M192 (pc' := 100) rfl rfl rfl ?_
          refine pm_R_cv pm_M192 (pc' := 103) (a := 41) (ra := [.int a1, .int 3]) (rest := []) (ls' := [.ref 41, .int 3, .int a1]) rfl rfl (Or.inl rfl) pm_M182 T.2.1 rfl (by decide) (Nat.lt_of_lt_of_le (by decide) T.1) rfl rfl (Nat.le_of_ble_eq_true rfl) rfl rfl ?_
          refine rf_c182 (d := d + 2) T (sf_weak sf_k3 (by decide) (by decide)) Ba1 (fun m2311 w2312 h2313 T2314 F2315 W2316 B2317 => ?_)
          have F2318 := (rf_G.refl [41, 51, 52] h).trans F2315 (by decide)
          have B2319 : sf_B 0 600 (m2311 10) := by rw [W2316 10 (by decide)]; exact B1
          have ek2320 : (m2311 10).toInt = ((m 10)).toInt := by rw [W2316 10 (by decide)]
          have W2321 : rf_W [10, 12, 13, 14, 16, 17, 18, 22] m m2311 := (rf_W.refl [10, 12, 13, 14, 16, 17, 18, 22] m).trans W2316 (by decide)
          show pm_R _ 192 103 [.ref 41, .long a0, pm_no, .int a1, .int 2] [] _ _
          refine pm_R_lo pm_M192 (pc' := 104) rfl rfl rfl ?_
          refine pm_R_cv pm_M192 (pc' := 107) (a := 41) (ra := []) (rest := []) (ls' := [.ref 41, pm_no, pm_no]) rfl rfl (Or.inl rfl) pm_M179 T2314.2.1 rfl (by decide) (Nat.lt_of_lt_of_le (by decide) T2314.1) rfl rfl (Nat.le_of_ble_eq_true rfl) rfl rfl ?_
          refine rf_c179 (d := d + 1) T2314  (fun m2324 w2325 h2326 T2327 F2328 W2329 X2330 X2331 => ?_)
          have F2332 := F2318.trans F2328 (by decide)
          have B2333 : sf_B 1 4 (m2324 17) := by rw [W2329 17 (by decide)]; exact B2317
          have ek2334 : (m2324 17).toInt = ((m2311 17)).toInt := by rw [W2329 17 (by decide)]
          have W2335 : rf_W [10, 12, 13, 14, 16, 17, 18, 22] m m2324 := W2321.trans W2329 (by decide)
          show pm_R _ 192 107 [.ref 41, .long a0, pm_no, .int a1, .int 2] [] _ _
          refine pm_R_lo pm_M192 (pc' := 108) rfl rfl rfl ?_
          refine pm_R_cv pm_M192 (pc' := 111) (a := 41) (ra := []) (rest := []) (ls' := [.ref 41, pm_no]) rfl rfl (Or.inl rfl) pm_M190 T2327.2.1 rfl (by decide) (Nat.lt_of_lt_of_le (by decide) T2327.1) rfl rfl (Nat.le_of_ble_eq_true rfl) rfl rfl ?_
          refine pm_R_op pm_M190 (pc' := 1) (st' := [.int 0]) rfl rfl rfl ?_
          refine pm_R_lo pm_M190 (pc' := 2) (ls' := [.ref 41, .int 0]) (st' := []) rfl rfl rfl ?_
          refine pm_R_lo pm_M190 (pc' := 3) rfl rfl rfl ?_
          refine pm_R_op pm_M190 (pc' := 4) (st' := [.int 4, .int 0]) rfl rfl rfl ?_
          refine pm_R_br pm_M190 (pc' := 7) (st' := []) rfl rfl ?_
          refine pm_R_lo pm_M190 (pc' := 8) rfl rfl rfl ?_
          refine rf_R_get pm_M190 T2327 (pc' := 11) (v := .ref 52) rfl rfl rfl rfl ?_
          refine pm_R_lo pm_M190 (pc' := 12) rfl rfl rfl ?_
          refine pm_R_op pm_M190 (pc' := 13) (st' := [.int (-1), .int 0, .ref 52]) rfl rfl rfl ?_
          obtain ⟨f2336, e2337, b2338⟩ := T2327.2.2.2.1 52 (by decide) (by decide)
          refine rf_R_ist pm_M190 T2327 (pc' := 14) rfl e2337 (by decide) (by decide) rfl ⟨_, rfl, sf_upd b2338 (sf_weak sf_kn1 (by decide) (by decide)) _⟩ rfl (fun h2339 T2340 F2341 e2342 => ?_)
          have F2343 := F2332.trans F2341 (by decide)
          refine pm_R_lo pm_M190 (pc' := 17) (ls' := [.ref 41, .int 1]) (st' := []) rfl rfl rfl ?_
          refine pm_R_br pm_M190 (pc' := 2) rfl rfl ?_
          refine pm_R_lo pm_M190 (pc' := 3) rfl rfl rfl ?_
          refine pm_R_op pm_M190 (pc' := 4) (st' := [.int 4, .int 1]) rfl rfl rfl ?_
          refine pm_R_br pm_M190 (pc' := 7) (st' := []) rfl rfl ?_
          refine pm_R_lo pm_M190 (pc' := 8) rfl rfl rfl ?_
          refine rf_R_get pm_M190 T2340 (pc' := 11) (v := .ref 52) rfl rfl rfl rfl ?_
          refine pm_R_lo pm_M190 (pc' := 12) rfl rfl rfl ?_
          refine pm_R_op pm_M190 (pc' := 13) (st' := [.int (-1), .int 1, .ref 52]) rfl rfl rfl ?_
          refine rf_R_ist pm_M190 T2340 (pc' := 14) rfl e2342 (by decide) (by decide) rfl ⟨_, rfl, sf_upd (sf_upd b2338 (sf_weak sf_kn1 (by decide) (by decide)) _) (sf_weak sf_kn1 (by decide) (by decide)) _⟩ rfl (fun h2344 T2345 F2346 e2347 => ?_)
          have F2348 := F2343.trans F2346 (by decide)
          refine pm_R_lo pm_M190 (pc' := 17) (ls' := [.ref 41, .int 2]) (st' := []) rfl rfl rfl ?_
          refine pm_R_br pm_M190 (pc' := 2) rfl rfl ?_
          refine pm_R_lo pm_M190 (pc' := 3) rfl rfl rfl ?_
          refine pm_R_op pm_M190 (pc' := 4) (st' := [.int 4, .int 2]) rfl rfl rfl ?_
          refine pm_R_br pm_M190 (pc' := 7) (st' := []) rfl rfl ?_
          refine pm_R_lo pm_M190 (pc' := 8) rfl rfl rfl ?_
          refine rf_R_get pm_M190 T2345 (pc' := 11) (v := .ref 52) rfl rfl rfl rfl ?_
          refine pm_R_lo pm_M190 (pc' := 12) rfl rfl rfl ?_
          refine pm_R_op pm_M190 (pc' := 13) (st' := [.int (-1), .int 2, .ref 52]) rfl rfl rfl ?_
          refine rf_R_ist pm_M190 T2345 (pc' := 14) rfl e2347 (by decide) (by decide) rfl ⟨_, rfl, sf_upd (sf_upd (sf_upd b2338 (sf_weak sf_kn1 (by decide) (by decide)) _) (sf_weak sf_kn1 (by decide) (by decide)) _) (sf_weak sf_kn1 (by decide) (by decide)) _⟩ rfl (fun h2349 T2350 F2351 e2352 => ?_)
          have F2353 := F2348.trans F2351 (by decide)
          refine pm_R_lo pm_M190 (pc' := 17) (ls' := [.ref 41, .int 3]) (st' := []) rfl rfl rfl ?_
          refine pm_R_br pm_M190 (pc' := 2) rfl rfl ?_
          refine pm_R_lo pm_M190 (pc' := 3) rfl rfl rfl ?_
          refine pm_R_op pm_M190 (pc' := 4) (st' := [.int 4, .int 3]) rfl rfl rfl ?_
          refine pm_R_br pm_M190 (pc' := 7) (st' := []) rfl rfl ?_
          refine pm_R_lo pm_M190 (pc' := 8) rfl rfl rfl ?_
          refine rf_R_get pm_M190 T2350 (pc' := 11) (v := .ref 52) rfl rfl rfl rfl ?_
          refine pm_R_lo pm_M190 (pc' := 12) rfl rfl rfl ?_
          refine pm_R_op pm_M190 (pc' := 13) (st' := [.int (-1), .int 3, .ref 52]) rfl rfl rfl ?_
          refine rf_R_ist pm_M190 T2350 (pc' := 14) rfl e2352 (by decide) (by decide) rfl ⟨_, rfl, sf_upd (sf_upd (sf_upd (sf_upd b2338 (sf_weak sf_kn1 (by decide) (by decide)) _) (sf_weak sf_kn1 (by decide) (by decide)) _) (sf_weak sf_kn1 (by decide) (by decide)) _) (sf_weak sf_kn1 (by decide) (by decide)) _⟩ rfl (fun h2354 T2355 F2356 e2357 => ?_)
          have F2358 := F2353.trans F2356 (by decide)
          refine pm_R_lo pm_M190 (pc' := 17) (ls' := [.ref 41, .int 4]) (st' := []) rfl rfl rfl ?_
          refine pm_R_br pm_M190 (pc' := 2) rfl rfl ?_
          refine pm_R_lo pm_M190 (pc' := 3) rfl rfl rfl ?_
          refine pm_R_op pm_M190 (pc' := 4) (st' := [.int 4, .int 4]) rfl rfl rfl ?_
          refine pm_R_br pm_M190 (pc' := 20) (st' := []) rfl rfl ?_
          refine pm_R_ret pm_M190 (r := none) rfl rfl ?_
          show pm_R _ 192 111 [.ref 41, .long a0, pm_no, .int a1, .int 2] [] _ _
          refine pm_R_lo pm_M192 (pc' := 112) rfl rfl rfl ?_
          refine rf_R_get pm_M192 T2355 (pc' := 115) (v := .ref 52) rfl rfl rfl rfl ?_
          refine pm_R_op pm_M192 (pc' := 116) (st' := [.int 0, .ref 52]) (pm_q192_1 (Nat.le_of_ble_eq_true rfl)) rfl rfl ?_
          refine pm_R_lo pm_M192 (pc' := 118) (pm_q192_1 (Nat.le_of_ble_eq_true rfl)) rfl rfl ?_
          refine rf_R_ist pm_M192 T2355 (pc' := 119) (pm_q192_1 (Nat.le_of_ble_eq_true rfl)) e2357 (by decide) (by decide) rfl ⟨_, rfl, sf_upd (sf_upd (sf_upd (sf_upd (sf_upd b2338 (sf_weak sf_kn1 (by decide) (by decide)) _) (sf_weak sf_kn1 (by decide) (by decide)) _) (sf_weak sf_kn1 (by decide) (by decide)) _) (sf_weak sf_kn1 (by decide) (by decide)) _) (sf_weak sf_k2 (by decide) (by decide)) _⟩ rfl (fun h2359 T2360 F2361 e2362 => ?_)
          have F2363 := F2358.trans F2361 (by decide)
          refine pm_R_lo pm_M192 (pc' := 120) (pm_q192_1 (Nat.le_of_ble_eq_true rfl)) rfl rfl ?_
          refine pm_R_op pm_M192 (pc' := 121) (st' := [.int 1, .ref 41]) (pm_q192_1 (Nat.le_of_ble_eq_true rfl)) rfl rfl ?_
          refine pm_R_op pm_M192 (pc' := 123) (st' := [.int 9, .int 1, .ref 41]) (pm_q192_1 (Nat.le_of_ble_eq_true rfl)) rfl rfl ?_
          refine pm_R_op pm_M192 (pc' := 124) (st' := [.int (-1), .int 9, .int 1, .ref 41]) (pm_q192_1 (Nat.le_of_ble_eq_true rfl)) rfl rfl ?_
          refine pm_R_cv pm_M192 (pc' := 127) (a := 41) (ra := [.int (-1), .int 9, .int 1]) (rest := []) (ls' := [.ref 41, .int 1, .int 9, .int (-1)]) (pm_q192_1 (Nat.le_of_ble_eq_true rfl)) rfl (Or.inl rfl) pm_M183 T2360.2.1 rfl (by decide) (Nat.lt_of_lt_of_le (by decide) T2360.1) rfl rfl (Nat.le_of_ble_eq_true rfl) rfl rfl ?_
          refine pm_R_lo pm_M183 (pc' := 1) rfl rfl rfl ?_
          have B2364 : sf_B 0 4 (m2324 13) := T2360.2.2.1 13
          refine rf_R_get pm_M183 T2360 (pc' := 4) (v := .int (m2324 13)) rfl rfl rfl rfl ?_
          refine pm_R_op pm_M183 (pc' := 5) (st' := [.int 3, .int (m2324 13)]) rfl rfl rfl ?_
          refine pm_R_icmp pm_M183 (t := 13) (pc' := 8) rfl rfl rfl (fun c2365 => ?_) (fun c2365 => ?_)
          · have B2366 : sf_B 3 3 (m2324 13) := sf_eqL c2365 sf_k3
            refine pm_R_lo pm_M183 (pc' := 14) rfl rfl rfl ?_
            refine rf_R_get pm_M183 T2360 (pc' := 17) (v := .ref 52) rfl rfl rfl rfl ?_
            refine pm_R_lo pm_M183 (pc' := 18) rfl rfl rfl ?_
            refine pm_R_lo pm_M183 (pc' := 19) rfl rfl rfl ?_
            have B2367 : sf_B 0 99 (m2324 14) := T2360.2.2.1 14
            refine rf_R_get pm_M183 T2360 (pc' := 22) (v := .int (m2324 14)) rfl rfl rfl rfl ?_
            refine rf_R_ist pm_M183 T2360 (pc' := 23) rfl e2362 (by decide) (by decide) rfl ⟨_, rfl, sf_upd (sf_upd (sf_upd (sf_upd (sf_upd (sf_upd b2338 (sf_weak sf_kn1 (by decide) (by decide)) _) (sf_weak sf_kn1 (by decide) (by decide)) _) (sf_weak sf_kn1 (by decide) (by decide)) _) (sf_weak sf_kn1 (by decide) (by decide)) _) (sf_weak sf_k2 (by decide) (by decide)) _) (sf_weak B2367 (by decide) (by decide)) _⟩ rfl (fun h2368 T2369 F2370 e2371 => ?_)
            have F2372 := F2363.trans F2370 (by decide)
            refine pm_R_lo pm_M183 (pc' := 24) rfl rfl rfl ?_
            refine rf_R_get pm_M183 T2369 (pc' := 27) (v := .int (m2324 14)) rfl rfl rfl rfl ?_
            refine pm_R_lo pm_M183 (pc' := 28) rfl rfl rfl ?_
            refine pm_R_icmp pm_M183 (t := 39) (pc' := 31) rfl rfl rfl (fun c2373 => ?_) (fun c2373 => ?_)
            · have B2374 : sf_B 10 99 (m2324 14) := sf_ltR c2373 sf_k9 B2367
              refine pm_R_lo pm_M183 (pc' := 40) rfl rfl rfl ?_
              refine pm_R_op pm_M183 (pc' := 41) (st' := [.int 2, .ref 41]) rfl rfl rfl ?_
              refine pm_R_lo pm_M183 (pc' := 42) rfl rfl rfl ?_
              have B2375 : sf_B 0 600 (m2324 12) := T2369.2.2.1 12
              refine rf_R_get pm_M183 T2369 (pc' := 45) (v := .int (m2324 12)) rfl rfl rfl rfl ?_
              refine pm_R_cv pm_M183 (pc' := 48) (a := 41) (ra := [.int (m2324 12), .int 2]) (rest := []) (ls' := [.ref 41, .int 2, .int (m2324 12)]) rfl rfl (Or.inl rfl) pm_M182 T2369.2.1 rfl (by decide) (Nat.lt_of_lt_of_le (by decide) T2369.1) rfl rfl (Nat.le_of_ble_eq_true rfl) rfl rfl ?_
              refine rf_c182 (d := d + 1) T2369 (sf_weak sf_k2 (by decide) (by decide)) B2375 (fun m2378 w2379 h2380 T2381 F2382 W2383 B2384 => ?_)
              have F2385 := F2372.trans F2382 (by decide)
              have B2386 : sf_B 3 3 (m2378 13) := by rw [W2383 13 (by decide)]; exact B2366
              have B2387 : sf_B 10 99 (m2378 14) := by rw [W2383 14 (by decide)]; exact B2374
              have W2388 : rf_W [10, 12, 13, 14, 16, 17, 18, 22] m m2378 := W2335.trans W2383 (by decide)
              show pm_R _ 183 48 [.ref 41, .int 1, .int 9, .int (-1)] [] _ _
              refine pm_R_lo pm_M183 (pc' := 49) rfl rfl rfl ?_
              refine pm_R_op pm_M183 (pc' := 50) (st' := [.int 0, .ref 41]) rfl rfl rfl ?_
              refine rf_R_put pm_M183 T2381 (pc' := 53) rfl rfl rfl (by decide) rfl rfl (sf_weak sf_k0 (by decide) (by decide)) rfl rfl (fun h2389 m2392 em2393 T2390 F2391 => ?_)
              have F2394 := F2385.trans F2391 (by decide)
              have B2395 : sf_B 3 3 (m2392 13) := by rw [em2393]; exact B2386
              have B2396 : sf_B 10 99 (m2392 14) := by rw [em2393]; exact B2387
              have B2397 : sf_B 1 4 (m2392 17) := by rw [em2393]; exact B2384
              have ek2398 : (m2392 17).toInt = ((m2378 17)).toInt := by rw [em2393]; rfl
              have B2399 : sf_B 0 0 (m2392 22) := by rw [em2393]; exact sf_k0
              have W2401 : rf_W [10, 12, 13, 14, 16, 17, 18, 22] m m2392 := by rw [em2393]; exact W2388.put (by decide)
              refine pm_R_lo pm_M183 (pc' := 54) rfl rfl rfl ?_
              refine pm_R_cv pm_M183 (pc' := 57) (a := 41) (ra := []) (rest := []) (ls' := [.ref 41, pm_no, pm_no]) rfl rfl (Or.inl rfl) pm_M179 T2390.2.1 rfl (by decide) (Nat.lt_of_lt_of_le (by decide) T2390.1) rfl rfl (Nat.le_of_ble_eq_true rfl) rfl rfl ?_
              have B2402 : sf_B 0 600 (m2392 10) := T2390.2.2.1 10
              refine rf_c179 (d := d + 0) T2390  (fun m2405 w2406 h2407 T2408 F2409 W2410 X2411 X2412 => ?_)
              have F2413 := F2394.trans F2409 (by decide)
              have B2414 : sf_B 1 4 (m2405 17) := by rw [W2410 17 (by decide)]; exact B2397
              have ek2415 : (m2405 17).toInt = ((m2378 17)).toInt := by rw [W2410 17 (by decide)]; exact ek2398
              have B2416 : sf_B 0 0 (m2405 22) := by rw [W2410 22 (by decide)]; exact B2399
              have W2417 : rf_W [10, 12, 13, 14, 16, 17, 18, 22] m m2405 := W2401.trans W2410 (by decide)
              show pm_R _ 183 57 [.ref 41, .int 1, .int 9, .int (-1)] [] _ _
              refine pm_R_op pm_M183 (pc' := 58) (st' := [.int 1]) rfl rfl rfl ?_
              refine pm_R_ret pm_M183 (r := some (.int 1)) rfl rfl ?_
              show pm_R _ 192 127 [.ref 41, .long a0, pm_no, .int a1, .int 2] [.int 1] _ _
              refine pm_R_br pm_M192 (pc' := 132) (st' := []) (pm_q192_1 (Nat.le_of_ble_eq_true rfl)) rfl ?_
              refine pm_R_lo pm_M192 (pc' := 134) (pm_q192_1 (Nat.le_of_ble_eq_true rfl)) rfl rfl ?_
              refine pm_R_op pm_M192 (pc' := 135) (st' := [.int 1, .int 2]) (pm_q192_1 (Nat.le_of_ble_eq_true rfl)) rfl rfl ?_
              refine pm_R_br pm_M192 (pc' := 138) (st' := []) (pm_q192_1 (Nat.le_of_ble_eq_true rfl)) rfl ?_
              refine pm_R_lo pm_M192 (pc' := 140) (pm_q192_1 (Nat.le_of_ble_eq_true rfl)) rfl rfl ?_
              refine pm_R_op pm_M192 (pc' := 141) (st' := [.int 2, .int 2]) (pm_q192_1 (Nat.le_of_ble_eq_true rfl)) rfl rfl ?_
              refine pm_R_br pm_M192 (pc' := 150) (st' := []) (pm_q192_1 (Nat.le_of_ble_eq_true rfl)) rfl ?_
              refine pm_R_lo pm_M192 (pc' := 151) (pm_q192_1 (Nat.le_of_ble_eq_true rfl)) rfl rfl ?_
              refine pm_R_op pm_M192 (pc' := 152) (st' := [.int 2, .ref 41]) (pm_q192_1 (Nat.le_of_ble_eq_true rfl)) rfl rfl ?_
              refine pm_R_op pm_M192 (pc' := 154) (st' := [.int 9, .int 2, .ref 41]) (pm_q192_1 (Nat.le_of_ble_eq_true rfl)) rfl rfl ?_
              refine pm_R_op pm_M192 (pc' := 155) (st' := [.int (-1), .int 9, .int 2, .ref 41]) (pm_q192_1 (Nat.le_of_ble_eq_true rfl)) rfl rfl ?_
              refine pm_R_cv pm_M192 (pc' := 158) (a := 41) (ra := [.int (-1), .int 9, .int 2]) (rest := []) (ls' := [.ref 41, .int 2, .int 9, .int (-1)]) (pm_q192_1 (Nat.le_of_ble_eq_true rfl)) rfl (Or.inl rfl) pm_M183 T2408.2.1 rfl (by decide) (Nat.lt_of_lt_of_le (by decide) T2408.1) rfl rfl (Nat.le_of_ble_eq_true rfl) rfl rfl ?_
              refine pm_R_lo pm_M183 (pc' := 1) rfl rfl rfl ?_
              have B2418 : sf_B 0 4 (m2405 13) := T2408.2.2.1 13
              refine rf_R_get pm_M183 T2408 (pc' := 4) (v := .int (m2405 13)) rfl rfl rfl rfl ?_
              refine pm_R_op pm_M183 (pc' := 5) (st' := [.int 3, .int (m2405 13)]) rfl rfl rfl ?_
              refine pm_R_icmp pm_M183 (t := 13) (pc' := 8) rfl rfl rfl (fun c2419 => ?_) (fun c2419 => ?_)
              · have B2420 : sf_B 3 3 (m2405 13) := sf_eqL c2419 sf_k3
                refine pm_R_lo pm_M183 (pc' := 14) rfl rfl rfl ?_
                refine rf_R_get pm_M183 T2408 (pc' := 17) (v := .ref 52) rfl rfl rfl rfl ?_
                refine pm_R_lo pm_M183 (pc' := 18) rfl rfl rfl ?_
                refine pm_R_lo pm_M183 (pc' := 19) rfl rfl rfl ?_
                have B2421 : sf_B 0 99 (m2405 14) := T2408.2.2.1 14
                refine rf_R_get pm_M183 T2408 (pc' := 22) (v := .int (m2405 14)) rfl rfl rfl rfl ?_
                have e2422 := (F2409.cell (by decide) (F2391.cell (by decide) (F2382.cell (by decide) e2371)))
                refine rf_R_ist pm_M183 T2408 (pc' := 23) rfl e2422 (by decide) (by decide) rfl ⟨_, rfl, sf_upd (sf_upd (sf_upd (sf_upd (sf_upd (sf_upd (sf_upd b2338 (sf_weak sf_kn1 (by decide) (by decide)) _) (sf_weak sf_kn1 (by decide) (by decide)) _) (sf_weak sf_kn1 (by decide) (by decide)) _) (sf_weak sf_kn1 (by decide) (by decide)) _) (sf_weak sf_k2 (by decide) (by decide)) _) (sf_weak B2367 (by decide) (by decide)) _) (sf_weak B2421 (by decide) (by decide)) _⟩ rfl (fun h2423 T2424 F2425 e2426 => ?_)
                have F2427 := F2413.trans F2425 (by decide)
                refine pm_R_lo pm_M183 (pc' := 24) rfl rfl rfl ?_
                refine rf_R_get pm_M183 T2424 (pc' := 27) (v := .int (m2405 14)) rfl rfl rfl rfl ?_
                refine pm_R_lo pm_M183 (pc' := 28) rfl rfl rfl ?_
                refine pm_R_icmp pm_M183 (t := 39) (pc' := 31) rfl rfl rfl (fun c2428 => ?_) (fun c2428 => ?_)
                · have B2429 : sf_B 10 99 (m2405 14) := sf_ltR c2428 sf_k9 B2421
                  refine pm_R_lo pm_M183 (pc' := 40) rfl rfl rfl ?_
                  refine pm_R_op pm_M183 (pc' := 41) (st' := [.int 2, .ref 41]) rfl rfl rfl ?_
                  refine pm_R_lo pm_M183 (pc' := 42) rfl rfl rfl ?_
                  have B2430 : sf_B 0 600 (m2405 12) := T2424.2.2.1 12
                  refine rf_R_get pm_M183 T2424 (pc' := 45) (v := .int (m2405 12)) rfl rfl rfl rfl ?_
                  refine pm_R_cv pm_M183 (pc' := 48) (a := 41) (ra := [.int (m2405 12), .int 2]) (rest := []) (ls' := [.ref 41, .int 2, .int (m2405 12)]) rfl rfl (Or.inl rfl) pm_M182 T2424.2.1 rfl (by decide) (Nat.lt_of_lt_of_le (by decide) T2424.1) rfl rfl (Nat.le_of_ble_eq_true rfl) rfl rfl ?_
                  refine rf_c182 (d := d + 1) T2424 (sf_weak sf_k2 (by decide) (by decide)) B2430 (fun m2433 w2434 h2435 T2436 F2437 W2438 B2439 => ?_)
                  have F2440 := F2427.trans F2437 (by decide)
                  have B2441 : sf_B 0 0 (m2433 22) := by rw [W2438 22 (by decide)]; exact B2416
                  have B2442 : sf_B 3 3 (m2433 13) := by rw [W2438 13 (by decide)]; exact B2420
                  have B2443 : sf_B 10 99 (m2433 14) := by rw [W2438 14 (by decide)]; exact B2429
                  have W2444 : rf_W [10, 12, 13, 14, 16, 17, 18, 22] m m2433 := W2417.trans W2438 (by decide)
                  show pm_R _ 183 48 [.ref 41, .int 2, .int 9, .int (-1)] [] _ _
                  refine pm_R_lo pm_M183 (pc' := 49) rfl rfl rfl ?_
                  refine pm_R_op pm_M183 (pc' := 50) (st' := [.int 0, .ref 41]) rfl rfl rfl ?_
                  refine rf_R_put pm_M183 T2436 (pc' := 53) rfl rfl rfl (by decide) rfl rfl (sf_weak sf_k0 (by decide) (by decide)) rfl rfl (fun h2445 m2448 em2449 T2446 F2447 => ?_)
                  have F2450 := F2440.trans F2447 (by decide)
                  have B2451 : sf_B 3 3 (m2448 13) := by rw [em2449]; exact B2442
                  have B2452 : sf_B 10 99 (m2448 14) := by rw [em2449]; exact B2443
                  have B2453 : sf_B 1 4 (m2448 17) := by rw [em2449]; exact B2439
                  have ek2454 : (m2448 17).toInt = ((m2433 17)).toInt := by rw [em2449]; rfl
                  have B2455 : sf_B 0 0 (m2448 22) := by rw [em2449]; exact sf_k0
                  have W2457 : rf_W [10, 12, 13, 14, 16, 17, 18, 22] m m2448 := by rw [em2449]; exact W2444.put (by decide)
                  refine pm_R_lo pm_M183 (pc' := 54) rfl rfl rfl ?_
                  refine pm_R_cv pm_M183 (pc' := 57) (a := 41) (ra := []) (rest := []) (ls' := [.ref 41, pm_no, pm_no]) rfl rfl (Or.inl rfl) pm_M179 T2446.2.1 rfl (by decide) (Nat.lt_of_lt_of_le (by decide) T2446.1) rfl rfl (Nat.le_of_ble_eq_true rfl) rfl rfl ?_
                  have B2458 : sf_B 0 600 (m2448 10) := T2446.2.2.1 10
                  refine rf_c179 (d := d + 0) T2446  (fun m2461 w2462 h2463 T2464 F2465 W2466 X2467 X2468 => ?_)
                  have F2469 := F2450.trans F2465 (by decide)
                  have B2470 : sf_B 1 4 (m2461 17) := by rw [W2466 17 (by decide)]; exact B2453
                  have ek2471 : (m2461 17).toInt = ((m2433 17)).toInt := by rw [W2466 17 (by decide)]; exact ek2454
                  have B2472 : sf_B 0 0 (m2461 22) := by rw [W2466 22 (by decide)]; exact B2455
                  have W2473 : rf_W [10, 12, 13, 14, 16, 17, 18, 22] m m2461 := W2457.trans W2466 (by decide)
                  show pm_R _ 183 57 [.ref 41, .int 2, .int 9, .int (-1)] [] _ _
                  refine pm_R_op pm_M183 (pc' := 58) (st' := [.int 1]) rfl rfl rfl ?_
                  refine pm_R_ret pm_M183 (r := some (.int 1)) rfl rfl ?_
                  show pm_R _ 192 158 [.ref 41, .long a0, pm_no, .int a1, .int 2] [.int 1] _ _
                  refine pm_R_br pm_M192 (pc' := 163) (st' := []) (pm_q192_1 (Nat.le_of_ble_eq_true rfl)) rfl ?_
                  refine pm_R_lo pm_M192 (pc' := 164) (pm_q192_1 (Nat.le_of_ble_eq_true rfl)) rfl rfl ?_
                  refine pm_R_op pm_M192 (pc' := 165) (st' := [.int 0, .ref 41]) (pm_q192_1 (Nat.le_of_ble_eq_true rfl)) rfl rfl ?_
                  refine pm_R_op pm_M192 (pc' := 166) (st' := [.int 1, .int 0, .ref 41]) (pm_q192_1 (Nat.le_of_ble_eq_true rfl)) rfl rfl ?_
                  refine pm_R_op pm_M192 (pc' := 167) (st' := [.int 3, .int 1, .int 0, .ref 41]) (pm_q192_1 (Nat.le_of_ble_eq_true rfl)) rfl rfl ?_
                  refine pm_R_op pm_M192 (pc' := 169) (st' := [.int 8, .int 3, .int 1, .int 0, .ref 41]) (pm_q192_1 (Nat.le_of_ble_eq_true rfl)) rfl rfl ?_
                  refine pm_R_op pm_M192 (pc' := 170) (st' := [.int 0, .int 8, .int 3, .int 1, .int 0, .ref 41]) (pm_q192_1 (Nat.le_of_ble_eq_true rfl)) rfl rfl ?_
                  refine pm_R_cv pm_M192 (pc' := 173) (a := 41) (ra := [.int 0, .int 8, .int 3, .int 1, .int 0]) (rest := []) (ls' := [.ref 41, .int 0, .int 1, .int 3, .int 8, .int 0, pm_no, pm_no]) (pm_q192_1 (Nat.le_of_ble_eq_true rfl)) rfl (Or.inl rfl) pm_M185 T2464.2.1 rfl (by decide) (Nat.lt_of_lt_of_le (by decide) T2464.1) rfl rfl (Nat.le_of_ble_eq_true rfl) rfl rfl ?_
                  refine pm_R_lo pm_M185 (pc' := 1) rfl rfl rfl ?_
                  refine rf_R_get pm_M185 T2464 (pc' := 4) (v := .ref 51) rfl rfl rfl rfl ?_
                  refine pm_R_lo pm_M185 (pc' := 5) rfl rfl rfl ?_
                  have e2474 := (F2465.cell (by decide) (F2447.cell (by decide) (F2437.cell (by decide) (F2425.cell (by decide) (F2409.cell (by decide) (F2391.cell (by decide) (F2382.cell (by decide) (F2370.cell (by decide) (F2361.cell (by decide) (F2356.cell (by decide) (F2351.cell (by decide) (F2346.cell (by decide) (F2341.cell (by decide) (F2328.cell (by decide) (F2315.cell (by decide) e3)))))))))))))))
                  refine pm_R_iald pm_M185 (pc' := 6) (v := (f2 0)) rfl e2474 (Nat.lt_of_lt_of_le (by decide) T2464.1) rfl rfl rfl ?_
                  refine pm_R_lo pm_M185 (pc' := 8) (ls' := [.ref 41, .int 0, .int 1, .int 3, .int 8, .int 0, .int (f2 0), pm_no]) (st' := []) rfl rfl rfl ?_
                  refine pm_R_lo pm_M185 (pc' := 10) rfl rfl rfl ?_
                  refine pm_R_lo pm_M185 (pc' := 12) rfl rfl rfl ?_
                  refine pm_R_icmp pm_M185 (t := 16) (pc' := 15) rfl rfl rfl (fun c2477 => absurd (sf_pt2 B2308 sf_k8) c2477) (fun c2477 => ?_)
                  refine pm_R_ret pm_M185 (r := none) rfl rfl ?_
                  show pm_R _ 192 173 [.ref 41, .long a0, pm_no, .int a1, .int 2] [] _ _
                  refine pm_R_op pm_M192 (pc' := 174) (st' := [.int 1]) (pm_q192_1 (Nat.le_of_ble_eq_true rfl)) rfl rfl ?_
                  have B2478 : sf_B 0 600 (m2461 10) := T2464.2.2.1 10
                  exact pm_R_ret pm_M192 (r := some (.int 1)) (pm_q192_1 (Nat.le_of_ble_eq_true rfl)) rfl (K1 m2461 w2462 h2463 T2464 F2469 W2473 (⟨f2, e2474, ct4, fun z => (sf_pos B2470 (by decide) z)⟩) (sf_aux117 _ _ _ _ _ _ _ X2330 X2411 X2467))
                · have B2479 : sf_B 0 9 (m2405 14) := sf_leL (Int32.not_lt.mp c2428) B2421 sf_k9
                  refine pm_R_lo pm_M183 (pc' := 32) rfl rfl rfl ?_
                  refine rf_R_get pm_M183 T2424 (pc' := 35) (v := .int (m2405 14)) rfl rfl rfl rfl ?_
                  refine pm_R_lo pm_M183 (pc' := 36) rfl rfl rfl ?_
                  refine pm_R_icmp pm_M183 (t := 53) (pc' := 39) rfl rfl rfl (fun c2480 => ?_) (fun c2480 => absurd (Classical.not_not.mp c2480) (sf_neq1 B2479 sf_kn1 (by decide)))
                  skip
                  refine pm_R_lo pm_M183 (pc' := 54) rfl rfl rfl ?_
                  refine pm_R_cv pm_M183 (pc' := 57) (a := 41) (ra := []) (rest := []) (ls' := [.ref 41, pm_no, pm_no]) rfl rfl (Or.inl rfl) pm_M179 T2424.2.1 rfl (by decide) (Nat.lt_of_lt_of_le (by decide) T2424.1) rfl rfl (Nat.le_of_ble_eq_true rfl) rfl rfl ?_
                  have B2481 : sf_B 0 600 (m2405 10) := T2424.2.2.1 10
                  refine rf_c179 (d := d + 0) T2424  (fun m2484 w2485 h2486 T2487 F2488 W2489 X2490 X2491 => ?_)
                  have F2492 := F2427.trans F2488 (by decide)
                  have B2493 : sf_B 1 4 (m2484 17) := by rw [W2489 17 (by decide)]; exact B2414
                  have ek2494 : (m2484 17).toInt = ((m2378 17)).toInt := by rw [W2489 17 (by decide)]; exact ek2415
                  have B2495 : sf_B 0 0 (m2484 22) := by rw [W2489 22 (by decide)]; exact B2416
                  have W2496 : rf_W [10, 12, 13, 14, 16, 17, 18, 22] m m2484 := W2417.trans W2489 (by decide)
                  show pm_R _ 183 57 [.ref 41, .int 2, .int 9, .int (-1)] [] _ _
                  refine pm_R_op pm_M183 (pc' := 58) (st' := [.int 1]) rfl rfl rfl ?_
                  refine pm_R_ret pm_M183 (r := some (.int 1)) rfl rfl ?_
                  show pm_R _ 192 158 [.ref 41, .long a0, pm_no, .int a1, .int 2] [.int 1] _ _
                  refine pm_R_br pm_M192 (pc' := 163) (st' := []) (pm_q192_1 (Nat.le_of_ble_eq_true rfl)) rfl ?_
                  refine pm_R_lo pm_M192 (pc' := 164) (pm_q192_1 (Nat.le_of_ble_eq_true rfl)) rfl rfl ?_
                  refine pm_R_op pm_M192 (pc' := 165) (st' := [.int 0, .ref 41]) (pm_q192_1 (Nat.le_of_ble_eq_true rfl)) rfl rfl ?_
                  refine pm_R_op pm_M192 (pc' := 166) (st' := [.int 1, .int 0, .ref 41]) (pm_q192_1 (Nat.le_of_ble_eq_true rfl)) rfl rfl ?_
                  refine pm_R_op pm_M192 (pc' := 167) (st' := [.int 3, .int 1, .int 0, .ref 41]) (pm_q192_1 (Nat.le_of_ble_eq_true rfl)) rfl rfl ?_
                  refine pm_R_op pm_M192 (pc' := 169) (st' := [.int 8, .int 3, .int 1, .int 0, .ref 41]) (pm_q192_1 (Nat.le_of_ble_eq_true rfl)) rfl rfl ?_
                  refine pm_R_op pm_M192 (pc' := 170) (st' := [.int 0, .int 8, .int 3, .int 1, .int 0, .ref 41]) (pm_q192_1 (Nat.le_of_ble_eq_true rfl)) rfl rfl ?_
                  refine pm_R_cv pm_M192 (pc' := 173) (a := 41) (ra := [.int 0, .int 8, .int 3, .int 1, .int 0]) (rest := []) (ls' := [.ref 41, .int 0, .int 1, .int 3, .int 8, .int 0, pm_no, pm_no]) (pm_q192_1 (Nat.le_of_ble_eq_true rfl)) rfl (Or.inl rfl) pm_M185 T2487.2.1 rfl (by decide) (Nat.lt_of_lt_of_le (by decide) T2487.1) rfl rfl (Nat.le_of_ble_eq_true rfl) rfl rfl ?_
                  refine pm_R_lo pm_M185 (pc' := 1) rfl rfl rfl ?_
                  refine rf_R_get pm_M185 T2487 (pc' := 4) (v := .ref 51) rfl rfl rfl rfl ?_
                  refine pm_R_lo pm_M185 (pc' := 5) rfl rfl rfl ?_
                  have e2497 := (F2488.cell (by decide) (F2425.cell (by decide) (F2409.cell (by decide) (F2391.cell (by decide) (F2382.cell (by decide) (F2370.cell (by decide) (F2361.cell (by decide) (F2356.cell (by decide) (F2351.cell (by decide) (F2346.cell (by decide) (F2341.cell (by decide) (F2328.cell (by decide) (F2315.cell (by decide) e3)))))))))))))
                  refine pm_R_iald pm_M185 (pc' := 6) (v := (f2 0)) rfl e2497 (Nat.lt_of_lt_of_le (by decide) T2487.1) rfl rfl rfl ?_
                  refine pm_R_lo pm_M185 (pc' := 8) (ls' := [.ref 41, .int 0, .int 1, .int 3, .int 8, .int 0, .int (f2 0), pm_no]) (st' := []) rfl rfl rfl ?_
                  refine pm_R_lo pm_M185 (pc' := 10) rfl rfl rfl ?_
                  refine pm_R_lo pm_M185 (pc' := 12) rfl rfl rfl ?_
                  refine pm_R_icmp pm_M185 (t := 16) (pc' := 15) rfl rfl rfl (fun c2500 => absurd (sf_pt2 B2308 sf_k8) c2500) (fun c2500 => ?_)
                  refine pm_R_ret pm_M185 (r := none) rfl rfl ?_
                  show pm_R _ 192 173 [.ref 41, .long a0, pm_no, .int a1, .int 2] [] _ _
                  refine pm_R_op pm_M192 (pc' := 174) (st' := [.int 1]) (pm_q192_1 (Nat.le_of_ble_eq_true rfl)) rfl rfl ?_
                  have B2501 : sf_B 0 600 (m2484 10) := T2487.2.2.1 10
                  exact pm_R_ret pm_M192 (r := some (.int 1)) (pm_q192_1 (Nat.le_of_ble_eq_true rfl)) rfl (K1 m2484 w2485 h2486 T2487 F2492 W2496 (⟨f2, e2497, ct4, fun z => (sf_pos B2493 (by decide) z)⟩) (sf_aux124 _ _ _ _ _ _ X2330 X2411 X2490))
              · skip
                refine pm_R_lo pm_M183 (pc' := 9) rfl rfl rfl ?_
                refine pm_R_cv pm_M183 (pc' := 12) (a := 41) (ra := []) (rest := []) (ls' := [.ref 41]) rfl rfl (Or.inl rfl) pm_M184 T2408.2.1 rfl (by decide) (Nat.lt_of_lt_of_le (by decide) T2408.1) rfl rfl (Nat.le_of_ble_eq_true rfl) rfl rfl ?_
                refine pm_R_lo pm_M184 (pc' := 1) rfl rfl rfl ?_
                refine pm_R_lo pm_M184 (pc' := 2) rfl rfl rfl ?_
                have B2502 : sf_B 0 600 (m2405 12) := T2408.2.2.1 12
                refine rf_R_get pm_M184 T2408 (pc' := 5) (v := .int (m2405 12)) rfl rfl rfl rfl ?_
                refine rf_R_put pm_M184 T2408 (pc' := 8) rfl rfl rfl (by decide) rfl rfl B2502 rfl rfl (fun h2503 m2506 em2507 T2504 F2505 => ?_)
                have F2508 := F2413.trans F2505 (by decide)
                have B2509 : sf_B 1 4 (m2506 17) := by rw [em2507]; exact B2414
                have ek2510 : (m2506 17).toInt = ((m2378 17)).toInt := by rw [em2507]; exact ek2415
                have B2511 : sf_B 0 0 (m2506 22) := by rw [em2507]; exact B2416
                have B2512 : sf_B 0 600 (m2506 16) := by rw [em2507]; exact B2502
                have ek2513 : (m2506 16).toInt = ((m2405 12)).toInt := by rw [em2507]; rfl
                have W2514 : rf_W [10, 12, 13, 14, 16, 17, 18, 22] m m2506 := by rw [em2507]; exact W2417.put (by decide)
                refine pm_R_op pm_M184 (pc' := 9) (st' := [.int 0]) rfl rfl rfl ?_
                refine pm_R_ret pm_M184 (r := some (.int 0)) rfl rfl ?_
                show pm_R _ 183 12 [.ref 41, .int 2, .int 9, .int (-1)] [.int 0] _ _
                refine pm_R_ret pm_M183 (r := some (.int 0)) rfl rfl ?_
                show pm_R _ 192 158 [.ref 41, .long a0, pm_no, .int a1, .int 2] [.int 0] _ _
                refine pm_R_br pm_M192 (pc' := 161) (st' := []) (pm_q192_1 (Nat.le_of_ble_eq_true rfl)) rfl ?_
                refine pm_R_op pm_M192 (pc' := 162) (st' := [.int 0]) (pm_q192_1 (Nat.le_of_ble_eq_true rfl)) rfl rfl ?_
                have B2515 : sf_B 0 600 (m2506 10) := T2504.2.2.1 10
                exact pm_R_ret pm_M192 (r := some (.int 0)) (pm_q192_1 (Nat.le_of_ble_eq_true rfl)) rfl (K0 m2506 w2406 h2503 T2504 F2508 W2514 (sf_aux68 _ _ _ _ _ _ X2330 X2411))
            · have B2516 : sf_B 0 9 (m2324 14) := sf_leL (Int32.not_lt.mp c2373) B2367 sf_k9
              refine pm_R_lo pm_M183 (pc' := 32) rfl rfl rfl ?_
              refine rf_R_get pm_M183 T2369 (pc' := 35) (v := .int (m2324 14)) rfl rfl rfl rfl ?_
              refine pm_R_lo pm_M183 (pc' := 36) rfl rfl rfl ?_
              refine pm_R_icmp pm_M183 (t := 53) (pc' := 39) rfl rfl rfl (fun c2517 => ?_) (fun c2517 => absurd (Classical.not_not.mp c2517) (sf_neq1 B2516 sf_kn1 (by decide)))
              skip
              refine pm_R_lo pm_M183 (pc' := 54) rfl rfl rfl ?_
              refine pm_R_cv pm_M183 (pc' := 57) (a := 41) (ra := []) (rest := []) (ls' := [.ref 41, pm_no, pm_no]) rfl rfl (Or.inl rfl) pm_M179 T2369.2.1 rfl (by decide) (Nat.lt_of_lt_of_le (by decide) T2369.1) rfl rfl (Nat.le_of_ble_eq_true rfl) rfl rfl ?_
              have B2518 : sf_B 0 600 (m2324 10) := T2369.2.2.1 10
              refine rf_c179 (d := d + 0) T2369  (fun m2521 w2522 h2523 T2524 F2525 W2526 X2527 X2528 => ?_)
              have F2529 := F2372.trans F2525 (by decide)
              have B2530 : sf_B 1 4 (m2521 17) := by rw [W2526 17 (by decide)]; exact B2333
              have ek2531 : (m2521 17).toInt = ((m2311 17)).toInt := by rw [W2526 17 (by decide)]; exact ek2334
              have W2532 : rf_W [10, 12, 13, 14, 16, 17, 18, 22] m m2521 := W2335.trans W2526 (by decide)
              show pm_R _ 183 57 [.ref 41, .int 1, .int 9, .int (-1)] [] _ _
              refine pm_R_op pm_M183 (pc' := 58) (st' := [.int 1]) rfl rfl rfl ?_
              refine pm_R_ret pm_M183 (r := some (.int 1)) rfl rfl ?_
              show pm_R _ 192 127 [.ref 41, .long a0, pm_no, .int a1, .int 2] [.int 1] _ _
              refine pm_R_br pm_M192 (pc' := 132) (st' := []) (pm_q192_1 (Nat.le_of_ble_eq_true rfl)) rfl ?_
              refine pm_R_lo pm_M192 (pc' := 134) (pm_q192_1 (Nat.le_of_ble_eq_true rfl)) rfl rfl ?_
              refine pm_R_op pm_M192 (pc' := 135) (st' := [.int 1, .int 2]) (pm_q192_1 (Nat.le_of_ble_eq_true rfl)) rfl rfl ?_
              refine pm_R_br pm_M192 (pc' := 138) (st' := []) (pm_q192_1 (Nat.le_of_ble_eq_true rfl)) rfl ?_
              refine pm_R_lo pm_M192 (pc' := 140) (pm_q192_1 (Nat.le_of_ble_eq_true rfl)) rfl rfl ?_
              refine pm_R_op pm_M192 (pc' := 141) (st' := [.int 2, .int 2]) (pm_q192_1 (Nat.le_of_ble_eq_true rfl)) rfl rfl ?_
              refine pm_R_br pm_M192 (pc' := 150) (st' := []) (pm_q192_1 (Nat.le_of_ble_eq_true rfl)) rfl ?_
              refine pm_R_lo pm_M192 (pc' := 151) (pm_q192_1 (Nat.le_of_ble_eq_true rfl)) rfl rfl ?_
              refine pm_R_op pm_M192 (pc' := 152) (st' := [.int 2, .ref 41]) (pm_q192_1 (Nat.le_of_ble_eq_true rfl)) rfl rfl ?_
              refine pm_R_op pm_M192 (pc' := 154) (st' := [.int 9, .int 2, .ref 41]) (pm_q192_1 (Nat.le_of_ble_eq_true rfl)) rfl rfl ?_
              refine pm_R_op pm_M192 (pc' := 155) (st' := [.int (-1), .int 9, .int 2, .ref 41]) (pm_q192_1 (Nat.le_of_ble_eq_true rfl)) rfl rfl ?_
              refine pm_R_cv pm_M192 (pc' := 158) (a := 41) (ra := [.int (-1), .int 9, .int 2]) (rest := []) (ls' := [.ref 41, .int 2, .int 9, .int (-1)]) (pm_q192_1 (Nat.le_of_ble_eq_true rfl)) rfl (Or.inl rfl) pm_M183 T2524.2.1 rfl (by decide) (Nat.lt_of_lt_of_le (by decide) T2524.1) rfl rfl (Nat.le_of_ble_eq_true rfl) rfl rfl ?_
              refine pm_R_lo pm_M183 (pc' := 1) rfl rfl rfl ?_
              have B2533 : sf_B 0 4 (m2521 13) := T2524.2.2.1 13
              refine rf_R_get pm_M183 T2524 (pc' := 4) (v := .int (m2521 13)) rfl rfl rfl rfl ?_
              refine pm_R_op pm_M183 (pc' := 5) (st' := [.int 3, .int (m2521 13)]) rfl rfl rfl ?_
              refine pm_R_icmp pm_M183 (t := 13) (pc' := 8) rfl rfl rfl (fun c2534 => ?_) (fun c2534 => ?_)
              · have B2535 : sf_B 3 3 (m2521 13) := sf_eqL c2534 sf_k3
                refine pm_R_lo pm_M183 (pc' := 14) rfl rfl rfl ?_
                refine rf_R_get pm_M183 T2524 (pc' := 17) (v := .ref 52) rfl rfl rfl rfl ?_
                refine pm_R_lo pm_M183 (pc' := 18) rfl rfl rfl ?_
                refine pm_R_lo pm_M183 (pc' := 19) rfl rfl rfl ?_
                have B2536 : sf_B 0 99 (m2521 14) := T2524.2.2.1 14
                refine rf_R_get pm_M183 T2524 (pc' := 22) (v := .int (m2521 14)) rfl rfl rfl rfl ?_
                have e2537 := (F2525.cell (by decide) e2371)
                refine rf_R_ist pm_M183 T2524 (pc' := 23) rfl e2537 (by decide) (by decide) rfl ⟨_, rfl, sf_upd (sf_upd (sf_upd (sf_upd (sf_upd (sf_upd (sf_upd b2338 (sf_weak sf_kn1 (by decide) (by decide)) _) (sf_weak sf_kn1 (by decide) (by decide)) _) (sf_weak sf_kn1 (by decide) (by decide)) _) (sf_weak sf_kn1 (by decide) (by decide)) _) (sf_weak sf_k2 (by decide) (by decide)) _) (sf_weak B2367 (by decide) (by decide)) _) (sf_weak B2536 (by decide) (by decide)) _⟩ rfl (fun h2538 T2539 F2540 e2541 => ?_)
                have F2542 := F2529.trans F2540 (by decide)
                refine pm_R_lo pm_M183 (pc' := 24) rfl rfl rfl ?_
                refine rf_R_get pm_M183 T2539 (pc' := 27) (v := .int (m2521 14)) rfl rfl rfl rfl ?_
                refine pm_R_lo pm_M183 (pc' := 28) rfl rfl rfl ?_
                refine pm_R_icmp pm_M183 (t := 39) (pc' := 31) rfl rfl rfl (fun c2543 => ?_) (fun c2543 => ?_)
                · have B2544 : sf_B 10 99 (m2521 14) := sf_ltR c2543 sf_k9 B2536
                  refine pm_R_lo pm_M183 (pc' := 40) rfl rfl rfl ?_
                  refine pm_R_op pm_M183 (pc' := 41) (st' := [.int 2, .ref 41]) rfl rfl rfl ?_
                  refine pm_R_lo pm_M183 (pc' := 42) rfl rfl rfl ?_
                  have B2545 : sf_B 0 600 (m2521 12) := T2539.2.2.1 12
                  refine rf_R_get pm_M183 T2539 (pc' := 45) (v := .int (m2521 12)) rfl rfl rfl rfl ?_
                  refine pm_R_cv pm_M183 (pc' := 48) (a := 41) (ra := [.int (m2521 12), .int 2]) (rest := []) (ls' := [.ref 41, .int 2, .int (m2521 12)]) rfl rfl (Or.inl rfl) pm_M182 T2539.2.1 rfl (by decide) (Nat.lt_of_lt_of_le (by decide) T2539.1) rfl rfl (Nat.le_of_ble_eq_true rfl) rfl rfl ?_
                  refine rf_c182 (d := d + 1) T2539 (sf_weak sf_k2 (by decide) (by decide)) B2545 (fun m2548 w2549 h2550 T2551 F2552 W2553 B2554 => ?_)
                  have F2555 := F2542.trans F2552 (by decide)
                  have B2556 : sf_B 3 3 (m2548 13) := by rw [W2553 13 (by decide)]; exact B2535
                  have B2557 : sf_B 10 99 (m2548 14) := by rw [W2553 14 (by decide)]; exact B2544
                  have W2558 : rf_W [10, 12, 13, 14, 16, 17, 18, 22] m m2548 := W2532.trans W2553 (by decide)
                  show pm_R _ 183 48 [.ref 41, .int 2, .int 9, .int (-1)] [] _ _
                  refine pm_R_lo pm_M183 (pc' := 49) rfl rfl rfl ?_
                  refine pm_R_op pm_M183 (pc' := 50) (st' := [.int 0, .ref 41]) rfl rfl rfl ?_
                  refine rf_R_put pm_M183 T2551 (pc' := 53) rfl rfl rfl (by decide) rfl rfl (sf_weak sf_k0 (by decide) (by decide)) rfl rfl (fun h2559 m2562 em2563 T2560 F2561 => ?_)
                  have F2564 := F2555.trans F2561 (by decide)
                  have B2565 : sf_B 3 3 (m2562 13) := by rw [em2563]; exact B2556
                  have B2566 : sf_B 10 99 (m2562 14) := by rw [em2563]; exact B2557
                  have B2567 : sf_B 1 4 (m2562 17) := by rw [em2563]; exact B2554
                  have ek2568 : (m2562 17).toInt = ((m2548 17)).toInt := by rw [em2563]; rfl
                  have B2569 : sf_B 0 0 (m2562 22) := by rw [em2563]; exact sf_k0
                  have W2571 : rf_W [10, 12, 13, 14, 16, 17, 18, 22] m m2562 := by rw [em2563]; exact W2558.put (by decide)
                  refine pm_R_lo pm_M183 (pc' := 54) rfl rfl rfl ?_
                  refine pm_R_cv pm_M183 (pc' := 57) (a := 41) (ra := []) (rest := []) (ls' := [.ref 41, pm_no, pm_no]) rfl rfl (Or.inl rfl) pm_M179 T2560.2.1 rfl (by decide) (Nat.lt_of_lt_of_le (by decide) T2560.1) rfl rfl (Nat.le_of_ble_eq_true rfl) rfl rfl ?_
                  have B2572 : sf_B 0 600 (m2562 10) := T2560.2.2.1 10
                  refine rf_c179 (d := d + 0) T2560  (fun m2575 w2576 h2577 T2578 F2579 W2580 X2581 X2582 => ?_)
                  have F2583 := F2564.trans F2579 (by decide)
                  have B2584 : sf_B 1 4 (m2575 17) := by rw [W2580 17 (by decide)]; exact B2567
                  have ek2585 : (m2575 17).toInt = ((m2548 17)).toInt := by rw [W2580 17 (by decide)]; exact ek2568
                  have B2586 : sf_B 0 0 (m2575 22) := by rw [W2580 22 (by decide)]; exact B2569
                  have W2587 : rf_W [10, 12, 13, 14, 16, 17, 18, 22] m m2575 := W2571.trans W2580 (by decide)
                  show pm_R _ 183 57 [.ref 41, .int 2, .int 9, .int (-1)] [] _ _
                  refine pm_R_op pm_M183 (pc' := 58) (st' := [.int 1]) rfl rfl rfl ?_
                  refine pm_R_ret pm_M183 (r := some (.int 1)) rfl rfl ?_
                  show pm_R _ 192 158 [.ref 41, .long a0, pm_no, .int a1, .int 2] [.int 1] _ _
                  refine pm_R_br pm_M192 (pc' := 163) (st' := []) (pm_q192_1 (Nat.le_of_ble_eq_true rfl)) rfl ?_
                  refine pm_R_lo pm_M192 (pc' := 164) (pm_q192_1 (Nat.le_of_ble_eq_true rfl)) rfl rfl ?_
                  refine pm_R_op pm_M192 (pc' := 165) (st' := [.int 0, .ref 41]) (pm_q192_1 (Nat.le_of_ble_eq_true rfl)) rfl rfl ?_
                  refine pm_R_op pm_M192 (pc' := 166) (st' := [.int 1, .int 0, .ref 41]) (pm_q192_1 (Nat.le_of_ble_eq_true rfl)) rfl rfl ?_
                  refine pm_R_op pm_M192 (pc' := 167) (st' := [.int 3, .int 1, .int 0, .ref 41]) (pm_q192_1 (Nat.le_of_ble_eq_true rfl)) rfl rfl ?_
                  refine pm_R_op pm_M192 (pc' := 169) (st' := [.int 8, .int 3, .int 1, .int 0, .ref 41]) (pm_q192_1 (Nat.le_of_ble_eq_true rfl)) rfl rfl ?_
                  refine pm_R_op pm_M192 (pc' := 170) (st' := [.int 0, .int 8, .int 3, .int 1, .int 0, .ref 41]) (pm_q192_1 (Nat.le_of_ble_eq_true rfl)) rfl rfl ?_
                  refine pm_R_cv pm_M192 (pc' := 173) (a := 41) (ra := [.int 0, .int 8, .int 3, .int 1, .int 0]) (rest := []) (ls' := [.ref 41, .int 0, .int 1, .int 3, .int 8, .int 0, pm_no, pm_no]) (pm_q192_1 (Nat.le_of_ble_eq_true rfl)) rfl (Or.inl rfl) pm_M185 T2578.2.1 rfl (by decide) (Nat.lt_of_lt_of_le (by decide) T2578.1) rfl rfl (Nat.le_of_ble_eq_true rfl) rfl rfl ?_
                  refine pm_R_lo pm_M185 (pc' := 1) rfl rfl rfl ?_
                  refine rf_R_get pm_M185 T2578 (pc' := 4) (v := .ref 51) rfl rfl rfl rfl ?_
                  refine pm_R_lo pm_M185 (pc' := 5) rfl rfl rfl ?_
                  have e2588 := (F2579.cell (by decide) (F2561.cell (by decide) (F2552.cell (by decide) (F2540.cell (by decide) (F2525.cell (by decide) (F2370.cell (by decide) (F2361.cell (by decide) (F2356.cell (by decide) (F2351.cell (by decide) (F2346.cell (by decide) (F2341.cell (by decide) (F2328.cell (by decide) (F2315.cell (by decide) e3)))))))))))))
                  refine pm_R_iald pm_M185 (pc' := 6) (v := (f2 0)) rfl e2588 (Nat.lt_of_lt_of_le (by decide) T2578.1) rfl rfl rfl ?_
                  refine pm_R_lo pm_M185 (pc' := 8) (ls' := [.ref 41, .int 0, .int 1, .int 3, .int 8, .int 0, .int (f2 0), pm_no]) (st' := []) rfl rfl rfl ?_
                  refine pm_R_lo pm_M185 (pc' := 10) rfl rfl rfl ?_
                  refine pm_R_lo pm_M185 (pc' := 12) rfl rfl rfl ?_
                  refine pm_R_icmp pm_M185 (t := 16) (pc' := 15) rfl rfl rfl (fun c2591 => absurd (sf_pt2 B2308 sf_k8) c2591) (fun c2591 => ?_)
                  refine pm_R_ret pm_M185 (r := none) rfl rfl ?_
                  show pm_R _ 192 173 [.ref 41, .long a0, pm_no, .int a1, .int 2] [] _ _
                  refine pm_R_op pm_M192 (pc' := 174) (st' := [.int 1]) (pm_q192_1 (Nat.le_of_ble_eq_true rfl)) rfl rfl ?_
                  have B2592 : sf_B 0 600 (m2575 10) := T2578.2.2.1 10
                  exact pm_R_ret pm_M192 (r := some (.int 1)) (pm_q192_1 (Nat.le_of_ble_eq_true rfl)) rfl (K1 m2575 w2576 h2577 T2578 F2583 W2587 (⟨f2, e2588, ct4, fun z => (sf_pos B2584 (by decide) z)⟩) (sf_aux118 _ _ _ _ _ _ X2330 X2527 X2581))
                · have B2593 : sf_B 0 9 (m2521 14) := sf_leL (Int32.not_lt.mp c2543) B2536 sf_k9
                  refine pm_R_lo pm_M183 (pc' := 32) rfl rfl rfl ?_
                  refine rf_R_get pm_M183 T2539 (pc' := 35) (v := .int (m2521 14)) rfl rfl rfl rfl ?_
                  refine pm_R_lo pm_M183 (pc' := 36) rfl rfl rfl ?_
                  refine pm_R_icmp pm_M183 (t := 53) (pc' := 39) rfl rfl rfl (fun c2594 => ?_) (fun c2594 => absurd (Classical.not_not.mp c2594) (sf_neq1 B2593 sf_kn1 (by decide)))
                  skip
                  refine pm_R_lo pm_M183 (pc' := 54) rfl rfl rfl ?_
                  refine pm_R_cv pm_M183 (pc' := 57) (a := 41) (ra := []) (rest := []) (ls' := [.ref 41, pm_no, pm_no]) rfl rfl (Or.inl rfl) pm_M179 T2539.2.1 rfl (by decide) (Nat.lt_of_lt_of_le (by decide) T2539.1) rfl rfl (Nat.le_of_ble_eq_true rfl) rfl rfl ?_
                  have B2595 : sf_B 0 600 (m2521 10) := T2539.2.2.1 10
                  refine rf_c179 (d := d + 0) T2539  (fun m2598 w2599 h2600 T2601 F2602 W2603 X2604 X2605 => ?_)
                  have F2606 := F2542.trans F2602 (by decide)
                  have B2607 : sf_B 1 4 (m2598 17) := by rw [W2603 17 (by decide)]; exact B2530
                  have ek2608 : (m2598 17).toInt = ((m2311 17)).toInt := by rw [W2603 17 (by decide)]; exact ek2531
                  have W2609 : rf_W [10, 12, 13, 14, 16, 17, 18, 22] m m2598 := W2532.trans W2603 (by decide)
                  show pm_R _ 183 57 [.ref 41, .int 2, .int 9, .int (-1)] [] _ _
                  refine pm_R_op pm_M183 (pc' := 58) (st' := [.int 1]) rfl rfl rfl ?_
                  refine pm_R_ret pm_M183 (r := some (.int 1)) rfl rfl ?_
                  show pm_R _ 192 158 [.ref 41, .long a0, pm_no, .int a1, .int 2] [.int 1] _ _
                  refine pm_R_br pm_M192 (pc' := 163) (st' := []) (pm_q192_1 (Nat.le_of_ble_eq_true rfl)) rfl ?_
                  refine pm_R_lo pm_M192 (pc' := 164) (pm_q192_1 (Nat.le_of_ble_eq_true rfl)) rfl rfl ?_
                  refine pm_R_op pm_M192 (pc' := 165) (st' := [.int 0, .ref 41]) (pm_q192_1 (Nat.le_of_ble_eq_true rfl)) rfl rfl ?_
                  refine pm_R_op pm_M192 (pc' := 166) (st' := [.int 1, .int 0, .ref 41]) (pm_q192_1 (Nat.le_of_ble_eq_true rfl)) rfl rfl ?_
                  refine pm_R_op pm_M192 (pc' := 167) (st' := [.int 3, .int 1, .int 0, .ref 41]) (pm_q192_1 (Nat.le_of_ble_eq_true rfl)) rfl rfl ?_
                  refine pm_R_op pm_M192 (pc' := 169) (st' := [.int 8, .int 3, .int 1, .int 0, .ref 41]) (pm_q192_1 (Nat.le_of_ble_eq_true rfl)) rfl rfl ?_
                  refine pm_R_op pm_M192 (pc' := 170) (st' := [.int 0, .int 8, .int 3, .int 1, .int 0, .ref 41]) (pm_q192_1 (Nat.le_of_ble_eq_true rfl)) rfl rfl ?_
                  refine pm_R_cv pm_M192 (pc' := 173) (a := 41) (ra := [.int 0, .int 8, .int 3, .int 1, .int 0]) (rest := []) (ls' := [.ref 41, .int 0, .int 1, .int 3, .int 8, .int 0, pm_no, pm_no]) (pm_q192_1 (Nat.le_of_ble_eq_true rfl)) rfl (Or.inl rfl) pm_M185 T2601.2.1 rfl (by decide) (Nat.lt_of_lt_of_le (by decide) T2601.1) rfl rfl (Nat.le_of_ble_eq_true rfl) rfl rfl ?_
                  refine pm_R_lo pm_M185 (pc' := 1) rfl rfl rfl ?_
                  refine rf_R_get pm_M185 T2601 (pc' := 4) (v := .ref 51) rfl rfl rfl rfl ?_
                  refine pm_R_lo pm_M185 (pc' := 5) rfl rfl rfl ?_
                  have e2610 := (F2602.cell (by decide) (F2540.cell (by decide) (F2525.cell (by decide) (F2370.cell (by decide) (F2361.cell (by decide) (F2356.cell (by decide) (F2351.cell (by decide) (F2346.cell (by decide) (F2341.cell (by decide) (F2328.cell (by decide) (F2315.cell (by decide) e3)))))))))))
                  refine pm_R_iald pm_M185 (pc' := 6) (v := (f2 0)) rfl e2610 (Nat.lt_of_lt_of_le (by decide) T2601.1) rfl rfl rfl ?_
                  refine pm_R_lo pm_M185 (pc' := 8) (ls' := [.ref 41, .int 0, .int 1, .int 3, .int 8, .int 0, .int (f2 0), pm_no]) (st' := []) rfl rfl rfl ?_
                  refine pm_R_lo pm_M185 (pc' := 10) rfl rfl rfl ?_
                  refine pm_R_lo pm_M185 (pc' := 12) rfl rfl rfl ?_
                  refine pm_R_icmp pm_M185 (t := 16) (pc' := 15) rfl rfl rfl (fun c2613 => absurd (sf_pt2 B2308 sf_k8) c2613) (fun c2613 => ?_)
                  refine pm_R_ret pm_M185 (r := none) rfl rfl ?_
                  show pm_R _ 192 173 [.ref 41, .long a0, pm_no, .int a1, .int 2] [] _ _
                  refine pm_R_op pm_M192 (pc' := 174) (st' := [.int 1]) (pm_q192_1 (Nat.le_of_ble_eq_true rfl)) rfl rfl ?_
                  have B2614 : sf_B 0 600 (m2598 10) := T2601.2.2.1 10
                  exact pm_R_ret pm_M192 (r := some (.int 1)) (pm_q192_1 (Nat.le_of_ble_eq_true rfl)) rfl (K1 m2598 w2599 h2600 T2601 F2606 W2609 (⟨f2, e2610, ct4, fun z => (sf_pos B2607 (by decide) z)⟩) (sf_aux125 _ _ _ _ _ X2330 X2527 X2604))
              · skip
                refine pm_R_lo pm_M183 (pc' := 9) rfl rfl rfl ?_
                refine pm_R_cv pm_M183 (pc' := 12) (a := 41) (ra := []) (rest := []) (ls' := [.ref 41]) rfl rfl (Or.inl rfl) pm_M184 T2524.2.1 rfl (by decide) (Nat.lt_of_lt_of_le (by decide) T2524.1) rfl rfl (Nat.le_of_ble_eq_true rfl) rfl rfl ?_
                refine pm_R_lo pm_M184 (pc' := 1) rfl rfl rfl ?_
                refine pm_R_lo pm_M184 (pc' := 2) rfl rfl rfl ?_
                have B2615 : sf_B 0 600 (m2521 12) := T2524.2.2.1 12
                refine rf_R_get pm_M184 T2524 (pc' := 5) (v := .int (m2521 12)) rfl rfl rfl rfl ?_
                refine rf_R_put pm_M184 T2524 (pc' := 8) rfl rfl rfl (by decide) rfl rfl B2615 rfl rfl (fun h2616 m2619 em2620 T2617 F2618 => ?_)
                have F2621 := F2529.trans F2618 (by decide)
                have B2622 : sf_B 1 4 (m2619 17) := by rw [em2620]; exact B2530
                have ek2623 : (m2619 17).toInt = ((m2311 17)).toInt := by rw [em2620]; exact ek2531
                have B2624 : sf_B 0 600 (m2619 16) := by rw [em2620]; exact B2615
                have ek2625 : (m2619 16).toInt = ((m2521 12)).toInt := by rw [em2620]; rfl
                have W2626 : rf_W [10, 12, 13, 14, 16, 17, 18, 22] m m2619 := by rw [em2620]; exact W2532.put (by decide)
                refine pm_R_op pm_M184 (pc' := 9) (st' := [.int 0]) rfl rfl rfl ?_
                refine pm_R_ret pm_M184 (r := some (.int 0)) rfl rfl ?_
                show pm_R _ 183 12 [.ref 41, .int 2, .int 9, .int (-1)] [.int 0] _ _
                refine pm_R_ret pm_M183 (r := some (.int 0)) rfl rfl ?_
                show pm_R _ 192 158 [.ref 41, .long a0, pm_no, .int a1, .int 2] [.int 0] _ _
                refine pm_R_br pm_M192 (pc' := 161) (st' := []) (pm_q192_1 (Nat.le_of_ble_eq_true rfl)) rfl ?_
                refine pm_R_op pm_M192 (pc' := 162) (st' := [.int 0]) (pm_q192_1 (Nat.le_of_ble_eq_true rfl)) rfl rfl ?_
                have B2627 : sf_B 0 600 (m2619 10) := T2617.2.2.1 10
                exact pm_R_ret pm_M192 (r := some (.int 0)) (pm_q192_1 (Nat.le_of_ble_eq_true rfl)) rfl (K0 m2619 w2522 h2616 T2617 F2621 W2626 (sf_aux75 _ _ _ _ _ X2330 X2527))
          · skip
            refine pm_R_lo pm_M183 (pc' := 9) rfl rfl rfl ?_
            refine pm_R_cv pm_M183 (pc' := 12) (a := 41) (ra := []) (rest := []) (ls' := [.ref 41]) rfl rfl (Or.inl rfl) pm_M184 T2360.2.1 rfl (by decide) (Nat.lt_of_lt_of_le (by decide) T2360.1) rfl rfl (Nat.le_of_ble_eq_true rfl) rfl rfl ?_
            refine pm_R_lo pm_M184 (pc' := 1) rfl rfl rfl ?_
            refine pm_R_lo pm_M184 (pc' := 2) rfl rfl rfl ?_
            have B2628 : sf_B 0 600 (m2324 12) := T2360.2.2.1 12
            refine rf_R_get pm_M184 T2360 (pc' := 5) (v := .int (m2324 12)) rfl rfl rfl rfl ?_
            refine rf_R_put pm_M184 T2360 (pc' := 8) rfl rfl rfl (by decide) rfl rfl B2628 rfl rfl (fun h2629 m2632 em2633 T2630 F2631 => ?_)
            have F2634 := F2363.trans F2631 (by decide)
            have B2635 : sf_B 1 4 (m2632 17) := by rw [em2633]; exact B2333
            have ek2636 : (m2632 17).toInt = ((m2311 17)).toInt := by rw [em2633]; exact ek2334
            have B2637 : sf_B 0 600 (m2632 16) := by rw [em2633]; exact B2628
            have ek2638 : (m2632 16).toInt = ((m2324 12)).toInt := by rw [em2633]; rfl
            have W2639 : rf_W [10, 12, 13, 14, 16, 17, 18, 22] m m2632 := by rw [em2633]; exact W2335.put (by decide)
            refine pm_R_op pm_M184 (pc' := 9) (st' := [.int 0]) rfl rfl rfl ?_
            refine pm_R_ret pm_M184 (r := some (.int 0)) rfl rfl ?_
            show pm_R _ 183 12 [.ref 41, .int 1, .int 9, .int (-1)] [.int 0] _ _
            refine pm_R_ret pm_M183 (r := some (.int 0)) rfl rfl ?_
            show pm_R _ 192 127 [.ref 41, .long a0, pm_no, .int a1, .int 2] [.int 0] _ _
            refine pm_R_br pm_M192 (pc' := 130) (st' := []) (pm_q192_1 (Nat.le_of_ble_eq_true rfl)) rfl ?_
            refine pm_R_op pm_M192 (pc' := 131) (st' := [.int 0]) (pm_q192_1 (Nat.le_of_ble_eq_true rfl)) rfl rfl ?_
            have B2640 : sf_B 0 600 (m2632 10) := T2630.2.2.1 10
            exact pm_R_ret pm_M192 (r := some (.int 0)) (pm_q192_1 (Nat.le_of_ble_eq_true rfl)) rfl (K0 m2632 w2325 h2629 T2630 F2634 W2639 (sf_aux76 _ _ _ _ X2330))
    · have B2641 : sf_B 0 0 z11 := sf_eqL (Classical.not_not.mp c13) sf_k0
      have B2642 : lf_B 1836020596 1836020596 a0 := lf_eqB e12 B2641 (⟨by decide, by decide⟩ : lf_B 1836020596 1836020596 1836020596)
      refine pm_R_op pm_M192 (pc' := 21) (st' := [.int 1]) rfl rfl rfl ?_
      refine pm_R_br pm_M192 (pc' := 73) rfl rfl ?_
      refine pm_R_lo pm_M192 (pc' := 75) (ls' := [.ref 41, .long a0, pm_no, .int a1, .int 1]) (st' := []) rfl rfl rfl ?_
      refine pm_R_lo pm_M192 (pc' := 77) rfl rfl rfl ?_
      refine pm_R_op pm_M192 (pc' := 78) (st' := [.int (-1), .int 1]) rfl rfl rfl ?_
      refine pm_R_br pm_M192 (pc' := 86) (st' := []) rfl rfl ?_
      refine pm_R_lo pm_M192 (pc' := 87) rfl rfl rfl ?_
      refine rf_R_get pm_M192 T (pc' := 90) (v := .ref 51) rfl rfl rfl rfl ?_
      refine pm_R_op pm_M192 (pc' := 91) (st' := [.int 0, .ref 51]) rfl rfl rfl ?_
      refine pm_R_iald pm_M192 (pc' := 92) (v := (f2 0)) rfl e3 (Nat.lt_of_lt_of_le (by decide) T.1) rfl rfl rfl ?_
      refine pm_R_op pm_M192 (pc' := 94) (st' := [.int 8, .int (f2 0)]) rfl rfl rfl ?_
      refine pm_R_icmp pm_M192 (t := 103) (pc' := 97) rfl rfl rfl (fun c2645 => ?_) (fun c2645 => ?_)
      · have B2646 : sf_B 0 7 (f2 0) := sf_neH0 c2645 sf_k8 ct4
        refine pm_R_lo pm_M192 (pc' := 104) rfl rfl rfl ?_
        refine pm_R_cv pm_M192 (pc' := 107) (a := 41) (ra := []) (rest := []) (ls' := [.ref 41, pm_no, pm_no]) rfl rfl (Or.inl rfl) pm_M179 T.2.1 rfl (by decide) (Nat.lt_of_lt_of_le (by decide) T.1) rfl rfl (Nat.le_of_ble_eq_true rfl) rfl rfl ?_
        refine rf_c179 (d := d + 1) T  (fun m2649 w2650 h2651 T2652 F2653 W2654 X2655 X2656 => ?_)
        have F2657 := (rf_G.refl [41, 51, 52] h).trans F2653 (by decide)
        have B2658 : sf_B 0 4 (m2649 17) := by rw [W2654 17 (by decide)]; exact B6
        have ek2659 : (m2649 17).toInt = ((m 17)).toInt := by rw [W2654 17 (by decide)]
        have W2660 : rf_W [10, 12, 13, 14, 16, 17, 18, 22] m m2649 := (rf_W.refl [10, 12, 13, 14, 16, 17, 18, 22] m).trans W2654 (by decide)
        show pm_R _ 192 107 [.ref 41, .long a0, pm_no, .int a1, .int 1] [] _ _
        refine pm_R_lo pm_M192 (pc' := 108) rfl rfl rfl ?_
        refine pm_R_cv pm_M192 (pc' := 111) (a := 41) (ra := []) (rest := []) (ls' := [.ref 41, pm_no]) rfl rfl (Or.inl rfl) pm_M190 T2652.2.1 rfl (by decide) (Nat.lt_of_lt_of_le (by decide) T2652.1) rfl rfl (Nat.le_of_ble_eq_true rfl) rfl rfl ?_
        refine pm_R_op pm_M190 (pc' := 1) (st' := [.int 0]) rfl rfl rfl ?_
        refine pm_R_lo pm_M190 (pc' := 2) (ls' := [.ref 41, .int 0]) (st' := []) rfl rfl rfl ?_
        refine pm_R_lo pm_M190 (pc' := 3) rfl rfl rfl ?_
        refine pm_R_op pm_M190 (pc' := 4) (st' := [.int 4, .int 0]) rfl rfl rfl ?_
        refine pm_R_br pm_M190 (pc' := 7) (st' := []) rfl rfl ?_
        refine pm_R_lo pm_M190 (pc' := 8) rfl rfl rfl ?_
        refine rf_R_get pm_M190 T2652 (pc' := 11) (v := .ref 52) rfl rfl rfl rfl ?_
        refine pm_R_lo pm_M190 (pc' := 12) rfl rfl rfl ?_
        refine pm_R_op pm_M190 (pc' := 13) (st' := [.int (-1), .int 0, .ref 52]) rfl rfl rfl ?_
        obtain ⟨f2661, e2662, b2663⟩ := T2652.2.2.2.1 52 (by decide) (by decide)
        refine rf_R_ist pm_M190 T2652 (pc' := 14) rfl e2662 (by decide) (by decide) rfl ⟨_, rfl, sf_upd b2663 (sf_weak sf_kn1 (by decide) (by decide)) _⟩ rfl (fun h2664 T2665 F2666 e2667 => ?_)
        have F2668 := F2657.trans F2666 (by decide)
        refine pm_R_lo pm_M190 (pc' := 17) (ls' := [.ref 41, .int 1]) (st' := []) rfl rfl rfl ?_
        refine pm_R_br pm_M190 (pc' := 2) rfl rfl ?_
        refine pm_R_lo pm_M190 (pc' := 3) rfl rfl rfl ?_
        refine pm_R_op pm_M190 (pc' := 4) (st' := [.int 4, .int 1]) rfl rfl rfl ?_
        refine pm_R_br pm_M190 (pc' := 7) (st' := []) rfl rfl ?_
        refine pm_R_lo pm_M190 (pc' := 8) rfl rfl rfl ?_
        refine rf_R_get pm_M190 T2665 (pc' := 11) (v := .ref 52) rfl rfl rfl rfl ?_
        refine pm_R_lo pm_M190 (pc' := 12) rfl rfl rfl ?_
        refine pm_R_op pm_M190 (pc' := 13) (st' := [.int (-1), .int 1, .ref 52]) rfl rfl rfl ?_
        refine rf_R_ist pm_M190 T2665 (pc' := 14) rfl e2667 (by decide) (by decide) rfl ⟨_, rfl, sf_upd (sf_upd b2663 (sf_weak sf_kn1 (by decide) (by decide)) _) (sf_weak sf_kn1 (by decide) (by decide)) _⟩ rfl (fun h2669 T2670 F2671 e2672 => ?_)
        have F2673 := F2668.trans F2671 (by decide)
        refine pm_R_lo pm_M190 (pc' := 17) (ls' := [.ref 41, .int 2]) (st' := []) rfl rfl rfl ?_
        refine pm_R_br pm_M190 (pc' := 2) rfl rfl ?_
        refine pm_R_lo pm_M190 (pc' := 3) rfl rfl rfl ?_
        refine pm_R_op pm_M190 (pc' := 4) (st' := [.int 4, .int 2]) rfl rfl rfl ?_
        refine pm_R_br pm_M190 (pc' := 7) (st' := []) rfl rfl ?_
        refine pm_R_lo pm_M190 (pc' := 8) rfl rfl rfl ?_
        refine rf_R_get pm_M190 T2670 (pc' := 11) (v := .ref 52) rfl rfl rfl rfl ?_
        refine pm_R_lo pm_M190 (pc' := 12) rfl rfl rfl ?_
        refine pm_R_op pm_M190 (pc' := 13) (st' := [.int (-1), .int 2, .ref 52]) rfl rfl rfl ?_
        refine rf_R_ist pm_M190 T2670 (pc' := 14) rfl e2672 (by decide) (by decide) rfl ⟨_, rfl, sf_upd (sf_upd (sf_upd b2663 (sf_weak sf_kn1 (by decide) (by decide)) _) (sf_weak sf_kn1 (by decide) (by decide)) _) (sf_weak sf_kn1 (by decide) (by decide)) _⟩ rfl (fun h2674 T2675 F2676 e2677 => ?_)
        have F2678 := F2673.trans F2676 (by decide)
        refine pm_R_lo pm_M190 (pc' := 17) (ls' := [.ref 41, .int 3]) (st' := []) rfl rfl rfl ?_
        refine pm_R_br pm_M190 (pc' := 2) rfl rfl ?_
        refine pm_R_lo pm_M190 (pc' := 3) rfl rfl rfl ?_
        refine pm_R_op pm_M190 (pc' := 4) (st' := [.int 4, .int 3]) rfl rfl rfl ?_
        refine pm_R_br pm_M190 (pc' := 7) (st' := []) rfl rfl ?_
        refine pm_R_lo pm_M190 (pc' := 8) rfl rfl rfl ?_
        refine rf_R_get pm_M190 T2675 (pc' := 11) (v := .ref 52) rfl rfl rfl rfl ?_
        refine pm_R_lo pm_M190 (pc' := 12) rfl rfl rfl ?_
        refine pm_R_op pm_M190 (pc' := 13) (st' := [.int (-1), .int 3, .ref 52]) rfl rfl rfl ?_
        refine rf_R_ist pm_M190 T2675 (pc' := 14) rfl e2677 (by decide) (by decide) rfl ⟨_, rfl, sf_upd (sf_upd (sf_upd (sf_upd b2663 (sf_weak sf_kn1 (by decide) (by decide)) _) (sf_weak sf_kn1 (by decide) (by decide)) _) (sf_weak sf_kn1 (by decide) (by decide)) _) (sf_weak sf_kn1 (by decide) (by decide)) _⟩ rfl (fun h2679 T2680 F2681 e2682 => ?_)
        have F2683 := F2678.trans F2681 (by decide)
        refine pm_R_lo pm_M190 (pc' := 17) (ls' := [.ref 41, .int 4]) (st' := []) rfl rfl rfl ?_
        refine pm_R_br pm_M190 (pc' := 2) rfl rfl ?_
        refine pm_R_lo pm_M190 (pc' := 3) rfl rfl rfl ?_
        refine pm_R_op pm_M190 (pc' := 4) (st' := [.int 4, .int 4]) rfl rfl rfl ?_
        refine pm_R_br pm_M190 (pc' := 20) (st' := []) rfl rfl ?_
        refine pm_R_ret pm_M190 (r := none) rfl rfl ?_
        show pm_R _ 192 111 [.ref 41, .long a0, pm_no, .int a1, .int 1] [] _ _
        refine pm_R_lo pm_M192 (pc' := 112) rfl rfl rfl ?_
        refine rf_R_get pm_M192 T2680 (pc' := 115) (v := .ref 52) rfl rfl rfl rfl ?_
        refine pm_R_op pm_M192 (pc' := 116) (st' := [.int 0, .ref 52]) (pm_q192_1 (Nat.le_of_ble_eq_true rfl)) rfl rfl ?_
        refine pm_R_lo pm_M192 (pc' := 118) (pm_q192_1 (Nat.le_of_ble_eq_true rfl)) rfl rfl ?_
        refine rf_R_ist pm_M192 T2680 (pc' := 119) (pm_q192_1 (Nat.le_of_ble_eq_true rfl)) e2682 (by decide) (by decide) rfl ⟨_, rfl, sf_upd (sf_upd (sf_upd (sf_upd (sf_upd b2663 (sf_weak sf_kn1 (by decide) (by decide)) _) (sf_weak sf_kn1 (by decide) (by decide)) _) (sf_weak sf_kn1 (by decide) (by decide)) _) (sf_weak sf_kn1 (by decide) (by decide)) _) (sf_weak sf_k1 (by decide) (by decide)) _⟩ rfl (fun h2684 T2685 F2686 e2687 => ?_)
        have F2688 := F2683.trans F2686 (by decide)
        refine pm_R_lo pm_M192 (pc' := 120) (pm_q192_1 (Nat.le_of_ble_eq_true rfl)) rfl rfl ?_
        refine pm_R_op pm_M192 (pc' := 121) (st' := [.int 1, .ref 41]) (pm_q192_1 (Nat.le_of_ble_eq_true rfl)) rfl rfl ?_
        refine pm_R_op pm_M192 (pc' := 123) (st' := [.int 9, .int 1, .ref 41]) (pm_q192_1 (Nat.le_of_ble_eq_true rfl)) rfl rfl ?_
        refine pm_R_op pm_M192 (pc' := 124) (st' := [.int (-1), .int 9, .int 1, .ref 41]) (pm_q192_1 (Nat.le_of_ble_eq_true rfl)) rfl rfl ?_
        refine pm_R_cv pm_M192 (pc' := 127) (a := 41) (ra := [.int (-1), .int 9, .int 1]) (rest := []) (ls' := [.ref 41, .int 1, .int 9, .int (-1)]) (pm_q192_1 (Nat.le_of_ble_eq_true rfl)) rfl (Or.inl rfl) pm_M183 T2685.2.1 rfl (by decide) (Nat.lt_of_lt_of_le (by decide) T2685.1) rfl rfl (Nat.le_of_ble_eq_true rfl) rfl rfl ?_
        refine pm_R_lo pm_M183 (pc' := 1) rfl rfl rfl ?_
        have B2689 : sf_B 0 4 (m2649 13) := T2685.2.2.1 13
        refine rf_R_get pm_M183 T2685 (pc' := 4) (v := .int (m2649 13)) rfl rfl rfl rfl ?_
        refine pm_R_op pm_M183 (pc' := 5) (st' := [.int 3, .int (m2649 13)]) rfl rfl rfl ?_
        refine pm_R_icmp pm_M183 (t := 13) (pc' := 8) rfl rfl rfl (fun c2690 => ?_) (fun c2690 => ?_)
        · have B2691 : sf_B 3 3 (m2649 13) := sf_eqL c2690 sf_k3
          refine pm_R_lo pm_M183 (pc' := 14) rfl rfl rfl ?_
          refine rf_R_get pm_M183 T2685 (pc' := 17) (v := .ref 52) rfl rfl rfl rfl ?_
          refine pm_R_lo pm_M183 (pc' := 18) rfl rfl rfl ?_
          refine pm_R_lo pm_M183 (pc' := 19) rfl rfl rfl ?_
          have B2692 : sf_B 0 99 (m2649 14) := T2685.2.2.1 14
          refine rf_R_get pm_M183 T2685 (pc' := 22) (v := .int (m2649 14)) rfl rfl rfl rfl ?_
          refine rf_R_ist pm_M183 T2685 (pc' := 23) rfl e2687 (by decide) (by decide) rfl ⟨_, rfl, sf_upd (sf_upd (sf_upd (sf_upd (sf_upd (sf_upd b2663 (sf_weak sf_kn1 (by decide) (by decide)) _) (sf_weak sf_kn1 (by decide) (by decide)) _) (sf_weak sf_kn1 (by decide) (by decide)) _) (sf_weak sf_kn1 (by decide) (by decide)) _) (sf_weak sf_k1 (by decide) (by decide)) _) (sf_weak B2692 (by decide) (by decide)) _⟩ rfl (fun h2693 T2694 F2695 e2696 => ?_)
          have F2697 := F2688.trans F2695 (by decide)
          refine pm_R_lo pm_M183 (pc' := 24) rfl rfl rfl ?_
          refine rf_R_get pm_M183 T2694 (pc' := 27) (v := .int (m2649 14)) rfl rfl rfl rfl ?_
          refine pm_R_lo pm_M183 (pc' := 28) rfl rfl rfl ?_
          refine pm_R_icmp pm_M183 (t := 39) (pc' := 31) rfl rfl rfl (fun c2698 => ?_) (fun c2698 => ?_)
          · have B2699 : sf_B 10 99 (m2649 14) := sf_ltR c2698 sf_k9 B2692
            refine pm_R_lo pm_M183 (pc' := 40) rfl rfl rfl ?_
            refine pm_R_op pm_M183 (pc' := 41) (st' := [.int 2, .ref 41]) rfl rfl rfl ?_
            refine pm_R_lo pm_M183 (pc' := 42) rfl rfl rfl ?_
            have B2700 : sf_B 0 600 (m2649 12) := T2694.2.2.1 12
            refine rf_R_get pm_M183 T2694 (pc' := 45) (v := .int (m2649 12)) rfl rfl rfl rfl ?_
            refine pm_R_cv pm_M183 (pc' := 48) (a := 41) (ra := [.int (m2649 12), .int 2]) (rest := []) (ls' := [.ref 41, .int 2, .int (m2649 12)]) rfl rfl (Or.inl rfl) pm_M182 T2694.2.1 rfl (by decide) (Nat.lt_of_lt_of_le (by decide) T2694.1) rfl rfl (Nat.le_of_ble_eq_true rfl) rfl rfl ?_
            refine rf_c182 (d := d + 1) T2694 (sf_weak sf_k2 (by decide) (by decide)) B2700 (fun m2703 w2704 h2705 T2706 F2707 W2708 B2709 => ?_)
            have F2710 := F2697.trans F2707 (by decide)
            have B2711 : sf_B 3 3 (m2703 13) := by rw [W2708 13 (by decide)]; exact B2691
            have B2712 : sf_B 10 99 (m2703 14) := by rw [W2708 14 (by decide)]; exact B2699
            have W2713 : rf_W [10, 12, 13, 14, 16, 17, 18, 22] m m2703 := W2660.trans W2708 (by decide)
            show pm_R _ 183 48 [.ref 41, .int 1, .int 9, .int (-1)] [] _ _
            refine pm_R_lo pm_M183 (pc' := 49) rfl rfl rfl ?_
            refine pm_R_op pm_M183 (pc' := 50) (st' := [.int 0, .ref 41]) rfl rfl rfl ?_
            refine rf_R_put pm_M183 T2706 (pc' := 53) rfl rfl rfl (by decide) rfl rfl (sf_weak sf_k0 (by decide) (by decide)) rfl rfl (fun h2714 m2717 em2718 T2715 F2716 => ?_)
            have F2719 := F2710.trans F2716 (by decide)
            have B2720 : sf_B 3 3 (m2717 13) := by rw [em2718]; exact B2711
            have B2721 : sf_B 10 99 (m2717 14) := by rw [em2718]; exact B2712
            have B2722 : sf_B 1 4 (m2717 17) := by rw [em2718]; exact B2709
            have ek2723 : (m2717 17).toInt = ((m2703 17)).toInt := by rw [em2718]; rfl
            have B2724 : sf_B 0 0 (m2717 22) := by rw [em2718]; exact sf_k0
            have W2726 : rf_W [10, 12, 13, 14, 16, 17, 18, 22] m m2717 := by rw [em2718]; exact W2713.put (by decide)
            refine pm_R_lo pm_M183 (pc' := 54) rfl rfl rfl ?_
            refine pm_R_cv pm_M183 (pc' := 57) (a := 41) (ra := []) (rest := []) (ls' := [.ref 41, pm_no, pm_no]) rfl rfl (Or.inl rfl) pm_M179 T2715.2.1 rfl (by decide) (Nat.lt_of_lt_of_le (by decide) T2715.1) rfl rfl (Nat.le_of_ble_eq_true rfl) rfl rfl ?_
            have B2727 : sf_B 0 600 (m2717 10) := T2715.2.2.1 10
            refine rf_c179 (d := d + 0) T2715  (fun m2730 w2731 h2732 T2733 F2734 W2735 X2736 X2737 => ?_)
            have F2738 := F2719.trans F2734 (by decide)
            have B2739 : sf_B 1 4 (m2730 17) := by rw [W2735 17 (by decide)]; exact B2722
            have ek2740 : (m2730 17).toInt = ((m2703 17)).toInt := by rw [W2735 17 (by decide)]; exact ek2723
            have B2741 : sf_B 0 0 (m2730 22) := by rw [W2735 22 (by decide)]; exact B2724
            have W2742 : rf_W [10, 12, 13, 14, 16, 17, 18, 22] m m2730 := W2726.trans W2735 (by decide)
            show pm_R _ 183 57 [.ref 41, .int 1, .int 9, .int (-1)] [] _ _
            refine pm_R_op pm_M183 (pc' := 58) (st' := [.int 1]) rfl rfl rfl ?_
            refine pm_R_ret pm_M183 (r := some (.int 1)) rfl rfl ?_
            show pm_R _ 192 127 [.ref 41, .long a0, pm_no, .int a1, .int 1] [.int 1] _ _
            refine pm_R_br pm_M192 (pc' := 132) (st' := []) (pm_q192_1 (Nat.le_of_ble_eq_true rfl)) rfl ?_
            refine pm_R_lo pm_M192 (pc' := 134) (pm_q192_1 (Nat.le_of_ble_eq_true rfl)) rfl rfl ?_
            refine pm_R_op pm_M192 (pc' := 135) (st' := [.int 1, .int 1]) (pm_q192_1 (Nat.le_of_ble_eq_true rfl)) rfl rfl ?_
            refine pm_R_br pm_M192 (pc' := 150) (st' := []) (pm_q192_1 (Nat.le_of_ble_eq_true rfl)) rfl ?_
            refine pm_R_lo pm_M192 (pc' := 151) (pm_q192_1 (Nat.le_of_ble_eq_true rfl)) rfl rfl ?_
            refine pm_R_op pm_M192 (pc' := 152) (st' := [.int 2, .ref 41]) (pm_q192_1 (Nat.le_of_ble_eq_true rfl)) rfl rfl ?_
            refine pm_R_op pm_M192 (pc' := 154) (st' := [.int 9, .int 2, .ref 41]) (pm_q192_1 (Nat.le_of_ble_eq_true rfl)) rfl rfl ?_
            refine pm_R_op pm_M192 (pc' := 155) (st' := [.int (-1), .int 9, .int 2, .ref 41]) (pm_q192_1 (Nat.le_of_ble_eq_true rfl)) rfl rfl ?_
            refine pm_R_cv pm_M192 (pc' := 158) (a := 41) (ra := [.int (-1), .int 9, .int 2]) (rest := []) (ls' := [.ref 41, .int 2, .int 9, .int (-1)]) (pm_q192_1 (Nat.le_of_ble_eq_true rfl)) rfl (Or.inl rfl) pm_M183 T2733.2.1 rfl (by decide) (Nat.lt_of_lt_of_le (by decide) T2733.1) rfl rfl (Nat.le_of_ble_eq_true rfl) rfl rfl ?_
            refine pm_R_lo pm_M183 (pc' := 1) rfl rfl rfl ?_
            have B2743 : sf_B 0 4 (m2730 13) := T2733.2.2.1 13
            refine rf_R_get pm_M183 T2733 (pc' := 4) (v := .int (m2730 13)) rfl rfl rfl rfl ?_
            refine pm_R_op pm_M183 (pc' := 5) (st' := [.int 3, .int (m2730 13)]) rfl rfl rfl ?_
            refine pm_R_icmp pm_M183 (t := 13) (pc' := 8) rfl rfl rfl (fun c2744 => ?_) (fun c2744 => ?_)
            · have B2745 : sf_B 3 3 (m2730 13) := sf_eqL c2744 sf_k3
              refine pm_R_lo pm_M183 (pc' := 14) rfl rfl rfl ?_
              refine rf_R_get pm_M183 T2733 (pc' := 17) (v := .ref 52) rfl rfl rfl rfl ?_
              refine pm_R_lo pm_M183 (pc' := 18) rfl rfl rfl ?_
              refine pm_R_lo pm_M183 (pc' := 19) rfl rfl rfl ?_
              have B2746 : sf_B 0 99 (m2730 14) := T2733.2.2.1 14
              refine rf_R_get pm_M183 T2733 (pc' := 22) (v := .int (m2730 14)) rfl rfl rfl rfl ?_
              have e2747 := (F2734.cell (by decide) (F2716.cell (by decide) (F2707.cell (by decide) e2696)))
              refine rf_R_ist pm_M183 T2733 (pc' := 23) rfl e2747 (by decide) (by decide) rfl ⟨_, rfl, sf_upd (sf_upd (sf_upd (sf_upd (sf_upd (sf_upd (sf_upd b2663 (sf_weak sf_kn1 (by decide) (by decide)) _) (sf_weak sf_kn1 (by decide) (by decide)) _) (sf_weak sf_kn1 (by decide) (by decide)) _) (sf_weak sf_kn1 (by decide) (by decide)) _) (sf_weak sf_k1 (by decide) (by decide)) _) (sf_weak B2692 (by decide) (by decide)) _) (sf_weak B2746 (by decide) (by decide)) _⟩ rfl (fun h2748 T2749 F2750 e2751 => ?_)
              have F2752 := F2738.trans F2750 (by decide)
              refine pm_R_lo pm_M183 (pc' := 24) rfl rfl rfl ?_
              refine rf_R_get pm_M183 T2749 (pc' := 27) (v := .int (m2730 14)) rfl rfl rfl rfl ?_
              refine pm_R_lo pm_M183 (pc' := 28) rfl rfl rfl ?_
              refine pm_R_icmp pm_M183 (t := 39) (pc' := 31) rfl rfl rfl (fun c2753 => ?_) (fun c2753 => ?_)
              · have B2754 : sf_B 10 99 (m2730 14) := sf_ltR c2753 sf_k9 B2746
                refine pm_R_lo pm_M183 (pc' := 40) rfl rfl rfl ?_
                refine pm_R_op pm_M183 (pc' := 41) (st' := [.int 2, .ref 41]) rfl rfl rfl ?_
                refine pm_R_lo pm_M183 (pc' := 42) rfl rfl rfl ?_
                have B2755 : sf_B 0 600 (m2730 12) := T2749.2.2.1 12
                refine rf_R_get pm_M183 T2749 (pc' := 45) (v := .int (m2730 12)) rfl rfl rfl rfl ?_
                refine pm_R_cv pm_M183 (pc' := 48) (a := 41) (ra := [.int (m2730 12), .int 2]) (rest := []) (ls' := [.ref 41, .int 2, .int (m2730 12)]) rfl rfl (Or.inl rfl) pm_M182 T2749.2.1 rfl (by decide) (Nat.lt_of_lt_of_le (by decide) T2749.1) rfl rfl (Nat.le_of_ble_eq_true rfl) rfl rfl ?_
                refine rf_c182 (d := d + 1) T2749 (sf_weak sf_k2 (by decide) (by decide)) B2755 (fun m2758 w2759 h2760 T2761 F2762 W2763 B2764 => ?_)
                have F2765 := F2752.trans F2762 (by decide)
                have B2766 : sf_B 0 0 (m2758 22) := by rw [W2763 22 (by decide)]; exact B2741
                have B2767 : sf_B 3 3 (m2758 13) := by rw [W2763 13 (by decide)]; exact B2745
                have B2768 : sf_B 10 99 (m2758 14) := by rw [W2763 14 (by decide)]; exact B2754
                have W2769 : rf_W [10, 12, 13, 14, 16, 17, 18, 22] m m2758 := W2742.trans W2763 (by decide)
                show pm_R _ 183 48 [.ref 41, .int 2, .int 9, .int (-1)] [] _ _
                refine pm_R_lo pm_M183 (pc' := 49) rfl rfl rfl ?_
                refine pm_R_op pm_M183 (pc' := 50) (st' := [.int 0, .ref 41]) rfl rfl rfl ?_
                refine rf_R_put pm_M183 T2761 (pc' := 53) rfl rfl rfl (by decide) rfl rfl (sf_weak sf_k0 (by decide) (by decide)) rfl rfl (fun h2770 m2773 em2774 T2771 F2772 => ?_)
                have F2775 := F2765.trans F2772 (by decide)
                have B2776 : sf_B 3 3 (m2773 13) := by rw [em2774]; exact B2767
                have B2777 : sf_B 10 99 (m2773 14) := by rw [em2774]; exact B2768
                have B2778 : sf_B 1 4 (m2773 17) := by rw [em2774]; exact B2764
                have ek2779 : (m2773 17).toInt = ((m2758 17)).toInt := by rw [em2774]; rfl
                have B2780 : sf_B 0 0 (m2773 22) := by rw [em2774]; exact sf_k0
                have W2782 : rf_W [10, 12, 13, 14, 16, 17, 18, 22] m m2773 := by rw [em2774]; exact W2769.put (by decide)
                refine pm_R_lo pm_M183 (pc' := 54) rfl rfl rfl ?_
                refine pm_R_cv pm_M183 (pc' := 57) (a := 41) (ra := []) (rest := []) (ls' := [.ref 41, pm_no, pm_no]) rfl rfl (Or.inl rfl) pm_M179 T2771.2.1 rfl (by decide) (Nat.lt_of_lt_of_le (by decide) T2771.1) rfl rfl (Nat.le_of_ble_eq_true rfl) rfl rfl ?_
                have B2783 : sf_B 0 600 (m2773 10) := T2771.2.2.1 10
                refine rf_c179 (d := d + 0) T2771  (fun m2786 w2787 h2788 T2789 F2790 W2791 X2792 X2793 => ?_)
                have F2794 := F2775.trans F2790 (by decide)
                have B2795 : sf_B 1 4 (m2786 17) := by rw [W2791 17 (by decide)]; exact B2778
                have ek2796 : (m2786 17).toInt = ((m2758 17)).toInt := by rw [W2791 17 (by decide)]; exact ek2779
                have B2797 : sf_B 0 0 (m2786 22) := by rw [W2791 22 (by decide)]; exact B2780
                have W2798 : rf_W [10, 12, 13, 14, 16, 17, 18, 22] m m2786 := W2782.trans W2791 (by decide)
                show pm_R _ 183 57 [.ref 41, .int 2, .int 9, .int (-1)] [] _ _
                refine pm_R_op pm_M183 (pc' := 58) (st' := [.int 1]) rfl rfl rfl ?_
                refine pm_R_ret pm_M183 (r := some (.int 1)) rfl rfl ?_
                show pm_R _ 192 158 [.ref 41, .long a0, pm_no, .int a1, .int 1] [.int 1] _ _
                refine pm_R_br pm_M192 (pc' := 163) (st' := []) (pm_q192_1 (Nat.le_of_ble_eq_true rfl)) rfl ?_
                refine pm_R_lo pm_M192 (pc' := 164) (pm_q192_1 (Nat.le_of_ble_eq_true rfl)) rfl rfl ?_
                refine pm_R_op pm_M192 (pc' := 165) (st' := [.int 0, .ref 41]) (pm_q192_1 (Nat.le_of_ble_eq_true rfl)) rfl rfl ?_
                refine pm_R_op pm_M192 (pc' := 166) (st' := [.int 1, .int 0, .ref 41]) (pm_q192_1 (Nat.le_of_ble_eq_true rfl)) rfl rfl ?_
                refine pm_R_op pm_M192 (pc' := 167) (st' := [.int 3, .int 1, .int 0, .ref 41]) (pm_q192_1 (Nat.le_of_ble_eq_true rfl)) rfl rfl ?_
                refine pm_R_op pm_M192 (pc' := 169) (st' := [.int 8, .int 3, .int 1, .int 0, .ref 41]) (pm_q192_1 (Nat.le_of_ble_eq_true rfl)) rfl rfl ?_
                refine pm_R_op pm_M192 (pc' := 170) (st' := [.int 0, .int 8, .int 3, .int 1, .int 0, .ref 41]) (pm_q192_1 (Nat.le_of_ble_eq_true rfl)) rfl rfl ?_
                refine pm_R_cv pm_M192 (pc' := 173) (a := 41) (ra := [.int 0, .int 8, .int 3, .int 1, .int 0]) (rest := []) (ls' := [.ref 41, .int 0, .int 1, .int 3, .int 8, .int 0, pm_no, pm_no]) (pm_q192_1 (Nat.le_of_ble_eq_true rfl)) rfl (Or.inl rfl) pm_M185 T2789.2.1 rfl (by decide) (Nat.lt_of_lt_of_le (by decide) T2789.1) rfl rfl (Nat.le_of_ble_eq_true rfl) rfl rfl ?_
                refine pm_R_lo pm_M185 (pc' := 1) rfl rfl rfl ?_
                refine rf_R_get pm_M185 T2789 (pc' := 4) (v := .ref 51) rfl rfl rfl rfl ?_
                refine pm_R_lo pm_M185 (pc' := 5) rfl rfl rfl ?_
                have e2799 := (F2790.cell (by decide) (F2772.cell (by decide) (F2762.cell (by decide) (F2750.cell (by decide) (F2734.cell (by decide) (F2716.cell (by decide) (F2707.cell (by decide) (F2695.cell (by decide) (F2686.cell (by decide) (F2681.cell (by decide) (F2676.cell (by decide) (F2671.cell (by decide) (F2666.cell (by decide) (F2653.cell (by decide) e3))))))))))))))
                refine pm_R_iald pm_M185 (pc' := 6) (v := (f2 0)) rfl e2799 (Nat.lt_of_lt_of_le (by decide) T2789.1) rfl rfl rfl ?_
                refine pm_R_lo pm_M185 (pc' := 8) (ls' := [.ref 41, .int 0, .int 1, .int 3, .int 8, .int 0, .int (f2 0), pm_no]) (st' := []) rfl rfl rfl ?_
                refine pm_R_lo pm_M185 (pc' := 10) rfl rfl rfl ?_
                refine pm_R_lo pm_M185 (pc' := 12) rfl rfl rfl ?_
                refine pm_R_icmp pm_M185 (t := 16) (pc' := 15) rfl rfl rfl (fun c2802 => ?_) (fun c2802 => absurd (Classical.not_not.mp c2802) (sf_neq2 B2646 sf_k8 (by decide)))
                skip
                refine pm_R_op pm_M185 (pc' := 17) (st' := [.int 0]) rfl rfl rfl ?_
                refine pm_R_lo pm_M185 (pc' := 19) (ls' := [.ref 41, .int 0, .int 1, .int 3, .int 8, .int 0, .int (f2 0), .int 0]) (st' := []) rfl rfl rfl ?_
                refine pm_R_lo pm_M185 (pc' := 21) rfl rfl rfl ?_
                refine pm_R_lo pm_M185 (pc' := 22) rfl rfl rfl ?_
                refine pm_R_br pm_M185 (pc' := 25) (st' := []) rfl rfl ?_
                refine pm_R_lo pm_M185 (pc' := 26) rfl rfl rfl ?_
                refine rf_R_get pm_M185 T2789 (pc' := 29) (v := .ref 51) rfl rfl rfl rfl ?_
                refine pm_R_lo pm_M185 (pc' := 30) rfl rfl rfl ?_
                refine pm_R_lo pm_M185 (pc' := 31) rfl rfl rfl ?_
                refine pm_R_lo pm_M185 (pc' := 33) rfl rfl rfl ?_
                refine sf_R_imul pm_M185 (pc' := 34) rfl rfl sf_k3 B2646 (by decide) (by decide) (by decide) (fun z2803 e2804 B2805 => ?_)
                refine sf_R_iadd pm_M185 (pc' := 35) rfl rfl sf_k1 B2805 (by decide) (by decide) (fun z2806 e2807 B2808 => ?_)
                refine pm_R_lo pm_M185 (pc' := 37) rfl rfl rfl ?_
                refine sf_R_iadd pm_M185 (pc' := 38) rfl rfl B2808 sf_k0 (by decide) (by decide) (fun z2809 e2810 B2811 => ?_)
                refine pm_R_lo pm_M185 (pc' := 39) rfl rfl rfl ?_
                refine rf_R_get pm_M185 T2789 (pc' := 42) (v := .ref 52) rfl rfl rfl rfl ?_
                refine pm_R_lo pm_M185 (pc' := 44) rfl rfl rfl ?_
                refine pm_R_lo pm_M185 (pc' := 46) rfl rfl rfl ?_
                refine pm_R_op pm_M185 (pc' := 47) (st' := [.int 0, .ref 52, .int z2809, .ref 51]) rfl rfl rfl ?_
                have e2812 := (F2790.cell (by decide) (F2772.cell (by decide) (F2762.cell (by decide) e2751)))
                refine pm_R_iald pm_M185 (pc' := 48) (v := 1) rfl e2812 (Nat.lt_of_lt_of_le (by decide) T2789.1) rfl (Eq.trans (show (upd (upd (upd (upd (upd (upd (upd f2661 (Int32.toNatClampNeg 0) (-1)) (Int32.toNatClampNeg 1) (-1)) (Int32.toNatClampNeg 2) (-1)) (Int32.toNatClampNeg 3) (-1)) (Int32.toNatClampNeg 0) 1) (Int32.toNatClampNeg 1) (m2649 14)) (Int32.toNatClampNeg 2) (m2730 14)) (Int32.toNatClampNeg 0) = (upd (upd (upd (upd (upd (upd f2661 (Int32.toNatClampNeg 0) (-1)) (Int32.toNatClampNeg 1) (-1)) (Int32.toNatClampNeg 2) (-1)) (Int32.toNatClampNeg 3) (-1)) (Int32.toNatClampNeg 0) 1) (Int32.toNatClampNeg 1) (m2649 14)) (Int32.toNatClampNeg 0) from rfl) (Eq.trans (show (upd (upd (upd (upd (upd (upd f2661 (Int32.toNatClampNeg 0) (-1)) (Int32.toNatClampNeg 1) (-1)) (Int32.toNatClampNeg 2) (-1)) (Int32.toNatClampNeg 3) (-1)) (Int32.toNatClampNeg 0) 1) (Int32.toNatClampNeg 1) (m2649 14)) (Int32.toNatClampNeg 0) = (upd (upd (upd (upd (upd f2661 (Int32.toNatClampNeg 0) (-1)) (Int32.toNatClampNeg 1) (-1)) (Int32.toNatClampNeg 2) (-1)) (Int32.toNatClampNeg 3) (-1)) (Int32.toNatClampNeg 0) 1) (Int32.toNatClampNeg 0) from rfl) rfl)) rfl ?_
                refine rf_R_ist pm_M185 T2789 (pc' := 49) rfl e2799 (by decide) (by decide) (sf_in B2811 (by decide) (by decide)) ⟨_, rfl⟩ rfl (fun h2815 T2816 F2817 e2818 => ?_)
                have F2819 := F2794.trans F2817 (by decide)
                have ct2820 : rf_ct 3 (upd f2 (Int32.toNatClampNeg z2809) 1) := (sf_eqL (Eq.trans (sf_upd_ne (j := Int32.toNatClampNeg 0) B2811 (by decide) (by decide)) rfl) (sf_weak B2646 (by decide) (by decide)))
                have bd2821 : (m2786 17).toInt = 0 → rf_bd 3 (upd f2 (Int32.toNatClampNeg z2809) 1) := fun z => (sf_pos B2795 (by decide) z)
                refine pm_R_lo pm_M185 (pc' := 52) (ls' := [.ref 41, .int 0, .int 1, .int 3, .int 8, .int 0, .int (f2 0), .int 1]) (st' := []) rfl rfl rfl ?_
                refine pm_R_br pm_M185 (pc' := 19) rfl rfl ?_
                refine pm_R_lo pm_M185 (pc' := 21) rfl rfl rfl ?_
                refine pm_R_lo pm_M185 (pc' := 22) rfl rfl rfl ?_
                refine pm_R_br pm_M185 (pc' := 25) (st' := []) rfl rfl ?_
                refine pm_R_lo pm_M185 (pc' := 26) rfl rfl rfl ?_
                refine rf_R_get pm_M185 T2816 (pc' := 29) (v := .ref 51) rfl rfl rfl rfl ?_
                refine pm_R_lo pm_M185 (pc' := 30) rfl rfl rfl ?_
                refine pm_R_lo pm_M185 (pc' := 31) rfl rfl rfl ?_
                refine pm_R_lo pm_M185 (pc' := 33) rfl rfl rfl ?_
                refine sf_R_imulV pm_M185 (pc' := 34) rfl rfl sf_k3 B2646 (by decide) (by decide) (by decide) e2804 ?_
                refine sf_R_iaddV pm_M185 (pc' := 35) rfl rfl sf_k1 B2805 (by decide) (by decide) e2807 ?_
                refine pm_R_lo pm_M185 (pc' := 37) rfl rfl rfl ?_
                refine sf_R_iadd pm_M185 (pc' := 38) rfl rfl B2808 sf_k1 (by decide) (by decide) (fun z2822 e2823 B2824 => ?_)
                refine pm_R_lo pm_M185 (pc' := 39) rfl rfl rfl ?_
                refine rf_R_get pm_M185 T2816 (pc' := 42) (v := .ref 52) rfl rfl rfl rfl ?_
                refine pm_R_lo pm_M185 (pc' := 44) rfl rfl rfl ?_
                refine pm_R_lo pm_M185 (pc' := 46) rfl rfl rfl ?_
                refine pm_R_op pm_M185 (pc' := 47) (st' := [.int 1, .ref 52, .int z2822, .ref 51]) rfl rfl rfl ?_
                have e2825 := (F2817.cell (by decide) e2812)
                refine pm_R_iald pm_M185 (pc' := 48) (v := (m2649 14)) rfl e2825 (Nat.lt_of_lt_of_le (by decide) T2816.1) rfl (Eq.trans (show (upd (upd (upd (upd (upd (upd (upd f2661 (Int32.toNatClampNeg 0) (-1)) (Int32.toNatClampNeg 1) (-1)) (Int32.toNatClampNeg 2) (-1)) (Int32.toNatClampNeg 3) (-1)) (Int32.toNatClampNeg 0) 1) (Int32.toNatClampNeg 1) (m2649 14)) (Int32.toNatClampNeg 2) (m2730 14)) (Int32.toNatClampNeg 1) = (upd (upd (upd (upd (upd (upd f2661 (Int32.toNatClampNeg 0) (-1)) (Int32.toNatClampNeg 1) (-1)) (Int32.toNatClampNeg 2) (-1)) (Int32.toNatClampNeg 3) (-1)) (Int32.toNatClampNeg 0) 1) (Int32.toNatClampNeg 1) (m2649 14)) (Int32.toNatClampNeg 1) from rfl) rfl) rfl ?_
                refine rf_R_ist pm_M185 T2816 (pc' := 49) rfl e2818 (by decide) (by decide) (sf_in B2824 (by decide) (by decide)) ⟨_, rfl⟩ rfl (fun h2828 T2829 F2830 e2831 => ?_)
                have F2832 := F2819.trans F2830 (by decide)
                have ct2833 : rf_ct 3 (upd (upd f2 (Int32.toNatClampNeg z2809) 1) (Int32.toNatClampNeg z2822) (m2649 14)) := (sf_eqL (Eq.trans (sf_upd_ne (j := Int32.toNatClampNeg 0) B2824 (by decide) (by decide)) (Eq.trans (sf_upd_ne (j := Int32.toNatClampNeg 0) B2811 (by decide) (by decide)) rfl)) (sf_weak B2646 (by decide) (by decide)))
                have bd2834 : (m2786 17).toInt = 0 → rf_bd 3 (upd (upd f2 (Int32.toNatClampNeg z2809) 1) (Int32.toNatClampNeg z2822) (m2649 14)) := fun z => (sf_pos B2795 (by decide) z)
                refine pm_R_lo pm_M185 (pc' := 52) (ls' := [.ref 41, .int 0, .int 1, .int 3, .int 8, .int 0, .int (f2 0), .int 2]) (st' := []) rfl rfl rfl ?_
                refine pm_R_br pm_M185 (pc' := 19) rfl rfl ?_
                refine pm_R_lo pm_M185 (pc' := 21) rfl rfl rfl ?_
                refine pm_R_lo pm_M185 (pc' := 22) rfl rfl rfl ?_
                refine pm_R_br pm_M185 (pc' := 25) (st' := []) rfl rfl ?_
                refine pm_R_lo pm_M185 (pc' := 26) rfl rfl rfl ?_
                refine rf_R_get pm_M185 T2829 (pc' := 29) (v := .ref 51) rfl rfl rfl rfl ?_
                refine pm_R_lo pm_M185 (pc' := 30) rfl rfl rfl ?_
                refine pm_R_lo pm_M185 (pc' := 31) rfl rfl rfl ?_
                refine pm_R_lo pm_M185 (pc' := 33) rfl rfl rfl ?_
                refine sf_R_imulV pm_M185 (pc' := 34) rfl rfl sf_k3 B2646 (by decide) (by decide) (by decide) e2804 ?_
                refine sf_R_iaddV pm_M185 (pc' := 35) rfl rfl sf_k1 B2805 (by decide) (by decide) e2807 ?_
                refine pm_R_lo pm_M185 (pc' := 37) rfl rfl rfl ?_
                refine sf_R_iadd pm_M185 (pc' := 38) rfl rfl B2808 sf_k2 (by decide) (by decide) (fun z2835 e2836 B2837 => ?_)
                refine pm_R_lo pm_M185 (pc' := 39) rfl rfl rfl ?_
                refine rf_R_get pm_M185 T2829 (pc' := 42) (v := .ref 52) rfl rfl rfl rfl ?_
                refine pm_R_lo pm_M185 (pc' := 44) rfl rfl rfl ?_
                refine pm_R_lo pm_M185 (pc' := 46) rfl rfl rfl ?_
                refine pm_R_op pm_M185 (pc' := 47) (st' := [.int 2, .ref 52, .int z2835, .ref 51]) rfl rfl rfl ?_
                have e2838 := (F2830.cell (by decide) e2825)
                refine pm_R_iald pm_M185 (pc' := 48) (v := (m2730 14)) rfl e2838 (Nat.lt_of_lt_of_le (by decide) T2829.1) rfl rfl rfl ?_
                refine rf_R_ist pm_M185 T2829 (pc' := 49) rfl e2831 (by decide) (by decide) (sf_in B2837 (by decide) (by decide)) ⟨_, rfl⟩ rfl (fun h2841 T2842 F2843 e2844 => ?_)
                have F2845 := F2832.trans F2843 (by decide)
                have ct2846 : rf_ct 3 (upd (upd (upd f2 (Int32.toNatClampNeg z2809) 1) (Int32.toNatClampNeg z2822) (m2649 14)) (Int32.toNatClampNeg z2835) (m2730 14)) := (sf_eqL (Eq.trans (sf_upd_ne (j := Int32.toNatClampNeg 0) B2837 (by decide) (by decide)) (Eq.trans (sf_upd_ne (j := Int32.toNatClampNeg 0) B2824 (by decide) (by decide)) (Eq.trans (sf_upd_ne (j := Int32.toNatClampNeg 0) B2811 (by decide) (by decide)) rfl))) (sf_weak B2646 (by decide) (by decide)))
                have bd2847 : (m2786 17).toInt = 0 → rf_bd 3 (upd (upd (upd f2 (Int32.toNatClampNeg z2809) 1) (Int32.toNatClampNeg z2822) (m2649 14)) (Int32.toNatClampNeg z2835) (m2730 14)) := fun z => (sf_pos B2795 (by decide) z)
                refine pm_R_lo pm_M185 (pc' := 52) (ls' := [.ref 41, .int 0, .int 1, .int 3, .int 8, .int 0, .int (f2 0), .int 3]) (st' := []) rfl rfl rfl ?_
                refine pm_R_br pm_M185 (pc' := 19) rfl rfl ?_
                refine pm_R_lo pm_M185 (pc' := 21) rfl rfl rfl ?_
                refine pm_R_lo pm_M185 (pc' := 22) rfl rfl rfl ?_
                refine pm_R_br pm_M185 (pc' := 55) (st' := []) rfl rfl ?_
                refine pm_R_lo pm_M185 (pc' := 56) rfl rfl rfl ?_
                refine rf_R_get pm_M185 T2842 (pc' := 59) (v := .ref 51) rfl rfl rfl rfl ?_
                refine pm_R_lo pm_M185 (pc' := 60) rfl rfl rfl ?_
                refine pm_R_op pm_M185 (pc' := 61) (st' := [.int 0, .ref 51, .int 0, .ref 51]) rfl rfl rfl ?_
                refine pm_R_iald pm_M185 (pc' := 62) (v := (f2 0)) rfl e2844 (Nat.lt_of_lt_of_le (by decide) T2842.1) rfl (Eq.trans (sf_upd_ne (j := Int32.toNatClampNeg 0) B2837 (by decide) (by decide)) (Eq.trans (sf_upd_ne (j := Int32.toNatClampNeg 0) B2824 (by decide) (by decide)) (Eq.trans (sf_upd_ne (j := Int32.toNatClampNeg 0) B2811 (by decide) (by decide)) rfl))) rfl ?_
                refine pm_R_op pm_M185 (pc' := 63) (st' := [.int 1, .int (f2 0), .int 0, .ref 51]) rfl rfl rfl ?_
                refine sf_R_iadd pm_M185 (pc' := 64) rfl rfl B2646 sf_k1 (by decide) (by decide) (fun z2850 e2851 B2852 => ?_)
                refine rf_R_ist pm_M185 T2842 (pc' := 65) rfl e2844 (by decide) (by decide) rfl ⟨_, rfl⟩ rfl (fun h2853 T2854 F2855 e2856 => ?_)
                have F2857 := F2845.trans F2855 (by decide)
                have ct2858 : rf_ct 3 (upd (upd (upd (upd f2 (Int32.toNatClampNeg z2809) 1) (Int32.toNatClampNeg z2822) (m2649 14)) (Int32.toNatClampNeg z2835) (m2730 14)) (Int32.toNatClampNeg 0) z2850) := (sf_eqL rfl (sf_weak B2852 (by decide) (by decide)))
                have bd2859 : (m2786 17).toInt = 0 → rf_bd 3 (upd (upd (upd (upd f2 (Int32.toNatClampNeg z2809) 1) (Int32.toNatClampNeg z2822) (m2649 14)) (Int32.toNatClampNeg z2835) (m2730 14)) (Int32.toNatClampNeg 0) z2850) := fun z => (sf_pos B2795 (by decide) z)
                refine pm_R_ret pm_M185 (r := none) rfl rfl ?_
                show pm_R _ 192 173 [.ref 41, .long a0, pm_no, .int a1, .int 1] [] _ _
                refine pm_R_op pm_M192 (pc' := 174) (st' := [.int 1]) (pm_q192_1 (Nat.le_of_ble_eq_true rfl)) rfl rfl ?_
                have B2860 : sf_B 0 600 (m2786 10) := T2854.2.2.1 10
                exact pm_R_ret pm_M192 (r := some (.int 1)) (pm_q192_1 (Nat.le_of_ble_eq_true rfl)) rfl (K1 m2786 w2787 h2853 T2854 F2857 W2798 (⟨(upd (upd (upd (upd f2 (Int32.toNatClampNeg z2809) 1) (Int32.toNatClampNeg z2822) (m2649 14)) (Int32.toNatClampNeg z2835) (m2730 14)) (Int32.toNatClampNeg 0) z2850), e2856, ct2858, fun z => (sf_pos B2795 (by decide) z)⟩) (sf_aux108 _ _ _ _ _ _ X2655 X2736 X2792))
              · have B2861 : sf_B 0 9 (m2730 14) := sf_leL (Int32.not_lt.mp c2753) B2746 sf_k9
                refine pm_R_lo pm_M183 (pc' := 32) rfl rfl rfl ?_
                refine rf_R_get pm_M183 T2749 (pc' := 35) (v := .int (m2730 14)) rfl rfl rfl rfl ?_
                refine pm_R_lo pm_M183 (pc' := 36) rfl rfl rfl ?_
                refine pm_R_icmp pm_M183 (t := 53) (pc' := 39) rfl rfl rfl (fun c2862 => ?_) (fun c2862 => absurd (Classical.not_not.mp c2862) (sf_neq1 B2861 sf_kn1 (by decide)))
                skip
                refine pm_R_lo pm_M183 (pc' := 54) rfl rfl rfl ?_
                refine pm_R_cv pm_M183 (pc' := 57) (a := 41) (ra := []) (rest := []) (ls' := [.ref 41, pm_no, pm_no]) rfl rfl (Or.inl rfl) pm_M179 T2749.2.1 rfl (by decide) (Nat.lt_of_lt_of_le (by decide) T2749.1) rfl rfl (Nat.le_of_ble_eq_true rfl) rfl rfl ?_
                have B2863 : sf_B 0 600 (m2730 10) := T2749.2.2.1 10
                refine rf_c179 (d := d + 0) T2749  (fun m2866 w2867 h2868 T2869 F2870 W2871 X2872 X2873 => ?_)
                have F2874 := F2752.trans F2870 (by decide)
                have B2875 : sf_B 1 4 (m2866 17) := by rw [W2871 17 (by decide)]; exact B2739
                have ek2876 : (m2866 17).toInt = ((m2703 17)).toInt := by rw [W2871 17 (by decide)]; exact ek2740
                have B2877 : sf_B 0 0 (m2866 22) := by rw [W2871 22 (by decide)]; exact B2741
                have W2878 : rf_W [10, 12, 13, 14, 16, 17, 18, 22] m m2866 := W2742.trans W2871 (by decide)
                show pm_R _ 183 57 [.ref 41, .int 2, .int 9, .int (-1)] [] _ _
                refine pm_R_op pm_M183 (pc' := 58) (st' := [.int 1]) rfl rfl rfl ?_
                refine pm_R_ret pm_M183 (r := some (.int 1)) rfl rfl ?_
                show pm_R _ 192 158 [.ref 41, .long a0, pm_no, .int a1, .int 1] [.int 1] _ _
                refine pm_R_br pm_M192 (pc' := 163) (st' := []) (pm_q192_1 (Nat.le_of_ble_eq_true rfl)) rfl ?_
                refine pm_R_lo pm_M192 (pc' := 164) (pm_q192_1 (Nat.le_of_ble_eq_true rfl)) rfl rfl ?_
                refine pm_R_op pm_M192 (pc' := 165) (st' := [.int 0, .ref 41]) (pm_q192_1 (Nat.le_of_ble_eq_true rfl)) rfl rfl ?_
                refine pm_R_op pm_M192 (pc' := 166) (st' := [.int 1, .int 0, .ref 41]) (pm_q192_1 (Nat.le_of_ble_eq_true rfl)) rfl rfl ?_
                refine pm_R_op pm_M192 (pc' := 167) (st' := [.int 3, .int 1, .int 0, .ref 41]) (pm_q192_1 (Nat.le_of_ble_eq_true rfl)) rfl rfl ?_
                refine pm_R_op pm_M192 (pc' := 169) (st' := [.int 8, .int 3, .int 1, .int 0, .ref 41]) (pm_q192_1 (Nat.le_of_ble_eq_true rfl)) rfl rfl ?_
                refine pm_R_op pm_M192 (pc' := 170) (st' := [.int 0, .int 8, .int 3, .int 1, .int 0, .ref 41]) (pm_q192_1 (Nat.le_of_ble_eq_true rfl)) rfl rfl ?_
                refine pm_R_cv pm_M192 (pc' := 173) (a := 41) (ra := [.int 0, .int 8, .int 3, .int 1, .int 0]) (rest := []) (ls' := [.ref 41, .int 0, .int 1, .int 3, .int 8, .int 0, pm_no, pm_no]) (pm_q192_1 (Nat.le_of_ble_eq_true rfl)) rfl (Or.inl rfl) pm_M185 T2869.2.1 rfl (by decide) (Nat.lt_of_lt_of_le (by decide) T2869.1) rfl rfl (Nat.le_of_ble_eq_true rfl) rfl rfl ?_
                refine pm_R_lo pm_M185 (pc' := 1) rfl rfl rfl ?_
                refine rf_R_get pm_M185 T2869 (pc' := 4) (v := .ref 51) rfl rfl rfl rfl ?_
                refine pm_R_lo pm_M185 (pc' := 5) rfl rfl rfl ?_
                have e2879 := (F2870.cell (by decide) (F2750.cell (by decide) (F2734.cell (by decide) (F2716.cell (by decide) (F2707.cell (by decide) (F2695.cell (by decide) (F2686.cell (by decide) (F2681.cell (by decide) (F2676.cell (by decide) (F2671.cell (by decide) (F2666.cell (by decide) (F2653.cell (by decide) e3))))))))))))
                refine pm_R_iald pm_M185 (pc' := 6) (v := (f2 0)) rfl e2879 (Nat.lt_of_lt_of_le (by decide) T2869.1) rfl rfl rfl ?_
                refine pm_R_lo pm_M185 (pc' := 8) (ls' := [.ref 41, .int 0, .int 1, .int 3, .int 8, .int 0, .int (f2 0), pm_no]) (st' := []) rfl rfl rfl ?_
                refine pm_R_lo pm_M185 (pc' := 10) rfl rfl rfl ?_
                refine pm_R_lo pm_M185 (pc' := 12) rfl rfl rfl ?_
                refine pm_R_icmp pm_M185 (t := 16) (pc' := 15) rfl rfl rfl (fun c2882 => ?_) (fun c2882 => absurd (Classical.not_not.mp c2882) (sf_neq2 B2646 sf_k8 (by decide)))
                skip
                refine pm_R_op pm_M185 (pc' := 17) (st' := [.int 0]) rfl rfl rfl ?_
                refine pm_R_lo pm_M185 (pc' := 19) (ls' := [.ref 41, .int 0, .int 1, .int 3, .int 8, .int 0, .int (f2 0), .int 0]) (st' := []) rfl rfl rfl ?_
                refine pm_R_lo pm_M185 (pc' := 21) rfl rfl rfl ?_
                refine pm_R_lo pm_M185 (pc' := 22) rfl rfl rfl ?_
                refine pm_R_br pm_M185 (pc' := 25) (st' := []) rfl rfl ?_
                refine pm_R_lo pm_M185 (pc' := 26) rfl rfl rfl ?_
                refine rf_R_get pm_M185 T2869 (pc' := 29) (v := .ref 51) rfl rfl rfl rfl ?_
                refine pm_R_lo pm_M185 (pc' := 30) rfl rfl rfl ?_
                refine pm_R_lo pm_M185 (pc' := 31) rfl rfl rfl ?_
                refine pm_R_lo pm_M185 (pc' := 33) rfl rfl rfl ?_
                refine sf_R_imul pm_M185 (pc' := 34) rfl rfl sf_k3 B2646 (by decide) (by decide) (by decide) (fun z2883 e2884 B2885 => ?_)
                refine sf_R_iadd pm_M185 (pc' := 35) rfl rfl sf_k1 B2885 (by decide) (by decide) (fun z2886 e2887 B2888 => ?_)
                refine pm_R_lo pm_M185 (pc' := 37) rfl rfl rfl ?_
                refine sf_R_iadd pm_M185 (pc' := 38) rfl rfl B2888 sf_k0 (by decide) (by decide) (fun z2889 e2890 B2891 => ?_)
                refine pm_R_lo pm_M185 (pc' := 39) rfl rfl rfl ?_
                refine rf_R_get pm_M185 T2869 (pc' := 42) (v := .ref 52) rfl rfl rfl rfl ?_
                refine pm_R_lo pm_M185 (pc' := 44) rfl rfl rfl ?_
                refine pm_R_lo pm_M185 (pc' := 46) rfl rfl rfl ?_
                refine pm_R_op pm_M185 (pc' := 47) (st' := [.int 0, .ref 52, .int z2889, .ref 51]) rfl rfl rfl ?_
                have e2892 := (F2870.cell (by decide) e2751)
                refine pm_R_iald pm_M185 (pc' := 48) (v := 1) rfl e2892 (Nat.lt_of_lt_of_le (by decide) T2869.1) rfl (Eq.trans (show (upd (upd (upd (upd (upd (upd (upd f2661 (Int32.toNatClampNeg 0) (-1)) (Int32.toNatClampNeg 1) (-1)) (Int32.toNatClampNeg 2) (-1)) (Int32.toNatClampNeg 3) (-1)) (Int32.toNatClampNeg 0) 1) (Int32.toNatClampNeg 1) (m2649 14)) (Int32.toNatClampNeg 2) (m2730 14)) (Int32.toNatClampNeg 0) = (upd (upd (upd (upd (upd (upd f2661 (Int32.toNatClampNeg 0) (-1)) (Int32.toNatClampNeg 1) (-1)) (Int32.toNatClampNeg 2) (-1)) (Int32.toNatClampNeg 3) (-1)) (Int32.toNatClampNeg 0) 1) (Int32.toNatClampNeg 1) (m2649 14)) (Int32.toNatClampNeg 0) from rfl) (Eq.trans (show (upd (upd (upd (upd (upd (upd f2661 (Int32.toNatClampNeg 0) (-1)) (Int32.toNatClampNeg 1) (-1)) (Int32.toNatClampNeg 2) (-1)) (Int32.toNatClampNeg 3) (-1)) (Int32.toNatClampNeg 0) 1) (Int32.toNatClampNeg 1) (m2649 14)) (Int32.toNatClampNeg 0) = (upd (upd (upd (upd (upd f2661 (Int32.toNatClampNeg 0) (-1)) (Int32.toNatClampNeg 1) (-1)) (Int32.toNatClampNeg 2) (-1)) (Int32.toNatClampNeg 3) (-1)) (Int32.toNatClampNeg 0) 1) (Int32.toNatClampNeg 0) from rfl) rfl)) rfl ?_
                refine rf_R_ist pm_M185 T2869 (pc' := 49) rfl e2879 (by decide) (by decide) (sf_in B2891 (by decide) (by decide)) ⟨_, rfl⟩ rfl (fun h2895 T2896 F2897 e2898 => ?_)
                have F2899 := F2874.trans F2897 (by decide)
                have ct2900 : rf_ct 3 (upd f2 (Int32.toNatClampNeg z2889) 1) := (sf_eqL (Eq.trans (sf_upd_ne (j := Int32.toNatClampNeg 0) B2891 (by decide) (by decide)) rfl) (sf_weak B2646 (by decide) (by decide)))
                have bd2901 : (m2866 17).toInt = 0 → rf_bd 3 (upd f2 (Int32.toNatClampNeg z2889) 1) := fun z => (sf_pos B2875 (by decide) z)
                refine pm_R_lo pm_M185 (pc' := 52) (ls' := [.ref 41, .int 0, .int 1, .int 3, .int 8, .int 0, .int (f2 0), .int 1]) (st' := []) rfl rfl rfl ?_
                refine pm_R_br pm_M185 (pc' := 19) rfl rfl ?_
                refine pm_R_lo pm_M185 (pc' := 21) rfl rfl rfl ?_
                refine pm_R_lo pm_M185 (pc' := 22) rfl rfl rfl ?_
                refine pm_R_br pm_M185 (pc' := 25) (st' := []) rfl rfl ?_
                refine pm_R_lo pm_M185 (pc' := 26) rfl rfl rfl ?_
                refine rf_R_get pm_M185 T2896 (pc' := 29) (v := .ref 51) rfl rfl rfl rfl ?_
                refine pm_R_lo pm_M185 (pc' := 30) rfl rfl rfl ?_
                refine pm_R_lo pm_M185 (pc' := 31) rfl rfl rfl ?_
                refine pm_R_lo pm_M185 (pc' := 33) rfl rfl rfl ?_
                refine sf_R_imulV pm_M185 (pc' := 34) rfl rfl sf_k3 B2646 (by decide) (by decide) (by decide) e2884 ?_
                refine sf_R_iaddV pm_M185 (pc' := 35) rfl rfl sf_k1 B2885 (by decide) (by decide) e2887 ?_
                refine pm_R_lo pm_M185 (pc' := 37) rfl rfl rfl ?_
                refine sf_R_iadd pm_M185 (pc' := 38) rfl rfl B2888 sf_k1 (by decide) (by decide) (fun z2902 e2903 B2904 => ?_)
                refine pm_R_lo pm_M185 (pc' := 39) rfl rfl rfl ?_
                refine rf_R_get pm_M185 T2896 (pc' := 42) (v := .ref 52) rfl rfl rfl rfl ?_
                refine pm_R_lo pm_M185 (pc' := 44) rfl rfl rfl ?_
                refine pm_R_lo pm_M185 (pc' := 46) rfl rfl rfl ?_
                refine pm_R_op pm_M185 (pc' := 47) (st' := [.int 1, .ref 52, .int z2902, .ref 51]) rfl rfl rfl ?_
                have e2905 := (F2897.cell (by decide) e2892)
                refine pm_R_iald pm_M185 (pc' := 48) (v := (m2649 14)) rfl e2905 (Nat.lt_of_lt_of_le (by decide) T2896.1) rfl (Eq.trans (show (upd (upd (upd (upd (upd (upd (upd f2661 (Int32.toNatClampNeg 0) (-1)) (Int32.toNatClampNeg 1) (-1)) (Int32.toNatClampNeg 2) (-1)) (Int32.toNatClampNeg 3) (-1)) (Int32.toNatClampNeg 0) 1) (Int32.toNatClampNeg 1) (m2649 14)) (Int32.toNatClampNeg 2) (m2730 14)) (Int32.toNatClampNeg 1) = (upd (upd (upd (upd (upd (upd f2661 (Int32.toNatClampNeg 0) (-1)) (Int32.toNatClampNeg 1) (-1)) (Int32.toNatClampNeg 2) (-1)) (Int32.toNatClampNeg 3) (-1)) (Int32.toNatClampNeg 0) 1) (Int32.toNatClampNeg 1) (m2649 14)) (Int32.toNatClampNeg 1) from rfl) rfl) rfl ?_
                refine rf_R_ist pm_M185 T2896 (pc' := 49) rfl e2898 (by decide) (by decide) (sf_in B2904 (by decide) (by decide)) ⟨_, rfl⟩ rfl (fun h2908 T2909 F2910 e2911 => ?_)
                have F2912 := F2899.trans F2910 (by decide)
                have ct2913 : rf_ct 3 (upd (upd f2 (Int32.toNatClampNeg z2889) 1) (Int32.toNatClampNeg z2902) (m2649 14)) := (sf_eqL (Eq.trans (sf_upd_ne (j := Int32.toNatClampNeg 0) B2904 (by decide) (by decide)) (Eq.trans (sf_upd_ne (j := Int32.toNatClampNeg 0) B2891 (by decide) (by decide)) rfl)) (sf_weak B2646 (by decide) (by decide)))
                have bd2914 : (m2866 17).toInt = 0 → rf_bd 3 (upd (upd f2 (Int32.toNatClampNeg z2889) 1) (Int32.toNatClampNeg z2902) (m2649 14)) := fun z => (sf_pos B2875 (by decide) z)
                refine pm_R_lo pm_M185 (pc' := 52) (ls' := [.ref 41, .int 0, .int 1, .int 3, .int 8, .int 0, .int (f2 0), .int 2]) (st' := []) rfl rfl rfl ?_
                refine pm_R_br pm_M185 (pc' := 19) rfl rfl ?_
                refine pm_R_lo pm_M185 (pc' := 21) rfl rfl rfl ?_
                refine pm_R_lo pm_M185 (pc' := 22) rfl rfl rfl ?_
                refine pm_R_br pm_M185 (pc' := 25) (st' := []) rfl rfl ?_
                refine pm_R_lo pm_M185 (pc' := 26) rfl rfl rfl ?_
                refine rf_R_get pm_M185 T2909 (pc' := 29) (v := .ref 51) rfl rfl rfl rfl ?_
                refine pm_R_lo pm_M185 (pc' := 30) rfl rfl rfl ?_
                refine pm_R_lo pm_M185 (pc' := 31) rfl rfl rfl ?_
                refine pm_R_lo pm_M185 (pc' := 33) rfl rfl rfl ?_
                refine sf_R_imulV pm_M185 (pc' := 34) rfl rfl sf_k3 B2646 (by decide) (by decide) (by decide) e2884 ?_
                refine sf_R_iaddV pm_M185 (pc' := 35) rfl rfl sf_k1 B2885 (by decide) (by decide) e2887 ?_
                refine pm_R_lo pm_M185 (pc' := 37) rfl rfl rfl ?_
                refine sf_R_iadd pm_M185 (pc' := 38) rfl rfl B2888 sf_k2 (by decide) (by decide) (fun z2915 e2916 B2917 => ?_)
                refine pm_R_lo pm_M185 (pc' := 39) rfl rfl rfl ?_
                refine rf_R_get pm_M185 T2909 (pc' := 42) (v := .ref 52) rfl rfl rfl rfl ?_
                refine pm_R_lo pm_M185 (pc' := 44) rfl rfl rfl ?_
                refine pm_R_lo pm_M185 (pc' := 46) rfl rfl rfl ?_
                refine pm_R_op pm_M185 (pc' := 47) (st' := [.int 2, .ref 52, .int z2915, .ref 51]) rfl rfl rfl ?_
                have e2918 := (F2910.cell (by decide) e2905)
                refine pm_R_iald pm_M185 (pc' := 48) (v := (m2730 14)) rfl e2918 (Nat.lt_of_lt_of_le (by decide) T2909.1) rfl rfl rfl ?_
                refine rf_R_ist pm_M185 T2909 (pc' := 49) rfl e2911 (by decide) (by decide) (sf_in B2917 (by decide) (by decide)) ⟨_, rfl⟩ rfl (fun h2921 T2922 F2923 e2924 => ?_)
                have F2925 := F2912.trans F2923 (by decide)
                have ct2926 : rf_ct 3 (upd (upd (upd f2 (Int32.toNatClampNeg z2889) 1) (Int32.toNatClampNeg z2902) (m2649 14)) (Int32.toNatClampNeg z2915) (m2730 14)) := (sf_eqL (Eq.trans (sf_upd_ne (j := Int32.toNatClampNeg 0) B2917 (by decide) (by decide)) (Eq.trans (sf_upd_ne (j := Int32.toNatClampNeg 0) B2904 (by decide) (by decide)) (Eq.trans (sf_upd_ne (j := Int32.toNatClampNeg 0) B2891 (by decide) (by decide)) rfl))) (sf_weak B2646 (by decide) (by decide)))
                have bd2927 : (m2866 17).toInt = 0 → rf_bd 3 (upd (upd (upd f2 (Int32.toNatClampNeg z2889) 1) (Int32.toNatClampNeg z2902) (m2649 14)) (Int32.toNatClampNeg z2915) (m2730 14)) := fun z => (sf_pos B2875 (by decide) z)
                refine pm_R_lo pm_M185 (pc' := 52) (ls' := [.ref 41, .int 0, .int 1, .int 3, .int 8, .int 0, .int (f2 0), .int 3]) (st' := []) rfl rfl rfl ?_
                refine pm_R_br pm_M185 (pc' := 19) rfl rfl ?_
                refine pm_R_lo pm_M185 (pc' := 21) rfl rfl rfl ?_
                refine pm_R_lo pm_M185 (pc' := 22) rfl rfl rfl ?_
                refine pm_R_br pm_M185 (pc' := 55) (st' := []) rfl rfl ?_
                refine pm_R_lo pm_M185 (pc' := 56) rfl rfl rfl ?_
                refine rf_R_get pm_M185 T2922 (pc' := 59) (v := .ref 51) rfl rfl rfl rfl ?_
                refine pm_R_lo pm_M185 (pc' := 60) rfl rfl rfl ?_
                refine pm_R_op pm_M185 (pc' := 61) (st' := [.int 0, .ref 51, .int 0, .ref 51]) rfl rfl rfl ?_
                refine pm_R_iald pm_M185 (pc' := 62) (v := (f2 0)) rfl e2924 (Nat.lt_of_lt_of_le (by decide) T2922.1) rfl (Eq.trans (sf_upd_ne (j := Int32.toNatClampNeg 0) B2917 (by decide) (by decide)) (Eq.trans (sf_upd_ne (j := Int32.toNatClampNeg 0) B2904 (by decide) (by decide)) (Eq.trans (sf_upd_ne (j := Int32.toNatClampNeg 0) B2891 (by decide) (by decide)) rfl))) rfl ?_
                refine pm_R_op pm_M185 (pc' := 63) (st' := [.int 1, .int (f2 0), .int 0, .ref 51]) rfl rfl rfl ?_
                refine sf_R_iadd pm_M185 (pc' := 64) rfl rfl B2646 sf_k1 (by decide) (by decide) (fun z2930 e2931 B2932 => ?_)
                refine rf_R_ist pm_M185 T2922 (pc' := 65) rfl e2924 (by decide) (by decide) rfl ⟨_, rfl⟩ rfl (fun h2933 T2934 F2935 e2936 => ?_)
                have F2937 := F2925.trans F2935 (by decide)
                have ct2938 : rf_ct 3 (upd (upd (upd (upd f2 (Int32.toNatClampNeg z2889) 1) (Int32.toNatClampNeg z2902) (m2649 14)) (Int32.toNatClampNeg z2915) (m2730 14)) (Int32.toNatClampNeg 0) z2930) := (sf_eqL rfl (sf_weak B2932 (by decide) (by decide)))
                have bd2939 : (m2866 17).toInt = 0 → rf_bd 3 (upd (upd (upd (upd f2 (Int32.toNatClampNeg z2889) 1) (Int32.toNatClampNeg z2902) (m2649 14)) (Int32.toNatClampNeg z2915) (m2730 14)) (Int32.toNatClampNeg 0) z2930) := fun z => (sf_pos B2875 (by decide) z)
                refine pm_R_ret pm_M185 (r := none) rfl rfl ?_
                show pm_R _ 192 173 [.ref 41, .long a0, pm_no, .int a1, .int 1] [] _ _
                refine pm_R_op pm_M192 (pc' := 174) (st' := [.int 1]) (pm_q192_1 (Nat.le_of_ble_eq_true rfl)) rfl rfl ?_
                have B2940 : sf_B 0 600 (m2866 10) := T2934.2.2.1 10
                exact pm_R_ret pm_M192 (r := some (.int 1)) (pm_q192_1 (Nat.le_of_ble_eq_true rfl)) rfl (K1 m2866 w2867 h2933 T2934 F2937 W2878 (⟨(upd (upd (upd (upd f2 (Int32.toNatClampNeg z2889) 1) (Int32.toNatClampNeg z2902) (m2649 14)) (Int32.toNatClampNeg z2915) (m2730 14)) (Int32.toNatClampNeg 0) z2930), e2936, ct2938, fun z => (sf_pos B2875 (by decide) z)⟩) (sf_aux109 _ _ _ _ _ X2655 X2736 X2872))
            · skip
              refine pm_R_lo pm_M183 (pc' := 9) rfl rfl rfl ?_
              refine pm_R_cv pm_M183 (pc' := 12) (a := 41) (ra := []) (rest := []) (ls' := [.ref 41]) rfl rfl (Or.inl rfl) pm_M184 T2733.2.1 rfl (by decide) (Nat.lt_of_lt_of_le (by decide) T2733.1) rfl rfl (Nat.le_of_ble_eq_true rfl) rfl rfl ?_
              refine pm_R_lo pm_M184 (pc' := 1) rfl rfl rfl ?_
              refine pm_R_lo pm_M184 (pc' := 2) rfl rfl rfl ?_
              have B2941 : sf_B 0 600 (m2730 12) := T2733.2.2.1 12
              refine rf_R_get pm_M184 T2733 (pc' := 5) (v := .int (m2730 12)) rfl rfl rfl rfl ?_
              refine rf_R_put pm_M184 T2733 (pc' := 8) rfl rfl rfl (by decide) rfl rfl B2941 rfl rfl (fun h2942 m2945 em2946 T2943 F2944 => ?_)
              have F2947 := F2738.trans F2944 (by decide)
              have B2948 : sf_B 1 4 (m2945 17) := by rw [em2946]; exact B2739
              have ek2949 : (m2945 17).toInt = ((m2703 17)).toInt := by rw [em2946]; exact ek2740
              have B2950 : sf_B 0 0 (m2945 22) := by rw [em2946]; exact B2741
              have B2951 : sf_B 0 600 (m2945 16) := by rw [em2946]; exact B2941
              have ek2952 : (m2945 16).toInt = ((m2730 12)).toInt := by rw [em2946]; rfl
              have W2953 : rf_W [10, 12, 13, 14, 16, 17, 18, 22] m m2945 := by rw [em2946]; exact W2742.put (by decide)
              refine pm_R_op pm_M184 (pc' := 9) (st' := [.int 0]) rfl rfl rfl ?_
              refine pm_R_ret pm_M184 (r := some (.int 0)) rfl rfl ?_
              show pm_R _ 183 12 [.ref 41, .int 2, .int 9, .int (-1)] [.int 0] _ _
              refine pm_R_ret pm_M183 (r := some (.int 0)) rfl rfl ?_
              show pm_R _ 192 158 [.ref 41, .long a0, pm_no, .int a1, .int 1] [.int 0] _ _
              refine pm_R_br pm_M192 (pc' := 161) (st' := []) (pm_q192_1 (Nat.le_of_ble_eq_true rfl)) rfl ?_
              refine pm_R_op pm_M192 (pc' := 162) (st' := [.int 0]) (pm_q192_1 (Nat.le_of_ble_eq_true rfl)) rfl rfl ?_
              have B2954 : sf_B 0 600 (m2945 10) := T2943.2.2.1 10
              exact pm_R_ret pm_M192 (r := some (.int 0)) (pm_q192_1 (Nat.le_of_ble_eq_true rfl)) rfl (K0 m2945 w2731 h2942 T2943 F2947 W2953 (sf_aux83 _ _ _ _ _ X2655 X2736))
          · have B2955 : sf_B 0 9 (m2649 14) := sf_leL (Int32.not_lt.mp c2698) B2692 sf_k9
            refine pm_R_lo pm_M183 (pc' := 32) rfl rfl rfl ?_
            refine rf_R_get pm_M183 T2694 (pc' := 35) (v := .int (m2649 14)) rfl rfl rfl rfl ?_
            refine pm_R_lo pm_M183 (pc' := 36) rfl rfl rfl ?_
            refine pm_R_icmp pm_M183 (t := 53) (pc' := 39) rfl rfl rfl (fun c2956 => ?_) (fun c2956 => absurd (Classical.not_not.mp c2956) (sf_neq1 B2955 sf_kn1 (by decide)))
            skip
            refine pm_R_lo pm_M183 (pc' := 54) rfl rfl rfl ?_
            refine pm_R_cv pm_M183 (pc' := 57) (a := 41) (ra := []) (rest := []) (ls' := [.ref 41, pm_no, pm_no]) rfl rfl (Or.inl rfl) pm_M179 T2694.2.1 rfl (by decide) (Nat.lt_of_lt_of_le (by decide) T2694.1) rfl rfl (Nat.le_of_ble_eq_true rfl) rfl rfl ?_
            have B2957 : sf_B 0 600 (m2649 10) := T2694.2.2.1 10
            refine rf_c179 (d := d + 0) T2694  (fun m2960 w2961 h2962 T2963 F2964 W2965 X2966 X2967 => ?_)
            have F2968 := F2697.trans F2964 (by decide)
            have B2969 : sf_B 0 4 (m2960 17) := by rw [W2965 17 (by decide)]; exact B2658
            have ek2970 : (m2960 17).toInt = ((m 17)).toInt := by rw [W2965 17 (by decide)]; exact ek2659
            have W2971 : rf_W [10, 12, 13, 14, 16, 17, 18, 22] m m2960 := W2660.trans W2965 (by decide)
            show pm_R _ 183 57 [.ref 41, .int 1, .int 9, .int (-1)] [] _ _
            refine pm_R_op pm_M183 (pc' := 58) (st' := [.int 1]) rfl rfl rfl ?_
            refine pm_R_ret pm_M183 (r := some (.int 1)) rfl rfl ?_
            show pm_R _ 192 127 [.ref 41, .long a0, pm_no, .int a1, .int 1] [.int 1] _ _
            refine pm_R_br pm_M192 (pc' := 132) (st' := []) (pm_q192_1 (Nat.le_of_ble_eq_true rfl)) rfl ?_
            refine pm_R_lo pm_M192 (pc' := 134) (pm_q192_1 (Nat.le_of_ble_eq_true rfl)) rfl rfl ?_
            refine pm_R_op pm_M192 (pc' := 135) (st' := [.int 1, .int 1]) (pm_q192_1 (Nat.le_of_ble_eq_true rfl)) rfl rfl ?_
            refine pm_R_br pm_M192 (pc' := 150) (st' := []) (pm_q192_1 (Nat.le_of_ble_eq_true rfl)) rfl ?_
            refine pm_R_lo pm_M192 (pc' := 151) (pm_q192_1 (Nat.le_of_ble_eq_true rfl)) rfl rfl ?_
            refine pm_R_op pm_M192 (pc' := 152) (st' := [.int 2, .ref 41]) (pm_q192_1 (Nat.le_of_ble_eq_true rfl)) rfl rfl ?_
            refine pm_R_op pm_M192 (pc' := 154) (st' := [.int 9, .int 2, .ref 41]) (pm_q192_1 (Nat.le_of_ble_eq_true rfl)) rfl rfl ?_
            refine pm_R_op pm_M192 (pc' := 155) (st' := [.int (-1), .int 9, .int 2, .ref 41]) (pm_q192_1 (Nat.le_of_ble_eq_true rfl)) rfl rfl ?_
            refine pm_R_cv pm_M192 (pc' := 158) (a := 41) (ra := [.int (-1), .int 9, .int 2]) (rest := []) (ls' := [.ref 41, .int 2, .int 9, .int (-1)]) (pm_q192_1 (Nat.le_of_ble_eq_true rfl)) rfl (Or.inl rfl) pm_M183 T2963.2.1 rfl (by decide) (Nat.lt_of_lt_of_le (by decide) T2963.1) rfl rfl (Nat.le_of_ble_eq_true rfl) rfl rfl ?_
            refine pm_R_lo pm_M183 (pc' := 1) rfl rfl rfl ?_
            have B2972 : sf_B 0 4 (m2960 13) := T2963.2.2.1 13
            refine rf_R_get pm_M183 T2963 (pc' := 4) (v := .int (m2960 13)) rfl rfl rfl rfl ?_
            refine pm_R_op pm_M183 (pc' := 5) (st' := [.int 3, .int (m2960 13)]) rfl rfl rfl ?_
            refine pm_R_icmp pm_M183 (t := 13) (pc' := 8) rfl rfl rfl (fun c2973 => ?_) (fun c2973 => ?_)
            · have B2974 : sf_B 3 3 (m2960 13) := sf_eqL c2973 sf_k3
              refine pm_R_lo pm_M183 (pc' := 14) rfl rfl rfl ?_
              refine rf_R_get pm_M183 T2963 (pc' := 17) (v := .ref 52) rfl rfl rfl rfl ?_
              refine pm_R_lo pm_M183 (pc' := 18) rfl rfl rfl ?_
              refine pm_R_lo pm_M183 (pc' := 19) rfl rfl rfl ?_
              have B2975 : sf_B 0 99 (m2960 14) := T2963.2.2.1 14
              refine rf_R_get pm_M183 T2963 (pc' := 22) (v := .int (m2960 14)) rfl rfl rfl rfl ?_
              have e2976 := (F2964.cell (by decide) e2696)
              refine rf_R_ist pm_M183 T2963 (pc' := 23) rfl e2976 (by decide) (by decide) rfl ⟨_, rfl, sf_upd (sf_upd (sf_upd (sf_upd (sf_upd (sf_upd (sf_upd b2663 (sf_weak sf_kn1 (by decide) (by decide)) _) (sf_weak sf_kn1 (by decide) (by decide)) _) (sf_weak sf_kn1 (by decide) (by decide)) _) (sf_weak sf_kn1 (by decide) (by decide)) _) (sf_weak sf_k1 (by decide) (by decide)) _) (sf_weak B2692 (by decide) (by decide)) _) (sf_weak B2975 (by decide) (by decide)) _⟩ rfl (fun h2977 T2978 F2979 e2980 => ?_)
              have F2981 := F2968.trans F2979 (by decide)
              refine pm_R_lo pm_M183 (pc' := 24) rfl rfl rfl ?_
              refine rf_R_get pm_M183 T2978 (pc' := 27) (v := .int (m2960 14)) rfl rfl rfl rfl ?_
              refine pm_R_lo pm_M183 (pc' := 28) rfl rfl rfl ?_
              refine pm_R_icmp pm_M183 (t := 39) (pc' := 31) rfl rfl rfl (fun c2982 => ?_) (fun c2982 => ?_)
              · have B2983 : sf_B 10 99 (m2960 14) := sf_ltR c2982 sf_k9 B2975
                refine pm_R_lo pm_M183 (pc' := 40) rfl rfl rfl ?_
                refine pm_R_op pm_M183 (pc' := 41) (st' := [.int 2, .ref 41]) rfl rfl rfl ?_
                refine pm_R_lo pm_M183 (pc' := 42) rfl rfl rfl ?_
                have B2984 : sf_B 0 600 (m2960 12) := T2978.2.2.1 12
                refine rf_R_get pm_M183 T2978 (pc' := 45) (v := .int (m2960 12)) rfl rfl rfl rfl ?_
                refine pm_R_cv pm_M183 (pc' := 48) (a := 41) (ra := [.int (m2960 12), .int 2]) (rest := []) (ls' := [.ref 41, .int 2, .int (m2960 12)]) rfl rfl (Or.inl rfl) pm_M182 T2978.2.1 rfl (by decide) (Nat.lt_of_lt_of_le (by decide) T2978.1) rfl rfl (Nat.le_of_ble_eq_true rfl) rfl rfl ?_
                refine rf_c182 (d := d + 1) T2978 (sf_weak sf_k2 (by decide) (by decide)) B2984 (fun m2987 w2988 h2989 T2990 F2991 W2992 B2993 => ?_)
                have F2994 := F2981.trans F2991 (by decide)
                have B2995 : sf_B 3 3 (m2987 13) := by rw [W2992 13 (by decide)]; exact B2974
                have B2996 : sf_B 10 99 (m2987 14) := by rw [W2992 14 (by decide)]; exact B2983
                have W2997 : rf_W [10, 12, 13, 14, 16, 17, 18, 22] m m2987 := W2971.trans W2992 (by decide)
                show pm_R _ 183 48 [.ref 41, .int 2, .int 9, .int (-1)] [] _ _
                refine pm_R_lo pm_M183 (pc' := 49) rfl rfl rfl ?_
                refine pm_R_op pm_M183 (pc' := 50) (st' := [.int 0, .ref 41]) rfl rfl rfl ?_
                refine rf_R_put pm_M183 T2990 (pc' := 53) rfl rfl rfl (by decide) rfl rfl (sf_weak sf_k0 (by decide) (by decide)) rfl rfl (fun h2998 m3001 em3002 T2999 F3000 => ?_)
                have F3003 := F2994.trans F3000 (by decide)
                have B3004 : sf_B 3 3 (m3001 13) := by rw [em3002]; exact B2995
                have B3005 : sf_B 10 99 (m3001 14) := by rw [em3002]; exact B2996
                have B3006 : sf_B 1 4 (m3001 17) := by rw [em3002]; exact B2993
                have ek3007 : (m3001 17).toInt = ((m2987 17)).toInt := by rw [em3002]; rfl
                have B3008 : sf_B 0 0 (m3001 22) := by rw [em3002]; exact sf_k0
                have W3010 : rf_W [10, 12, 13, 14, 16, 17, 18, 22] m m3001 := by rw [em3002]; exact W2997.put (by decide)
                refine pm_R_lo pm_M183 (pc' := 54) rfl rfl rfl ?_
                refine pm_R_cv pm_M183 (pc' := 57) (a := 41) (ra := []) (rest := []) (ls' := [.ref 41, pm_no, pm_no]) rfl rfl (Or.inl rfl) pm_M179 T2999.2.1 rfl (by decide) (Nat.lt_of_lt_of_le (by decide) T2999.1) rfl rfl (Nat.le_of_ble_eq_true rfl) rfl rfl ?_
                have B3011 : sf_B 0 600 (m3001 10) := T2999.2.2.1 10
                refine rf_c179 (d := d + 0) T2999  (fun m3014 w3015 h3016 T3017 F3018 W3019 X3020 X3021 => ?_)
                have F3022 := F3003.trans F3018 (by decide)
                have B3023 : sf_B 1 4 (m3014 17) := by rw [W3019 17 (by decide)]; exact B3006
                have ek3024 : (m3014 17).toInt = ((m2987 17)).toInt := by rw [W3019 17 (by decide)]; exact ek3007
                have B3025 : sf_B 0 0 (m3014 22) := by rw [W3019 22 (by decide)]; exact B3008
                have W3026 : rf_W [10, 12, 13, 14, 16, 17, 18, 22] m m3014 := W3010.trans W3019 (by decide)
                show pm_R _ 183 57 [.ref 41, .int 2, .int 9, .int (-1)] [] _ _
                refine pm_R_op pm_M183 (pc' := 58) (st' := [.int 1]) rfl rfl rfl ?_
                refine pm_R_ret pm_M183 (r := some (.int 1)) rfl rfl ?_
                show pm_R _ 192 158 [.ref 41, .long a0, pm_no, .int a1, .int 1] [.int 1] _ _
                refine pm_R_br pm_M192 (pc' := 163) (st' := []) (pm_q192_1 (Nat.le_of_ble_eq_true rfl)) rfl ?_
                refine pm_R_lo pm_M192 (pc' := 164) (pm_q192_1 (Nat.le_of_ble_eq_true rfl)) rfl rfl ?_
                refine pm_R_op pm_M192 (pc' := 165) (st' := [.int 0, .ref 41]) (pm_q192_1 (Nat.le_of_ble_eq_true rfl)) rfl rfl ?_
                refine pm_R_op pm_M192 (pc' := 166) (st' := [.int 1, .int 0, .ref 41]) (pm_q192_1 (Nat.le_of_ble_eq_true rfl)) rfl rfl ?_
                refine pm_R_op pm_M192 (pc' := 167) (st' := [.int 3, .int 1, .int 0, .ref 41]) (pm_q192_1 (Nat.le_of_ble_eq_true rfl)) rfl rfl ?_
                refine pm_R_op pm_M192 (pc' := 169) (st' := [.int 8, .int 3, .int 1, .int 0, .ref 41]) (pm_q192_1 (Nat.le_of_ble_eq_true rfl)) rfl rfl ?_
                refine pm_R_op pm_M192 (pc' := 170) (st' := [.int 0, .int 8, .int 3, .int 1, .int 0, .ref 41]) (pm_q192_1 (Nat.le_of_ble_eq_true rfl)) rfl rfl ?_
                refine pm_R_cv pm_M192 (pc' := 173) (a := 41) (ra := [.int 0, .int 8, .int 3, .int 1, .int 0]) (rest := []) (ls' := [.ref 41, .int 0, .int 1, .int 3, .int 8, .int 0, pm_no, pm_no]) (pm_q192_1 (Nat.le_of_ble_eq_true rfl)) rfl (Or.inl rfl) pm_M185 T3017.2.1 rfl (by decide) (Nat.lt_of_lt_of_le (by decide) T3017.1) rfl rfl (Nat.le_of_ble_eq_true rfl) rfl rfl ?_
                refine pm_R_lo pm_M185 (pc' := 1) rfl rfl rfl ?_
                refine rf_R_get pm_M185 T3017 (pc' := 4) (v := .ref 51) rfl rfl rfl rfl ?_
                refine pm_R_lo pm_M185 (pc' := 5) rfl rfl rfl ?_
                have e3027 := (F3018.cell (by decide) (F3000.cell (by decide) (F2991.cell (by decide) (F2979.cell (by decide) (F2964.cell (by decide) (F2695.cell (by decide) (F2686.cell (by decide) (F2681.cell (by decide) (F2676.cell (by decide) (F2671.cell (by decide) (F2666.cell (by decide) (F2653.cell (by decide) e3))))))))))))
                refine pm_R_iald pm_M185 (pc' := 6) (v := (f2 0)) rfl e3027 (Nat.lt_of_lt_of_le (by decide) T3017.1) rfl rfl rfl ?_
                refine pm_R_lo pm_M185 (pc' := 8) (ls' := [.ref 41, .int 0, .int 1, .int 3, .int 8, .int 0, .int (f2 0), pm_no]) (st' := []) rfl rfl rfl ?_
                refine pm_R_lo pm_M185 (pc' := 10) rfl rfl rfl ?_
                refine pm_R_lo pm_M185 (pc' := 12) rfl rfl rfl ?_
                refine pm_R_icmp pm_M185 (t := 16) (pc' := 15) rfl rfl rfl (fun c3030 => ?_) (fun c3030 => absurd (Classical.not_not.mp c3030) (sf_neq2 B2646 sf_k8 (by decide)))
                skip
                refine pm_R_op pm_M185 (pc' := 17) (st' := [.int 0]) rfl rfl rfl ?_
                refine pm_R_lo pm_M185 (pc' := 19) (ls' := [.ref 41, .int 0, .int 1, .int 3, .int 8, .int 0, .int (f2 0), .int 0]) (st' := []) rfl rfl rfl ?_
                refine pm_R_lo pm_M185 (pc' := 21) rfl rfl rfl ?_
                refine pm_R_lo pm_M185 (pc' := 22) rfl rfl rfl ?_
                refine pm_R_br pm_M185 (pc' := 25) (st' := []) rfl rfl ?_
                refine pm_R_lo pm_M185 (pc' := 26) rfl rfl rfl ?_
                refine rf_R_get pm_M185 T3017 (pc' := 29) (v := .ref 51) rfl rfl rfl rfl ?_
                refine pm_R_lo pm_M185 (pc' := 30) rfl rfl rfl ?_
                refine pm_R_lo pm_M185 (pc' := 31) rfl rfl rfl ?_
                refine pm_R_lo pm_M185 (pc' := 33) rfl rfl rfl ?_
                refine sf_R_imul pm_M185 (pc' := 34) rfl rfl sf_k3 B2646 (by decide) (by decide) (by decide) (fun z3031 e3032 B3033 => ?_)
                refine sf_R_iadd pm_M185 (pc' := 35) rfl rfl sf_k1 B3033 (by decide) (by decide) (fun z3034 e3035 B3036 => ?_)
                refine pm_R_lo pm_M185 (pc' := 37) rfl rfl rfl ?_
                refine sf_R_iadd pm_M185 (pc' := 38) rfl rfl B3036 sf_k0 (by decide) (by decide) (fun z3037 e3038 B3039 => ?_)
                refine pm_R_lo pm_M185 (pc' := 39) rfl rfl rfl ?_
                refine rf_R_get pm_M185 T3017 (pc' := 42) (v := .ref 52) rfl rfl rfl rfl ?_
                refine pm_R_lo pm_M185 (pc' := 44) rfl rfl rfl ?_
                refine pm_R_lo pm_M185 (pc' := 46) rfl rfl rfl ?_
                refine pm_R_op pm_M185 (pc' := 47) (st' := [.int 0, .ref 52, .int z3037, .ref 51]) rfl rfl rfl ?_
                have e3040 := (F3018.cell (by decide) (F3000.cell (by decide) (F2991.cell (by decide) e2980)))
                refine pm_R_iald pm_M185 (pc' := 48) (v := 1) rfl e3040 (Nat.lt_of_lt_of_le (by decide) T3017.1) rfl (Eq.trans (show (upd (upd (upd (upd (upd (upd (upd f2661 (Int32.toNatClampNeg 0) (-1)) (Int32.toNatClampNeg 1) (-1)) (Int32.toNatClampNeg 2) (-1)) (Int32.toNatClampNeg 3) (-1)) (Int32.toNatClampNeg 0) 1) (Int32.toNatClampNeg 1) (m2649 14)) (Int32.toNatClampNeg 2) (m2960 14)) (Int32.toNatClampNeg 0) = (upd (upd (upd (upd (upd (upd f2661 (Int32.toNatClampNeg 0) (-1)) (Int32.toNatClampNeg 1) (-1)) (Int32.toNatClampNeg 2) (-1)) (Int32.toNatClampNeg 3) (-1)) (Int32.toNatClampNeg 0) 1) (Int32.toNatClampNeg 1) (m2649 14)) (Int32.toNatClampNeg 0) from rfl) (Eq.trans (show (upd (upd (upd (upd (upd (upd f2661 (Int32.toNatClampNeg 0) (-1)) (Int32.toNatClampNeg 1) (-1)) (Int32.toNatClampNeg 2) (-1)) (Int32.toNatClampNeg 3) (-1)) (Int32.toNatClampNeg 0) 1) (Int32.toNatClampNeg 1) (m2649 14)) (Int32.toNatClampNeg 0) = (upd (upd (upd (upd (upd f2661 (Int32.toNatClampNeg 0) (-1)) (Int32.toNatClampNeg 1) (-1)) (Int32.toNatClampNeg 2) (-1)) (Int32.toNatClampNeg 3) (-1)) (Int32.toNatClampNeg 0) 1) (Int32.toNatClampNeg 0) from rfl) rfl)) rfl ?_
                refine rf_R_ist pm_M185 T3017 (pc' := 49) rfl e3027 (by decide) (by decide) (sf_in B3039 (by decide) (by decide)) ⟨_, rfl⟩ rfl (fun h3043 T3044 F3045 e3046 => ?_)
                have F3047 := F3022.trans F3045 (by decide)
                have ct3048 : rf_ct 3 (upd f2 (Int32.toNatClampNeg z3037) 1) := (sf_eqL (Eq.trans (sf_upd_ne (j := Int32.toNatClampNeg 0) B3039 (by decide) (by decide)) rfl) (sf_weak B2646 (by decide) (by decide)))
                have bd3049 : (m3014 17).toInt = 0 → rf_bd 3 (upd f2 (Int32.toNatClampNeg z3037) 1) := fun z => (sf_pos B3023 (by decide) z)
                refine pm_R_lo pm_M185 (pc' := 52) (ls' := [.ref 41, .int 0, .int 1, .int 3, .int 8, .int 0, .int (f2 0), .int 1]) (st' := []) rfl rfl rfl ?_
                refine pm_R_br pm_M185 (pc' := 19) rfl rfl ?_
                refine pm_R_lo pm_M185 (pc' := 21) rfl rfl rfl ?_
                refine pm_R_lo pm_M185 (pc' := 22) rfl rfl rfl ?_
                refine pm_R_br pm_M185 (pc' := 25) (st' := []) rfl rfl ?_
                refine pm_R_lo pm_M185 (pc' := 26) rfl rfl rfl ?_
                refine rf_R_get pm_M185 T3044 (pc' := 29) (v := .ref 51) rfl rfl rfl rfl ?_
                refine pm_R_lo pm_M185 (pc' := 30) rfl rfl rfl ?_
                refine pm_R_lo pm_M185 (pc' := 31) rfl rfl rfl ?_
                refine pm_R_lo pm_M185 (pc' := 33) rfl rfl rfl ?_
                refine sf_R_imulV pm_M185 (pc' := 34) rfl rfl sf_k3 B2646 (by decide) (by decide) (by decide) e3032 ?_
                refine sf_R_iaddV pm_M185 (pc' := 35) rfl rfl sf_k1 B3033 (by decide) (by decide) e3035 ?_
                refine pm_R_lo pm_M185 (pc' := 37) rfl rfl rfl ?_
                refine sf_R_iadd pm_M185 (pc' := 38) rfl rfl B3036 sf_k1 (by decide) (by decide) (fun z3050 e3051 B3052 => ?_)
                refine pm_R_lo pm_M185 (pc' := 39) rfl rfl rfl ?_
                refine rf_R_get pm_M185 T3044 (pc' := 42) (v := .ref 52) rfl rfl rfl rfl ?_
                refine pm_R_lo pm_M185 (pc' := 44) rfl rfl rfl ?_
                refine pm_R_lo pm_M185 (pc' := 46) rfl rfl rfl ?_
                refine pm_R_op pm_M185 (pc' := 47) (st' := [.int 1, .ref 52, .int z3050, .ref 51]) rfl rfl rfl ?_
                have e3053 := (F3045.cell (by decide) e3040)
                refine pm_R_iald pm_M185 (pc' := 48) (v := (m2649 14)) rfl e3053 (Nat.lt_of_lt_of_le (by decide) T3044.1) rfl (Eq.trans (show (upd (upd (upd (upd (upd (upd (upd f2661 (Int32.toNatClampNeg 0) (-1)) (Int32.toNatClampNeg 1) (-1)) (Int32.toNatClampNeg 2) (-1)) (Int32.toNatClampNeg 3) (-1)) (Int32.toNatClampNeg 0) 1) (Int32.toNatClampNeg 1) (m2649 14)) (Int32.toNatClampNeg 2) (m2960 14)) (Int32.toNatClampNeg 1) = (upd (upd (upd (upd (upd (upd f2661 (Int32.toNatClampNeg 0) (-1)) (Int32.toNatClampNeg 1) (-1)) (Int32.toNatClampNeg 2) (-1)) (Int32.toNatClampNeg 3) (-1)) (Int32.toNatClampNeg 0) 1) (Int32.toNatClampNeg 1) (m2649 14)) (Int32.toNatClampNeg 1) from rfl) rfl) rfl ?_
                refine rf_R_ist pm_M185 T3044 (pc' := 49) rfl e3046 (by decide) (by decide) (sf_in B3052 (by decide) (by decide)) ⟨_, rfl⟩ rfl (fun h3056 T3057 F3058 e3059 => ?_)
                have F3060 := F3047.trans F3058 (by decide)
                have ct3061 : rf_ct 3 (upd (upd f2 (Int32.toNatClampNeg z3037) 1) (Int32.toNatClampNeg z3050) (m2649 14)) := (sf_eqL (Eq.trans (sf_upd_ne (j := Int32.toNatClampNeg 0) B3052 (by decide) (by decide)) (Eq.trans (sf_upd_ne (j := Int32.toNatClampNeg 0) B3039 (by decide) (by decide)) rfl)) (sf_weak B2646 (by decide) (by decide)))
                have bd3062 : (m3014 17).toInt = 0 → rf_bd 3 (upd (upd f2 (Int32.toNatClampNeg z3037) 1) (Int32.toNatClampNeg z3050) (m2649 14)) := fun z => (sf_pos B3023 (by decide) z)
                refine pm_R_lo pm_M185 (pc' := 52) (ls' := [.ref 41, .int 0, .int 1, .int 3, .int 8, .int 0, .int (f2 0), .int 2]) (st' := []) rfl rfl rfl ?_
                refine pm_R_br pm_M185 (pc' := 19) rfl rfl ?_
                refine pm_R_lo pm_M185 (pc' := 21) rfl rfl rfl ?_
                refine pm_R_lo pm_M185 (pc' := 22) rfl rfl rfl ?_
                refine pm_R_br pm_M185 (pc' := 25) (st' := []) rfl rfl ?_
                refine pm_R_lo pm_M185 (pc' := 26) rfl rfl rfl ?_
                refine rf_R_get pm_M185 T3057 (pc' := 29) (v := .ref 51) rfl rfl rfl rfl ?_
                refine pm_R_lo pm_M185 (pc' := 30) rfl rfl rfl ?_
                refine pm_R_lo pm_M185 (pc' := 31) rfl rfl rfl ?_
                refine pm_R_lo pm_M185 (pc' := 33) rfl rfl rfl ?_
                refine sf_R_imulV pm_M185 (pc' := 34) rfl rfl sf_k3 B2646 (by decide) (by decide) (by decide) e3032 ?_
                refine sf_R_iaddV pm_M185 (pc' := 35) rfl rfl sf_k1 B3033 (by decide) (by decide) e3035 ?_
                refine pm_R_lo pm_M185 (pc' := 37) rfl rfl rfl ?_
                refine sf_R_iadd pm_M185 (pc' := 38) rfl rfl B3036 sf_k2 (by decide) (by decide) (fun z3063 e3064 B3065 => ?_)
                refine pm_R_lo pm_M185 (pc' := 39) rfl rfl rfl ?_
                refine rf_R_get pm_M185 T3057 (pc' := 42) (v := .ref 52) rfl rfl rfl rfl ?_
                refine pm_R_lo pm_M185 (pc' := 44) rfl rfl rfl ?_
                refine pm_R_lo pm_M185 (pc' := 46) rfl rfl rfl ?_
                refine pm_R_op pm_M185 (pc' := 47) (st' := [.int 2, .ref 52, .int z3063, .ref 51]) rfl rfl rfl ?_
                have e3066 := (F3058.cell (by decide) e3053)
                refine pm_R_iald pm_M185 (pc' := 48) (v := (m2960 14)) rfl e3066 (Nat.lt_of_lt_of_le (by decide) T3057.1) rfl rfl rfl ?_
                refine rf_R_ist pm_M185 T3057 (pc' := 49) rfl e3059 (by decide) (by decide) (sf_in B3065 (by decide) (by decide)) ⟨_, rfl⟩ rfl (fun h3069 T3070 F3071 e3072 => ?_)
                have F3073 := F3060.trans F3071 (by decide)
                have ct3074 : rf_ct 3 (upd (upd (upd f2 (Int32.toNatClampNeg z3037) 1) (Int32.toNatClampNeg z3050) (m2649 14)) (Int32.toNatClampNeg z3063) (m2960 14)) := (sf_eqL (Eq.trans (sf_upd_ne (j := Int32.toNatClampNeg 0) B3065 (by decide) (by decide)) (Eq.trans (sf_upd_ne (j := Int32.toNatClampNeg 0) B3052 (by decide) (by decide)) (Eq.trans (sf_upd_ne (j := Int32.toNatClampNeg 0) B3039 (by decide) (by decide)) rfl))) (sf_weak B2646 (by decide) (by decide)))
                have bd3075 : (m3014 17).toInt = 0 → rf_bd 3 (upd (upd (upd f2 (Int32.toNatClampNeg z3037) 1) (Int32.toNatClampNeg z3050) (m2649 14)) (Int32.toNatClampNeg z3063) (m2960 14)) := fun z => (sf_pos B3023 (by decide) z)
                refine pm_R_lo pm_M185 (pc' := 52) (ls' := [.ref 41, .int 0, .int 1, .int 3, .int 8, .int 0, .int (f2 0), .int 3]) (st' := []) rfl rfl rfl ?_
                refine pm_R_br pm_M185 (pc' := 19) rfl rfl ?_
                refine pm_R_lo pm_M185 (pc' := 21) rfl rfl rfl ?_
                refine pm_R_lo pm_M185 (pc' := 22) rfl rfl rfl ?_
                refine pm_R_br pm_M185 (pc' := 55) (st' := []) rfl rfl ?_
                refine pm_R_lo pm_M185 (pc' := 56) rfl rfl rfl ?_
                refine rf_R_get pm_M185 T3070 (pc' := 59) (v := .ref 51) rfl rfl rfl rfl ?_
                refine pm_R_lo pm_M185 (pc' := 60) rfl rfl rfl ?_
                refine pm_R_op pm_M185 (pc' := 61) (st' := [.int 0, .ref 51, .int 0, .ref 51]) rfl rfl rfl ?_
                refine pm_R_iald pm_M185 (pc' := 62) (v := (f2 0)) rfl e3072 (Nat.lt_of_lt_of_le (by decide) T3070.1) rfl (Eq.trans (sf_upd_ne (j := Int32.toNatClampNeg 0) B3065 (by decide) (by decide)) (Eq.trans (sf_upd_ne (j := Int32.toNatClampNeg 0) B3052 (by decide) (by decide)) (Eq.trans (sf_upd_ne (j := Int32.toNatClampNeg 0) B3039 (by decide) (by decide)) rfl))) rfl ?_
                refine pm_R_op pm_M185 (pc' := 63) (st' := [.int 1, .int (f2 0), .int 0, .ref 51]) rfl rfl rfl ?_
                refine sf_R_iadd pm_M185 (pc' := 64) rfl rfl B2646 sf_k1 (by decide) (by decide) (fun z3078 e3079 B3080 => ?_)
                refine rf_R_ist pm_M185 T3070 (pc' := 65) rfl e3072 (by decide) (by decide) rfl ⟨_, rfl⟩ rfl (fun h3081 T3082 F3083 e3084 => ?_)
                have F3085 := F3073.trans F3083 (by decide)
                have ct3086 : rf_ct 3 (upd (upd (upd (upd f2 (Int32.toNatClampNeg z3037) 1) (Int32.toNatClampNeg z3050) (m2649 14)) (Int32.toNatClampNeg z3063) (m2960 14)) (Int32.toNatClampNeg 0) z3078) := (sf_eqL rfl (sf_weak B3080 (by decide) (by decide)))
                have bd3087 : (m3014 17).toInt = 0 → rf_bd 3 (upd (upd (upd (upd f2 (Int32.toNatClampNeg z3037) 1) (Int32.toNatClampNeg z3050) (m2649 14)) (Int32.toNatClampNeg z3063) (m2960 14)) (Int32.toNatClampNeg 0) z3078) := fun z => (sf_pos B3023 (by decide) z)
                refine pm_R_ret pm_M185 (r := none) rfl rfl ?_
                show pm_R _ 192 173 [.ref 41, .long a0, pm_no, .int a1, .int 1] [] _ _
                refine pm_R_op pm_M192 (pc' := 174) (st' := [.int 1]) (pm_q192_1 (Nat.le_of_ble_eq_true rfl)) rfl rfl ?_
                have B3088 : sf_B 0 600 (m3014 10) := T3082.2.2.1 10
                exact pm_R_ret pm_M192 (r := some (.int 1)) (pm_q192_1 (Nat.le_of_ble_eq_true rfl)) rfl (K1 m3014 w3015 h3081 T3082 F3085 W3026 (⟨(upd (upd (upd (upd f2 (Int32.toNatClampNeg z3037) 1) (Int32.toNatClampNeg z3050) (m2649 14)) (Int32.toNatClampNeg z3063) (m2960 14)) (Int32.toNatClampNeg 0) z3078), e3084, ct3086, fun z => (sf_pos B3023 (by decide) z)⟩) (sf_aux110 _ _ _ _ _ X2655 X2966 X3020))
              · have B3089 : sf_B 0 9 (m2960 14) := sf_leL (Int32.not_lt.mp c2982) B2975 sf_k9
                refine pm_R_lo pm_M183 (pc' := 32) rfl rfl rfl ?_
                refine rf_R_get pm_M183 T2978 (pc' := 35) (v := .int (m2960 14)) rfl rfl rfl rfl ?_
                refine pm_R_lo pm_M183 (pc' := 36) rfl rfl rfl ?_
                refine pm_R_icmp pm_M183 (t := 53) (pc' := 39) rfl rfl rfl (fun c3090 => ?_) (fun c3090 => absurd (Classical.not_not.mp c3090) (sf_neq1 B3089 sf_kn1 (by decide)))
                skip
                refine pm_R_lo pm_M183 (pc' := 54) rfl rfl rfl ?_
                refine pm_R_cv pm_M183 (pc' := 57) (a := 41) (ra := []) (rest := []) (ls' := [.ref 41, pm_no, pm_no]) rfl rfl (Or.inl rfl) pm_M179 T2978.2.1 rfl (by decide) (Nat.lt_of_lt_of_le (by decide) T2978.1) rfl rfl (Nat.le_of_ble_eq_true rfl) rfl rfl ?_
                have B3091 : sf_B 0 600 (m2960 10) := T2978.2.2.1 10
                refine rf_c179 (d := d + 0) T2978  (fun m3094 w3095 h3096 T3097 F3098 W3099 X3100 X3101 => ?_)
                have F3102 := F2981.trans F3098 (by decide)
                have B3103 : sf_B 0 4 (m3094 17) := by rw [W3099 17 (by decide)]; exact B2969
                have ek3104 : (m3094 17).toInt = ((m 17)).toInt := by rw [W3099 17 (by decide)]; exact ek2970
                have W3105 : rf_W [10, 12, 13, 14, 16, 17, 18, 22] m m3094 := W2971.trans W3099 (by decide)
                show pm_R _ 183 57 [.ref 41, .int 2, .int 9, .int (-1)] [] _ _
                refine pm_R_op pm_M183 (pc' := 58) (st' := [.int 1]) rfl rfl rfl ?_
                refine pm_R_ret pm_M183 (r := some (.int 1)) rfl rfl ?_
                show pm_R _ 192 158 [.ref 41, .long a0, pm_no, .int a1, .int 1] [.int 1] _ _
                refine pm_R_br pm_M192 (pc' := 163) (st' := []) (pm_q192_1 (Nat.le_of_ble_eq_true rfl)) rfl ?_
                refine pm_R_lo pm_M192 (pc' := 164) (pm_q192_1 (Nat.le_of_ble_eq_true rfl)) rfl rfl ?_
                refine pm_R_op pm_M192 (pc' := 165) (st' := [.int 0, .ref 41]) (pm_q192_1 (Nat.le_of_ble_eq_true rfl)) rfl rfl ?_
                refine pm_R_op pm_M192 (pc' := 166) (st' := [.int 1, .int 0, .ref 41]) (pm_q192_1 (Nat.le_of_ble_eq_true rfl)) rfl rfl ?_
                refine pm_R_op pm_M192 (pc' := 167) (st' := [.int 3, .int 1, .int 0, .ref 41]) (pm_q192_1 (Nat.le_of_ble_eq_true rfl)) rfl rfl ?_
                refine pm_R_op pm_M192 (pc' := 169) (st' := [.int 8, .int 3, .int 1, .int 0, .ref 41]) (pm_q192_1 (Nat.le_of_ble_eq_true rfl)) rfl rfl ?_
                refine pm_R_op pm_M192 (pc' := 170) (st' := [.int 0, .int 8, .int 3, .int 1, .int 0, .ref 41]) (pm_q192_1 (Nat.le_of_ble_eq_true rfl)) rfl rfl ?_
                refine pm_R_cv pm_M192 (pc' := 173) (a := 41) (ra := [.int 0, .int 8, .int 3, .int 1, .int 0]) (rest := []) (ls' := [.ref 41, .int 0, .int 1, .int 3, .int 8, .int 0, pm_no, pm_no]) (pm_q192_1 (Nat.le_of_ble_eq_true rfl)) rfl (Or.inl rfl) pm_M185 T3097.2.1 rfl (by decide) (Nat.lt_of_lt_of_le (by decide) T3097.1) rfl rfl (Nat.le_of_ble_eq_true rfl) rfl rfl ?_
                refine pm_R_lo pm_M185 (pc' := 1) rfl rfl rfl ?_
                refine rf_R_get pm_M185 T3097 (pc' := 4) (v := .ref 51) rfl rfl rfl rfl ?_
                refine pm_R_lo pm_M185 (pc' := 5) rfl rfl rfl ?_
                have e3106 := (F3098.cell (by decide) (F2979.cell (by decide) (F2964.cell (by decide) (F2695.cell (by decide) (F2686.cell (by decide) (F2681.cell (by decide) (F2676.cell (by decide) (F2671.cell (by decide) (F2666.cell (by decide) (F2653.cell (by decide) e3))))))))))
                refine pm_R_iald pm_M185 (pc' := 6) (v := (f2 0)) rfl e3106 (Nat.lt_of_lt_of_le (by decide) T3097.1) rfl rfl rfl ?_
                refine pm_R_lo pm_M185 (pc' := 8) (ls' := [.ref 41, .int 0, .int 1, .int 3, .int 8, .int 0, .int (f2 0), pm_no]) (st' := []) rfl rfl rfl ?_
                refine pm_R_lo pm_M185 (pc' := 10) rfl rfl rfl ?_
                refine pm_R_lo pm_M185 (pc' := 12) rfl rfl rfl ?_
                refine pm_R_icmp pm_M185 (t := 16) (pc' := 15) rfl rfl rfl (fun c3109 => ?_) (fun c3109 => absurd (Classical.not_not.mp c3109) (sf_neq2 B2646 sf_k8 (by decide)))
                skip
                refine pm_R_op pm_M185 (pc' := 17) (st' := [.int 0]) rfl rfl rfl ?_
                refine pm_R_lo pm_M185 (pc' := 19) (ls' := [.ref 41, .int 0, .int 1, .int 3, .int 8, .int 0, .int (f2 0), .int 0]) (st' := []) rfl rfl rfl ?_
                refine pm_R_lo pm_M185 (pc' := 21) rfl rfl rfl ?_
                refine pm_R_lo pm_M185 (pc' := 22) rfl rfl rfl ?_
                refine pm_R_br pm_M185 (pc' := 25) (st' := []) rfl rfl ?_
                refine pm_R_lo pm_M185 (pc' := 26) rfl rfl rfl ?_
                refine rf_R_get pm_M185 T3097 (pc' := 29) (v := .ref 51) rfl rfl rfl rfl ?_
                refine pm_R_lo pm_M185 (pc' := 30) rfl rfl rfl ?_
                refine pm_R_lo pm_M185 (pc' := 31) rfl rfl rfl ?_
                refine pm_R_lo pm_M185 (pc' := 33) rfl rfl rfl ?_
                refine sf_R_imul pm_M185 (pc' := 34) rfl rfl sf_k3 B2646 (by decide) (by decide) (by decide) (fun z3110 e3111 B3112 => ?_)
                refine sf_R_iadd pm_M185 (pc' := 35) rfl rfl sf_k1 B3112 (by decide) (by decide) (fun z3113 e3114 B3115 => ?_)
                refine pm_R_lo pm_M185 (pc' := 37) rfl rfl rfl ?_
                refine sf_R_iadd pm_M185 (pc' := 38) rfl rfl B3115 sf_k0 (by decide) (by decide) (fun z3116 e3117 B3118 => ?_)
                refine pm_R_lo pm_M185 (pc' := 39) rfl rfl rfl ?_
                refine rf_R_get pm_M185 T3097 (pc' := 42) (v := .ref 52) rfl rfl rfl rfl ?_
                refine pm_R_lo pm_M185 (pc' := 44) rfl rfl rfl ?_
                refine pm_R_lo pm_M185 (pc' := 46) rfl rfl rfl ?_
                refine pm_R_op pm_M185 (pc' := 47) (st' := [.int 0, .ref 52, .int z3116, .ref 51]) rfl rfl rfl ?_
                have e3119 := (F3098.cell (by decide) e2980)
                refine pm_R_iald pm_M185 (pc' := 48) (v := 1) rfl e3119 (Nat.lt_of_lt_of_le (by decide) T3097.1) rfl (Eq.trans (show (upd (upd (upd (upd (upd (upd (upd f2661 (Int32.toNatClampNeg 0) (-1)) (Int32.toNatClampNeg 1) (-1)) (Int32.toNatClampNeg 2) (-1)) (Int32.toNatClampNeg 3) (-1)) (Int32.toNatClampNeg 0) 1) (Int32.toNatClampNeg 1) (m2649 14)) (Int32.toNatClampNeg 2) (m2960 14)) (Int32.toNatClampNeg 0) = (upd (upd (upd (upd (upd (upd f2661 (Int32.toNatClampNeg 0) (-1)) (Int32.toNatClampNeg 1) (-1)) (Int32.toNatClampNeg 2) (-1)) (Int32.toNatClampNeg 3) (-1)) (Int32.toNatClampNeg 0) 1) (Int32.toNatClampNeg 1) (m2649 14)) (Int32.toNatClampNeg 0) from rfl) (Eq.trans (show (upd (upd (upd (upd (upd (upd f2661 (Int32.toNatClampNeg 0) (-1)) (Int32.toNatClampNeg 1) (-1)) (Int32.toNatClampNeg 2) (-1)) (Int32.toNatClampNeg 3) (-1)) (Int32.toNatClampNeg 0) 1) (Int32.toNatClampNeg 1) (m2649 14)) (Int32.toNatClampNeg 0) = (upd (upd (upd (upd (upd f2661 (Int32.toNatClampNeg 0) (-1)) (Int32.toNatClampNeg 1) (-1)) (Int32.toNatClampNeg 2) (-1)) (Int32.toNatClampNeg 3) (-1)) (Int32.toNatClampNeg 0) 1) (Int32.toNatClampNeg 0) from rfl) rfl)) rfl ?_
                refine rf_R_ist pm_M185 T3097 (pc' := 49) rfl e3106 (by decide) (by decide) (sf_in B3118 (by decide) (by decide)) ⟨_, rfl⟩ rfl (fun h3122 T3123 F3124 e3125 => ?_)
                have F3126 := F3102.trans F3124 (by decide)
                have w3127 := rf_w3s (sf_aux119 _ _ _ _ e3111 e3114 e3117) B2646
                have ct3128 : rf_ct 3 (upd f2 (Int32.toNatClampNeg z3116) 1) := (sf_eqL (Eq.trans (sf_upd_ne (j := Int32.toNatClampNeg 0) B3118 (by decide) (by decide)) rfl) (sf_weak B2646 (by decide) (by decide)))
                have bd3129 : (m3094 17).toInt = 0 → rf_bd 3 (upd f2 (Int32.toNatClampNeg z3116) 1) := fun z => ((bd5 (sf_aux53 _ _ ek3104 z)).set (k := z3116) (sf_weak sf_k1 (by decide) (by decide)) w3127.1 w3127.2)
                refine pm_R_lo pm_M185 (pc' := 52) (ls' := [.ref 41, .int 0, .int 1, .int 3, .int 8, .int 0, .int (f2 0), .int 1]) (st' := []) rfl rfl rfl ?_
                refine pm_R_br pm_M185 (pc' := 19) rfl rfl ?_
                refine pm_R_lo pm_M185 (pc' := 21) rfl rfl rfl ?_
                refine pm_R_lo pm_M185 (pc' := 22) rfl rfl rfl ?_
                refine pm_R_br pm_M185 (pc' := 25) (st' := []) rfl rfl ?_
                refine pm_R_lo pm_M185 (pc' := 26) rfl rfl rfl ?_
                refine rf_R_get pm_M185 T3123 (pc' := 29) (v := .ref 51) rfl rfl rfl rfl ?_
                refine pm_R_lo pm_M185 (pc' := 30) rfl rfl rfl ?_
                refine pm_R_lo pm_M185 (pc' := 31) rfl rfl rfl ?_
                refine pm_R_lo pm_M185 (pc' := 33) rfl rfl rfl ?_
                refine sf_R_imulV pm_M185 (pc' := 34) rfl rfl sf_k3 B2646 (by decide) (by decide) (by decide) e3111 ?_
                refine sf_R_iaddV pm_M185 (pc' := 35) rfl rfl sf_k1 B3112 (by decide) (by decide) e3114 ?_
                refine pm_R_lo pm_M185 (pc' := 37) rfl rfl rfl ?_
                refine sf_R_iadd pm_M185 (pc' := 38) rfl rfl B3115 sf_k1 (by decide) (by decide) (fun z3130 e3131 B3132 => ?_)
                refine pm_R_lo pm_M185 (pc' := 39) rfl rfl rfl ?_
                refine rf_R_get pm_M185 T3123 (pc' := 42) (v := .ref 52) rfl rfl rfl rfl ?_
                refine pm_R_lo pm_M185 (pc' := 44) rfl rfl rfl ?_
                refine pm_R_lo pm_M185 (pc' := 46) rfl rfl rfl ?_
                refine pm_R_op pm_M185 (pc' := 47) (st' := [.int 1, .ref 52, .int z3130, .ref 51]) rfl rfl rfl ?_
                have e3133 := (F3124.cell (by decide) e3119)
                refine pm_R_iald pm_M185 (pc' := 48) (v := (m2649 14)) rfl e3133 (Nat.lt_of_lt_of_le (by decide) T3123.1) rfl (Eq.trans (show (upd (upd (upd (upd (upd (upd (upd f2661 (Int32.toNatClampNeg 0) (-1)) (Int32.toNatClampNeg 1) (-1)) (Int32.toNatClampNeg 2) (-1)) (Int32.toNatClampNeg 3) (-1)) (Int32.toNatClampNeg 0) 1) (Int32.toNatClampNeg 1) (m2649 14)) (Int32.toNatClampNeg 2) (m2960 14)) (Int32.toNatClampNeg 1) = (upd (upd (upd (upd (upd (upd f2661 (Int32.toNatClampNeg 0) (-1)) (Int32.toNatClampNeg 1) (-1)) (Int32.toNatClampNeg 2) (-1)) (Int32.toNatClampNeg 3) (-1)) (Int32.toNatClampNeg 0) 1) (Int32.toNatClampNeg 1) (m2649 14)) (Int32.toNatClampNeg 1) from rfl) rfl) rfl ?_
                refine rf_R_ist pm_M185 T3123 (pc' := 49) rfl e3125 (by decide) (by decide) (sf_in B3132 (by decide) (by decide)) ⟨_, rfl⟩ rfl (fun h3136 T3137 F3138 e3139 => ?_)
                have F3140 := F3126.trans F3138 (by decide)
                have w3141 := rf_w3f (sf_aux120 _ _ _ _ e3111 e3114 e3131) B2646
                have ct3142 : rf_ct 3 (upd (upd f2 (Int32.toNatClampNeg z3116) 1) (Int32.toNatClampNeg z3130) (m2649 14)) := (sf_eqL (Eq.trans (sf_upd_ne (j := Int32.toNatClampNeg 0) B3132 (by decide) (by decide)) (Eq.trans (sf_upd_ne (j := Int32.toNatClampNeg 0) B3118 (by decide) (by decide)) rfl)) (sf_weak B2646 (by decide) (by decide)))
                have bd3143 : (m3094 17).toInt = 0 → rf_bd 3 (upd (upd f2 (Int32.toNatClampNeg z3116) 1) (Int32.toNatClampNeg z3130) (m2649 14)) := fun z => ((bd3129 z).set (k := z3130) B2955 w3141.1 w3141.2)
                refine pm_R_lo pm_M185 (pc' := 52) (ls' := [.ref 41, .int 0, .int 1, .int 3, .int 8, .int 0, .int (f2 0), .int 2]) (st' := []) rfl rfl rfl ?_
                refine pm_R_br pm_M185 (pc' := 19) rfl rfl ?_
                refine pm_R_lo pm_M185 (pc' := 21) rfl rfl rfl ?_
                refine pm_R_lo pm_M185 (pc' := 22) rfl rfl rfl ?_
                refine pm_R_br pm_M185 (pc' := 25) (st' := []) rfl rfl ?_
                refine pm_R_lo pm_M185 (pc' := 26) rfl rfl rfl ?_
                refine rf_R_get pm_M185 T3137 (pc' := 29) (v := .ref 51) rfl rfl rfl rfl ?_
                refine pm_R_lo pm_M185 (pc' := 30) rfl rfl rfl ?_
                refine pm_R_lo pm_M185 (pc' := 31) rfl rfl rfl ?_
                refine pm_R_lo pm_M185 (pc' := 33) rfl rfl rfl ?_
                refine sf_R_imulV pm_M185 (pc' := 34) rfl rfl sf_k3 B2646 (by decide) (by decide) (by decide) e3111 ?_
                refine sf_R_iaddV pm_M185 (pc' := 35) rfl rfl sf_k1 B3112 (by decide) (by decide) e3114 ?_
                refine pm_R_lo pm_M185 (pc' := 37) rfl rfl rfl ?_
                refine sf_R_iadd pm_M185 (pc' := 38) rfl rfl B3115 sf_k2 (by decide) (by decide) (fun z3144 e3145 B3146 => ?_)
                refine pm_R_lo pm_M185 (pc' := 39) rfl rfl rfl ?_
                refine rf_R_get pm_M185 T3137 (pc' := 42) (v := .ref 52) rfl rfl rfl rfl ?_
                refine pm_R_lo pm_M185 (pc' := 44) rfl rfl rfl ?_
                refine pm_R_lo pm_M185 (pc' := 46) rfl rfl rfl ?_
                refine pm_R_op pm_M185 (pc' := 47) (st' := [.int 2, .ref 52, .int z3144, .ref 51]) rfl rfl rfl ?_
                have e3147 := (F3138.cell (by decide) e3133)
                refine pm_R_iald pm_M185 (pc' := 48) (v := (m2960 14)) rfl e3147 (Nat.lt_of_lt_of_le (by decide) T3137.1) rfl rfl rfl ?_
                refine rf_R_ist pm_M185 T3137 (pc' := 49) rfl e3139 (by decide) (by decide) (sf_in B3146 (by decide) (by decide)) ⟨_, rfl⟩ rfl (fun h3150 T3151 F3152 e3153 => ?_)
                have F3154 := F3140.trans F3152 (by decide)
                have w3155 := rf_w3o (sf_aux121 _ _ _ _ e3111 e3114 e3145) B2646
                have ct3156 : rf_ct 3 (upd (upd (upd f2 (Int32.toNatClampNeg z3116) 1) (Int32.toNatClampNeg z3130) (m2649 14)) (Int32.toNatClampNeg z3144) (m2960 14)) := (sf_eqL (Eq.trans (sf_upd_ne (j := Int32.toNatClampNeg 0) B3146 (by decide) (by decide)) (Eq.trans (sf_upd_ne (j := Int32.toNatClampNeg 0) B3132 (by decide) (by decide)) (Eq.trans (sf_upd_ne (j := Int32.toNatClampNeg 0) B3118 (by decide) (by decide)) rfl))) (sf_weak B2646 (by decide) (by decide)))
                have bd3157 : (m3094 17).toInt = 0 → rf_bd 3 (upd (upd (upd f2 (Int32.toNatClampNeg z3116) 1) (Int32.toNatClampNeg z3130) (m2649 14)) (Int32.toNatClampNeg z3144) (m2960 14)) := fun z => ((bd3143 z).set (k := z3144) (sf_weak B3089 (by decide) (by decide)) w3155.1 w3155.2)
                refine pm_R_lo pm_M185 (pc' := 52) (ls' := [.ref 41, .int 0, .int 1, .int 3, .int 8, .int 0, .int (f2 0), .int 3]) (st' := []) rfl rfl rfl ?_
                refine pm_R_br pm_M185 (pc' := 19) rfl rfl ?_
                refine pm_R_lo pm_M185 (pc' := 21) rfl rfl rfl ?_
                refine pm_R_lo pm_M185 (pc' := 22) rfl rfl rfl ?_
                refine pm_R_br pm_M185 (pc' := 55) (st' := []) rfl rfl ?_
                refine pm_R_lo pm_M185 (pc' := 56) rfl rfl rfl ?_
                refine rf_R_get pm_M185 T3151 (pc' := 59) (v := .ref 51) rfl rfl rfl rfl ?_
                refine pm_R_lo pm_M185 (pc' := 60) rfl rfl rfl ?_
                refine pm_R_op pm_M185 (pc' := 61) (st' := [.int 0, .ref 51, .int 0, .ref 51]) rfl rfl rfl ?_
                refine pm_R_iald pm_M185 (pc' := 62) (v := (f2 0)) rfl e3153 (Nat.lt_of_lt_of_le (by decide) T3151.1) rfl (Eq.trans (sf_upd_ne (j := Int32.toNatClampNeg 0) B3146 (by decide) (by decide)) (Eq.trans (sf_upd_ne (j := Int32.toNatClampNeg 0) B3132 (by decide) (by decide)) (Eq.trans (sf_upd_ne (j := Int32.toNatClampNeg 0) B3118 (by decide) (by decide)) rfl))) rfl ?_
                refine pm_R_op pm_M185 (pc' := 63) (st' := [.int 1, .int (f2 0), .int 0, .ref 51]) rfl rfl rfl ?_
                refine sf_R_iadd pm_M185 (pc' := 64) rfl rfl B2646 sf_k1 (by decide) (by decide) (fun z3160 e3161 B3162 => ?_)
                refine rf_R_ist pm_M185 T3151 (pc' := 65) rfl e3153 (by decide) (by decide) rfl ⟨_, rfl⟩ rfl (fun h3163 T3164 F3165 e3166 => ?_)
                have F3167 := F3154.trans F3165 (by decide)
                have ct3168 : rf_ct 3 (upd (upd (upd (upd f2 (Int32.toNatClampNeg z3116) 1) (Int32.toNatClampNeg z3130) (m2649 14)) (Int32.toNatClampNeg z3144) (m2960 14)) (Int32.toNatClampNeg 0) z3160) := (sf_eqL rfl (sf_weak B3162 (by decide) (by decide)))
                have bd3169 : (m3094 17).toInt = 0 → rf_bd 3 (upd (upd (upd (upd f2 (Int32.toNatClampNeg z3116) 1) (Int32.toNatClampNeg z3130) (m2649 14)) (Int32.toNatClampNeg z3144) (m2960 14)) (Int32.toNatClampNeg 0) z3160) := fun z => ((bd3157 z).set (k := 0) B3162 (by decide) (by decide))
                refine pm_R_ret pm_M185 (r := none) rfl rfl ?_
                show pm_R _ 192 173 [.ref 41, .long a0, pm_no, .int a1, .int 1] [] _ _
                refine pm_R_op pm_M192 (pc' := 174) (st' := [.int 1]) (pm_q192_1 (Nat.le_of_ble_eq_true rfl)) rfl rfl ?_
                have B3170 : sf_B 0 600 (m3094 10) := T3164.2.2.1 10
                exact pm_R_ret pm_M192 (r := some (.int 1)) (pm_q192_1 (Nat.le_of_ble_eq_true rfl)) rfl (K1 m3094 w3095 h3163 T3164 F3167 W3105 (⟨(upd (upd (upd (upd f2 (Int32.toNatClampNeg z3116) 1) (Int32.toNatClampNeg z3130) (m2649 14)) (Int32.toNatClampNeg z3144) (m2960 14)) (Int32.toNatClampNeg 0) z3160), e3166, ct3168, fun z => (bd3169 z)⟩) (sf_aux111 _ _ _ _ X2655 X2966 X3100))
            · skip
              refine pm_R_lo pm_M183 (pc' := 9) rfl rfl rfl ?_
              refine pm_R_cv pm_M183 (pc' := 12) (a := 41) (ra := []) (rest := []) (ls' := [.ref 41]) rfl rfl (Or.inl rfl) pm_M184 T2963.2.1 rfl (by decide) (Nat.lt_of_lt_of_le (by decide) T2963.1) rfl rfl (Nat.le_of_ble_eq_true rfl) rfl rfl ?_
              refine pm_R_lo pm_M184 (pc' := 1) rfl rfl rfl ?_
              refine pm_R_lo pm_M184 (pc' := 2) rfl rfl rfl ?_
              have B3171 : sf_B 0 600 (m2960 12) := T2963.2.2.1 12
              refine rf_R_get pm_M184 T2963 (pc' := 5) (v := .int (m2960 12)) rfl rfl rfl rfl ?_
              refine rf_R_put pm_M184 T2963 (pc' := 8) rfl rfl rfl (by decide) rfl rfl B3171 rfl rfl (fun h3172 m3175 em3176 T3173 F3174 => ?_)
              have F3177 := F2968.trans F3174 (by decide)
              have B3178 : sf_B 0 4 (m3175 17) := by rw [em3176]; exact B2969
              have ek3179 : (m3175 17).toInt = ((m 17)).toInt := by rw [em3176]; exact ek2970
              have B3180 : sf_B 0 600 (m3175 16) := by rw [em3176]; exact B3171
              have ek3181 : (m3175 16).toInt = ((m2960 12)).toInt := by rw [em3176]; rfl
              have W3182 : rf_W [10, 12, 13, 14, 16, 17, 18, 22] m m3175 := by rw [em3176]; exact W2971.put (by decide)
              refine pm_R_op pm_M184 (pc' := 9) (st' := [.int 0]) rfl rfl rfl ?_
              refine pm_R_ret pm_M184 (r := some (.int 0)) rfl rfl ?_
              show pm_R _ 183 12 [.ref 41, .int 2, .int 9, .int (-1)] [.int 0] _ _
              refine pm_R_ret pm_M183 (r := some (.int 0)) rfl rfl ?_
              show pm_R _ 192 158 [.ref 41, .long a0, pm_no, .int a1, .int 1] [.int 0] _ _
              refine pm_R_br pm_M192 (pc' := 161) (st' := []) (pm_q192_1 (Nat.le_of_ble_eq_true rfl)) rfl ?_
              refine pm_R_op pm_M192 (pc' := 162) (st' := [.int 0]) (pm_q192_1 (Nat.le_of_ble_eq_true rfl)) rfl rfl ?_
              have B3183 : sf_B 0 600 (m3175 10) := T3173.2.2.1 10
              exact pm_R_ret pm_M192 (r := some (.int 0)) (pm_q192_1 (Nat.le_of_ble_eq_true rfl)) rfl (K0 m3175 w2961 h3172 T3173 F3177 W3182 (sf_aux90 _ _ _ _ X2655 X2966))
        · skip
          refine pm_R_lo pm_M183 (pc' := 9) rfl rfl rfl ?_
          refine pm_R_cv pm_M183 (pc' := 12) (a := 41) (ra := []) (rest := []) (ls' := [.ref 41]) rfl rfl (Or.inl rfl) pm_M184 T2685.2.1 rfl (by decide) (Nat.lt_of_lt_of_le (by decide) T2685.1) rfl rfl (Nat.le_of_ble_eq_true rfl) rfl rfl ?_
          refine pm_R_lo pm_M184 (pc' := 1) rfl rfl rfl ?_
          refine pm_R_lo pm_M184 (pc' := 2) rfl rfl rfl ?_
          have B3184 : sf_B 0 600 (m2649 12) := T2685.2.2.1 12
          refine rf_R_get pm_M184 T2685 (pc' := 5) (v := .int (m2649 12)) rfl rfl rfl rfl ?_
          refine rf_R_put pm_M184 T2685 (pc' := 8) rfl rfl rfl (by decide) rfl rfl B3184 rfl rfl (fun h3185 m3188 em3189 T3186 F3187 => ?_)
          have F3190 := F2688.trans F3187 (by decide)
          have B3191 : sf_B 0 4 (m3188 17) := by rw [em3189]; exact B2658
          have ek3192 : (m3188 17).toInt = ((m 17)).toInt := by rw [em3189]; exact ek2659
          have B3193 : sf_B 0 600 (m3188 16) := by rw [em3189]; exact B3184
          have ek3194 : (m3188 16).toInt = ((m2649 12)).toInt := by rw [em3189]; rfl
          have W3195 : rf_W [10, 12, 13, 14, 16, 17, 18, 22] m m3188 := by rw [em3189]; exact W2660.put (by decide)
          refine pm_R_op pm_M184 (pc' := 9) (st' := [.int 0]) rfl rfl rfl ?_
          refine pm_R_ret pm_M184 (r := some (.int 0)) rfl rfl ?_
          show pm_R _ 183 12 [.ref 41, .int 1, .int 9, .int (-1)] [.int 0] _ _
          refine pm_R_ret pm_M183 (r := some (.int 0)) rfl rfl ?_
          show pm_R _ 192 127 [.ref 41, .long a0, pm_no, .int a1, .int 1] [.int 0] _ _
          refine pm_R_br pm_M192 (pc' := 130) (st' := []) (pm_q192_1 (Nat.le_of_ble_eq_true rfl)) rfl ?_
          refine pm_R_op pm_M192 (pc' := 131) (st' := [.int 0]) (pm_q192_1 (Nat.le_of_ble_eq_true rfl)) rfl rfl ?_
          have B3196 : sf_B 0 600 (m3188 10) := T3186.2.2.1 10
          exact pm_R_ret pm_M192 (r := some (.int 0)) (pm_q192_1 (Nat.le_of_ble_eq_true rfl)) rfl (K0 m3188 w2650 h3185 T3186 F3190 W3195 (sf_aux91 _ _ _ X2655))
      · have B3197 : sf_B 8 8 (f2 0) := sf_eqL (Classical.not_not.mp c2645) sf_k8
        refine pm_R_lo pm_M192 (pc' := 98) rfl rfl rfl ?_
        refine pm_R_op pm_M192 (pc' := 99) (st' := [.int 3, .ref 41]) rfl rfl rfl ?_
        refine pm_R_lo pm_M192 (pc' := 100) rfl rfl rfl ?_
        refine pm_R_cv pm_M192 (pc' := 103) (a := 41) (ra := [.int a1, .int 3]) (rest := []) (ls' := [.ref 41, .int 3, .int a1]) rfl rfl (Or.inl rfl) pm_M182 T.2.1 rfl (by decide) (Nat.lt_of_lt_of_le (by decide) T.1) rfl rfl (Nat.le_of_ble_eq_true rfl) rfl rfl ?_
        refine rf_c182 (d := d + 2) T (sf_weak sf_k3 (by decide) (by decide)) Ba1 (fun m3200 w3201 h3202 T3203 F3204 W3205 B3206 => ?_)
        have F3207 := (rf_G.refl [41, 51, 52] h).trans F3204 (by decide)
        have B3208 : sf_B 0 600 (m3200 10) := by rw [W3205 10 (by decide)]; exact B1
        have ek3209 : (m3200 10).toInt = ((m 10)).toInt := by rw [W3205 10 (by decide)]
        have W3210 : rf_W [10, 12, 13, 14, 16, 17, 18, 22] m m3200 := (rf_W.refl [10, 12, 13, 14, 16, 17, 18, 22] m).trans W3205 (by decide)
        show pm_R _ 192 103 [.ref 41, .long a0, pm_no, .int a1, .int 1] [] _ _
        refine pm_R_lo pm_M192 (pc' := 104) rfl rfl rfl ?_
        refine pm_R_cv pm_M192 (pc' := 107) (a := 41) (ra := []) (rest := []) (ls' := [.ref 41, pm_no, pm_no]) rfl rfl (Or.inl rfl) pm_M179 T3203.2.1 rfl (by decide) (Nat.lt_of_lt_of_le (by decide) T3203.1) rfl rfl (Nat.le_of_ble_eq_true rfl) rfl rfl ?_
        refine rf_c179 (d := d + 1) T3203  (fun m3213 w3214 h3215 T3216 F3217 W3218 X3219 X3220 => ?_)
        have F3221 := F3207.trans F3217 (by decide)
        have B3222 : sf_B 1 4 (m3213 17) := by rw [W3218 17 (by decide)]; exact B3206
        have ek3223 : (m3213 17).toInt = ((m3200 17)).toInt := by rw [W3218 17 (by decide)]
        have W3224 : rf_W [10, 12, 13, 14, 16, 17, 18, 22] m m3213 := W3210.trans W3218 (by decide)
        show pm_R _ 192 107 [.ref 41, .long a0, pm_no, .int a1, .int 1] [] _ _
        refine pm_R_lo pm_M192 (pc' := 108) rfl rfl rfl ?_
        refine pm_R_cv pm_M192 (pc' := 111) (a := 41) (ra := []) (rest := []) (ls' := [.ref 41, pm_no]) rfl rfl (Or.inl rfl) pm_M190 T3216.2.1 rfl (by decide) (Nat.lt_of_lt_of_le (by decide) T3216.1) rfl rfl (Nat.le_of_ble_eq_true rfl) rfl rfl ?_
        refine pm_R_op pm_M190 (pc' := 1) (st' := [.int 0]) rfl rfl rfl ?_
        refine pm_R_lo pm_M190 (pc' := 2) (ls' := [.ref 41, .int 0]) (st' := []) rfl rfl rfl ?_
        refine pm_R_lo pm_M190 (pc' := 3) rfl rfl rfl ?_
        refine pm_R_op pm_M190 (pc' := 4) (st' := [.int 4, .int 0]) rfl rfl rfl ?_
        refine pm_R_br pm_M190 (pc' := 7) (st' := []) rfl rfl ?_
        refine pm_R_lo pm_M190 (pc' := 8) rfl rfl rfl ?_
        refine rf_R_get pm_M190 T3216 (pc' := 11) (v := .ref 52) rfl rfl rfl rfl ?_
        refine pm_R_lo pm_M190 (pc' := 12) rfl rfl rfl ?_
        refine pm_R_op pm_M190 (pc' := 13) (st' := [.int (-1), .int 0, .ref 52]) rfl rfl rfl ?_
        obtain ⟨f3225, e3226, b3227⟩ := T3216.2.2.2.1 52 (by decide) (by decide)
        refine rf_R_ist pm_M190 T3216 (pc' := 14) rfl e3226 (by decide) (by decide) rfl ⟨_, rfl, sf_upd b3227 (sf_weak sf_kn1 (by decide) (by decide)) _⟩ rfl (fun h3228 T3229 F3230 e3231 => ?_)
        have F3232 := F3221.trans F3230 (by decide)
        refine pm_R_lo pm_M190 (pc' := 17) (ls' := [.ref 41, .int 1]) (st' := []) rfl rfl rfl ?_
        refine pm_R_br pm_M190 (pc' := 2) rfl rfl ?_
        refine pm_R_lo pm_M190 (pc' := 3) rfl rfl rfl ?_
        refine pm_R_op pm_M190 (pc' := 4) (st' := [.int 4, .int 1]) rfl rfl rfl ?_
        refine pm_R_br pm_M190 (pc' := 7) (st' := []) rfl rfl ?_
        refine pm_R_lo pm_M190 (pc' := 8) rfl rfl rfl ?_
        refine rf_R_get pm_M190 T3229 (pc' := 11) (v := .ref 52) rfl rfl rfl rfl ?_
        refine pm_R_lo pm_M190 (pc' := 12) rfl rfl rfl ?_
        refine pm_R_op pm_M190 (pc' := 13) (st' := [.int (-1), .int 1, .ref 52]) rfl rfl rfl ?_
        refine rf_R_ist pm_M190 T3229 (pc' := 14) rfl e3231 (by decide) (by decide) rfl ⟨_, rfl, sf_upd (sf_upd b3227 (sf_weak sf_kn1 (by decide) (by decide)) _) (sf_weak sf_kn1 (by decide) (by decide)) _⟩ rfl (fun h3233 T3234 F3235 e3236 => ?_)
        have F3237 := F3232.trans F3235 (by decide)
        refine pm_R_lo pm_M190 (pc' := 17) (ls' := [.ref 41, .int 2]) (st' := []) rfl rfl rfl ?_
        refine pm_R_br pm_M190 (pc' := 2) rfl rfl ?_
        refine pm_R_lo pm_M190 (pc' := 3) rfl rfl rfl ?_
        refine pm_R_op pm_M190 (pc' := 4) (st' := [.int 4, .int 2]) rfl rfl rfl ?_
        refine pm_R_br pm_M190 (pc' := 7) (st' := []) rfl rfl ?_
        refine pm_R_lo pm_M190 (pc' := 8) rfl rfl rfl ?_
        refine rf_R_get pm_M190 T3234 (pc' := 11) (v := .ref 52) rfl rfl rfl rfl ?_
        refine pm_R_lo pm_M190 (pc' := 12) rfl rfl rfl ?_
        refine pm_R_op pm_M190 (pc' := 13) (st' := [.int (-1), .int 2, .ref 52]) rfl rfl rfl ?_
        refine rf_R_ist pm_M190 T3234 (pc' := 14) rfl e3236 (by decide) (by decide) rfl ⟨_, rfl, sf_upd (sf_upd (sf_upd b3227 (sf_weak sf_kn1 (by decide) (by decide)) _) (sf_weak sf_kn1 (by decide) (by decide)) _) (sf_weak sf_kn1 (by decide) (by decide)) _⟩ rfl (fun h3238 T3239 F3240 e3241 => ?_)
        have F3242 := F3237.trans F3240 (by decide)
        refine pm_R_lo pm_M190 (pc' := 17) (ls' := [.ref 41, .int 3]) (st' := []) rfl rfl rfl ?_
        refine pm_R_br pm_M190 (pc' := 2) rfl rfl ?_
        refine pm_R_lo pm_M190 (pc' := 3) rfl rfl rfl ?_
        refine pm_R_op pm_M190 (pc' := 4) (st' := [.int 4, .int 3]) rfl rfl rfl ?_
        refine pm_R_br pm_M190 (pc' := 7) (st' := []) rfl rfl ?_
        refine pm_R_lo pm_M190 (pc' := 8) rfl rfl rfl ?_
        refine rf_R_get pm_M190 T3239 (pc' := 11) (v := .ref 52) rfl rfl rfl rfl ?_
        refine pm_R_lo pm_M190 (pc' := 12) rfl rfl rfl ?_
        refine pm_R_op pm_M190 (pc' := 13) (st' := [.int (-1), .int 3, .ref 52]) rfl rfl rfl ?_
        refine rf_R_ist pm_M190 T3239 (pc' := 14) rfl e3241 (by decide) (by decide) rfl ⟨_, rfl, sf_upd (sf_upd (sf_upd (sf_upd b3227 (sf_weak sf_kn1 (by decide) (by decide)) _) (sf_weak sf_kn1 (by decide) (by decide)) _) (sf_weak sf_kn1 (by decide) (by decide)) _) (sf_weak sf_kn1 (by decide) (by decide)) _⟩ rfl (fun h3243 T3244 F3245 e3246 => ?_)
        have F3247 := F3242.trans F3245 (by decide)
        refine pm_R_lo pm_M190 (pc' := 17) (ls' := [.ref 41, .int 4]) (st' := []) rfl rfl rfl ?_
        refine pm_R_br pm_M190 (pc' := 2) rfl rfl ?_
        refine pm_R_lo pm_M190 (pc' := 3) rfl rfl rfl ?_
        refine pm_R_op pm_M190 (pc' := 4) (st' := [.int 4, .int 4]) rfl rfl rfl ?_
        refine pm_R_br pm_M190 (pc' := 20) (st' := []) rfl rfl ?_
        refine pm_R_ret pm_M190 (r := none) rfl rfl ?_
        show pm_R _ 192 111 [.ref 41, .long a0, pm_no, .int a1, .int 1] [] _ _
        refine pm_R_lo pm_M192 (pc' := 112) rfl rfl rfl ?_
        refine rf_R_get pm_M192 T3244 (pc' := 115) (v := .ref 52) rfl rfl rfl rfl ?_
        refine pm_R_op pm_M192 (pc' := 116) (st' := [.int 0, .ref 52]) (pm_q192_1 (Nat.le_of_ble_eq_true rfl)) rfl rfl ?_
        refine pm_R_lo pm_M192 (pc' := 118) (pm_q192_1 (Nat.le_of_ble_eq_true rfl)) rfl rfl ?_
        refine rf_R_ist pm_M192 T3244 (pc' := 119) (pm_q192_1 (Nat.le_of_ble_eq_true rfl)) e3246 (by decide) (by decide) rfl ⟨_, rfl, sf_upd (sf_upd (sf_upd (sf_upd (sf_upd b3227 (sf_weak sf_kn1 (by decide) (by decide)) _) (sf_weak sf_kn1 (by decide) (by decide)) _) (sf_weak sf_kn1 (by decide) (by decide)) _) (sf_weak sf_kn1 (by decide) (by decide)) _) (sf_weak sf_k1 (by decide) (by decide)) _⟩ rfl (fun h3248 T3249 F3250 e3251 => ?_)
        have F3252 := F3247.trans F3250 (by decide)
        refine pm_R_lo pm_M192 (pc' := 120) (pm_q192_1 (Nat.le_of_ble_eq_true rfl)) rfl rfl ?_
        refine pm_R_op pm_M192 (pc' := 121) (st' := [.int 1, .ref 41]) (pm_q192_1 (Nat.le_of_ble_eq_true rfl)) rfl rfl ?_
        refine pm_R_op pm_M192 (pc' := 123) (st' := [.int 9, .int 1, .ref 41]) (pm_q192_1 (Nat.le_of_ble_eq_true rfl)) rfl rfl ?_
        refine pm_R_op pm_M192 (pc' := 124) (st' := [.int (-1), .int 9, .int 1, .ref 41]) (pm_q192_1 (Nat.le_of_ble_eq_true rfl)) rfl rfl ?_
        refine pm_R_cv pm_M192 (pc' := 127) (a := 41) (ra := [.int (-1), .int 9, .int 1]) (rest := []) (ls' := [.ref 41, .int 1, .int 9, .int (-1)]) (pm_q192_1 (Nat.le_of_ble_eq_true rfl)) rfl (Or.inl rfl) pm_M183 T3249.2.1 rfl (by decide) (Nat.lt_of_lt_of_le (by decide) T3249.1) rfl rfl (Nat.le_of_ble_eq_true rfl) rfl rfl ?_
        refine pm_R_lo pm_M183 (pc' := 1) rfl rfl rfl ?_
        have B3253 : sf_B 0 4 (m3213 13) := T3249.2.2.1 13
        refine rf_R_get pm_M183 T3249 (pc' := 4) (v := .int (m3213 13)) rfl rfl rfl rfl ?_
        refine pm_R_op pm_M183 (pc' := 5) (st' := [.int 3, .int (m3213 13)]) rfl rfl rfl ?_
        refine pm_R_icmp pm_M183 (t := 13) (pc' := 8) rfl rfl rfl (fun c3254 => ?_) (fun c3254 => ?_)
        · have B3255 : sf_B 3 3 (m3213 13) := sf_eqL c3254 sf_k3
          refine pm_R_lo pm_M183 (pc' := 14) rfl rfl rfl ?_
          refine rf_R_get pm_M183 T3249 (pc' := 17) (v := .ref 52) rfl rfl rfl rfl ?_
          refine pm_R_lo pm_M183 (pc' := 18) rfl rfl rfl ?_
          refine pm_R_lo pm_M183 (pc' := 19) rfl rfl rfl ?_
          have B3256 : sf_B 0 99 (m3213 14) := T3249.2.2.1 14
          refine rf_R_get pm_M183 T3249 (pc' := 22) (v := .int (m3213 14)) rfl rfl rfl rfl ?_
          refine rf_R_ist pm_M183 T3249 (pc' := 23) rfl e3251 (by decide) (by decide) rfl ⟨_, rfl, sf_upd (sf_upd (sf_upd (sf_upd (sf_upd (sf_upd b3227 (sf_weak sf_kn1 (by decide) (by decide)) _) (sf_weak sf_kn1 (by decide) (by decide)) _) (sf_weak sf_kn1 (by decide) (by decide)) _) (sf_weak sf_kn1 (by decide) (by decide)) _) (sf_weak sf_k1 (by decide) (by decide)) _) (sf_weak B3256 (by decide) (by decide)) _⟩ rfl (fun h3257 T3258 F3259 e3260 => ?_)
          have F3261 := F3252.trans F3259 (by decide)
          refine pm_R_lo pm_M183 (pc' := 24) rfl rfl rfl ?_
          refine rf_R_get pm_M183 T3258 (pc' := 27) (v := .int (m3213 14)) rfl rfl rfl rfl ?_
          refine pm_R_lo pm_M183 (pc' := 28) rfl rfl rfl ?_
          refine pm_R_icmp pm_M183 (t := 39) (pc' := 31) rfl rfl rfl (fun c3262 => ?_) (fun c3262 => ?_)
          · have B3263 : sf_B 10 99 (m3213 14) := sf_ltR c3262 sf_k9 B3256
            refine pm_R_lo pm_M183 (pc' := 40) rfl rfl rfl ?_
            refine pm_R_op pm_M183 (pc' := 41) (st' := [.int 2, .ref 41]) rfl rfl rfl ?_
            refine pm_R_lo pm_M183 (pc' := 42) rfl rfl rfl ?_
            have B3264 : sf_B 0 600 (m3213 12) := T3258.2.2.1 12
            refine rf_R_get pm_M183 T3258 (pc' := 45) (v := .int (m3213 12)) rfl rfl rfl rfl ?_
            refine pm_R_cv pm_M183 (pc' := 48) (a := 41) (ra := [.int (m3213 12), .int 2]) (rest := []) (ls' := [.ref 41, .int 2, .int (m3213 12)]) rfl rfl (Or.inl rfl) pm_M182 T3258.2.1 rfl (by decide) (Nat.lt_of_lt_of_le (by decide) T3258.1) rfl rfl (Nat.le_of_ble_eq_true rfl) rfl rfl ?_
            refine rf_c182 (d := d + 1) T3258 (sf_weak sf_k2 (by decide) (by decide)) B3264 (fun m3267 w3268 h3269 T3270 F3271 W3272 B3273 => ?_)
            have F3274 := F3261.trans F3271 (by decide)
            have B3275 : sf_B 3 3 (m3267 13) := by rw [W3272 13 (by decide)]; exact B3255
            have B3276 : sf_B 10 99 (m3267 14) := by rw [W3272 14 (by decide)]; exact B3263
            have W3277 : rf_W [10, 12, 13, 14, 16, 17, 18, 22] m m3267 := W3224.trans W3272 (by decide)
            show pm_R _ 183 48 [.ref 41, .int 1, .int 9, .int (-1)] [] _ _
            refine pm_R_lo pm_M183 (pc' := 49) rfl rfl rfl ?_
            refine pm_R_op pm_M183 (pc' := 50) (st' := [.int 0, .ref 41]) rfl rfl rfl ?_
            refine rf_R_put pm_M183 T3270 (pc' := 53) rfl rfl rfl (by decide) rfl rfl (sf_weak sf_k0 (by decide) (by decide)) rfl rfl (fun h3278 m3281 em3282 T3279 F3280 => ?_)
            have F3283 := F3274.trans F3280 (by decide)
            have B3284 : sf_B 3 3 (m3281 13) := by rw [em3282]; exact B3275
            have B3285 : sf_B 10 99 (m3281 14) := by rw [em3282]; exact B3276
            have B3286 : sf_B 1 4 (m3281 17) := by rw [em3282]; exact B3273
            have ek3287 : (m3281 17).toInt = ((m3267 17)).toInt := by rw [em3282]; rfl
            have B3288 : sf_B 0 0 (m3281 22) := by rw [em3282]; exact sf_k0
            have W3290 : rf_W [10, 12, 13, 14, 16, 17, 18, 22] m m3281 := by rw [em3282]; exact W3277.put (by decide)
            refine pm_R_lo pm_M183 (pc' := 54) rfl rfl rfl ?_
            refine pm_R_cv pm_M183 (pc' := 57) (a := 41) (ra := []) (rest := []) (ls' := [.ref 41, pm_no, pm_no]) rfl rfl (Or.inl rfl) pm_M179 T3279.2.1 rfl (by decide) (Nat.lt_of_lt_of_le (by decide) T3279.1) rfl rfl (Nat.le_of_ble_eq_true rfl) rfl rfl ?_
            have B3291 : sf_B 0 600 (m3281 10) := T3279.2.2.1 10
            refine rf_c179 (d := d + 0) T3279  (fun m3294 w3295 h3296 T3297 F3298 W3299 X3300 X3301 => ?_)
            have F3302 := F3283.trans F3298 (by decide)
            have B3303 : sf_B 1 4 (m3294 17) := by rw [W3299 17 (by decide)]; exact B3286
            have ek3304 : (m3294 17).toInt = ((m3267 17)).toInt := by rw [W3299 17 (by decide)]; exact ek3287
            have B3305 : sf_B 0 0 (m3294 22) := by rw [W3299 22 (by decide)]; exact B3288
            have W3306 : rf_W [10, 12, 13, 14, 16, 17, 18, 22] m m3294 := W3290.trans W3299 (by decide)
            show pm_R _ 183 57 [.ref 41, .int 1, .int 9, .int (-1)] [] _ _
            refine pm_R_op pm_M183 (pc' := 58) (st' := [.int 1]) rfl rfl rfl ?_
            refine pm_R_ret pm_M183 (r := some (.int 1)) rfl rfl ?_
            show pm_R _ 192 127 [.ref 41, .long a0, pm_no, .int a1, .int 1] [.int 1] _ _
            refine pm_R_br pm_M192 (pc' := 132) (st' := []) (pm_q192_1 (Nat.le_of_ble_eq_true rfl)) rfl ?_
            refine pm_R_lo pm_M192 (pc' := 134) (pm_q192_1 (Nat.le_of_ble_eq_true rfl)) rfl rfl ?_
            refine pm_R_op pm_M192 (pc' := 135) (st' := [.int 1, .int 1]) (pm_q192_1 (Nat.le_of_ble_eq_true rfl)) rfl rfl ?_
            refine pm_R_br pm_M192 (pc' := 150) (st' := []) (pm_q192_1 (Nat.le_of_ble_eq_true rfl)) rfl ?_
            refine pm_R_lo pm_M192 (pc' := 151) (pm_q192_1 (Nat.le_of_ble_eq_true rfl)) rfl rfl ?_
            refine pm_R_op pm_M192 (pc' := 152) (st' := [.int 2, .ref 41]) (pm_q192_1 (Nat.le_of_ble_eq_true rfl)) rfl rfl ?_
            refine pm_R_op pm_M192 (pc' := 154) (st' := [.int 9, .int 2, .ref 41]) (pm_q192_1 (Nat.le_of_ble_eq_true rfl)) rfl rfl ?_
            refine pm_R_op pm_M192 (pc' := 155) (st' := [.int (-1), .int 9, .int 2, .ref 41]) (pm_q192_1 (Nat.le_of_ble_eq_true rfl)) rfl rfl ?_
            refine pm_R_cv pm_M192 (pc' := 158) (a := 41) (ra := [.int (-1), .int 9, .int 2]) (rest := []) (ls' := [.ref 41, .int 2, .int 9, .int (-1)]) (pm_q192_1 (Nat.le_of_ble_eq_true rfl)) rfl (Or.inl rfl) pm_M183 T3297.2.1 rfl (by decide) (Nat.lt_of_lt_of_le (by decide) T3297.1) rfl rfl (Nat.le_of_ble_eq_true rfl) rfl rfl ?_
            refine pm_R_lo pm_M183 (pc' := 1) rfl rfl rfl ?_
            have B3307 : sf_B 0 4 (m3294 13) := T3297.2.2.1 13
            refine rf_R_get pm_M183 T3297 (pc' := 4) (v := .int (m3294 13)) rfl rfl rfl rfl ?_
            refine pm_R_op pm_M183 (pc' := 5) (st' := [.int 3, .int (m3294 13)]) rfl rfl rfl ?_
            refine pm_R_icmp pm_M183 (t := 13) (pc' := 8) rfl rfl rfl (fun c3308 => ?_) (fun c3308 => ?_)
            · have B3309 : sf_B 3 3 (m3294 13) := sf_eqL c3308 sf_k3
              refine pm_R_lo pm_M183 (pc' := 14) rfl rfl rfl ?_
              refine rf_R_get pm_M183 T3297 (pc' := 17) (v := .ref 52) rfl rfl rfl rfl ?_
              refine pm_R_lo pm_M183 (pc' := 18) rfl rfl rfl ?_
              refine pm_R_lo pm_M183 (pc' := 19) rfl rfl rfl ?_
              have B3310 : sf_B 0 99 (m3294 14) := T3297.2.2.1 14
              refine rf_R_get pm_M183 T3297 (pc' := 22) (v := .int (m3294 14)) rfl rfl rfl rfl ?_
              have e3311 := (F3298.cell (by decide) (F3280.cell (by decide) (F3271.cell (by decide) e3260)))
              refine rf_R_ist pm_M183 T3297 (pc' := 23) rfl e3311 (by decide) (by decide) rfl ⟨_, rfl, sf_upd (sf_upd (sf_upd (sf_upd (sf_upd (sf_upd (sf_upd b3227 (sf_weak sf_kn1 (by decide) (by decide)) _) (sf_weak sf_kn1 (by decide) (by decide)) _) (sf_weak sf_kn1 (by decide) (by decide)) _) (sf_weak sf_kn1 (by decide) (by decide)) _) (sf_weak sf_k1 (by decide) (by decide)) _) (sf_weak B3256 (by decide) (by decide)) _) (sf_weak B3310 (by decide) (by decide)) _⟩ rfl (fun h3312 T3313 F3314 e3315 => ?_)
              have F3316 := F3302.trans F3314 (by decide)
              refine pm_R_lo pm_M183 (pc' := 24) rfl rfl rfl ?_
              refine rf_R_get pm_M183 T3313 (pc' := 27) (v := .int (m3294 14)) rfl rfl rfl rfl ?_
              refine pm_R_lo pm_M183 (pc' := 28) rfl rfl rfl ?_
              refine pm_R_icmp pm_M183 (t := 39) (pc' := 31) rfl rfl rfl (fun c3317 => ?_) (fun c3317 => ?_)
              · have B3318 : sf_B 10 99 (m3294 14) := sf_ltR c3317 sf_k9 B3310
                refine pm_R_lo pm_M183 (pc' := 40) rfl rfl rfl ?_
                refine pm_R_op pm_M183 (pc' := 41) (st' := [.int 2, .ref 41]) rfl rfl rfl ?_
                refine pm_R_lo pm_M183 (pc' := 42) rfl rfl rfl ?_
                have B3319 : sf_B 0 600 (m3294 12) := T3313.2.2.1 12
                refine rf_R_get pm_M183 T3313 (pc' := 45) (v := .int (m3294 12)) rfl rfl rfl rfl ?_
                refine pm_R_cv pm_M183 (pc' := 48) (a := 41) (ra := [.int (m3294 12), .int 2]) (rest := []) (ls' := [.ref 41, .int 2, .int (m3294 12)]) rfl rfl (Or.inl rfl) pm_M182 T3313.2.1 rfl (by decide) (Nat.lt_of_lt_of_le (by decide) T3313.1) rfl rfl (Nat.le_of_ble_eq_true rfl) rfl rfl ?_
                refine rf_c182 (d := d + 1) T3313 (sf_weak sf_k2 (by decide) (by decide)) B3319 (fun m3322 w3323 h3324 T3325 F3326 W3327 B3328 => ?_)
                have F3329 := F3316.trans F3326 (by decide)
                have B3330 : sf_B 0 0 (m3322 22) := by rw [W3327 22 (by decide)]; exact B3305
                have B3331 : sf_B 3 3 (m3322 13) := by rw [W3327 13 (by decide)]; exact B3309
                have B3332 : sf_B 10 99 (m3322 14) := by rw [W3327 14 (by decide)]; exact B3318
                have W3333 : rf_W [10, 12, 13, 14, 16, 17, 18, 22] m m3322 := W3306.trans W3327 (by decide)
                show pm_R _ 183 48 [.ref 41, .int 2, .int 9, .int (-1)] [] _ _
                refine pm_R_lo pm_M183 (pc' := 49) rfl rfl rfl ?_
                refine pm_R_op pm_M183 (pc' := 50) (st' := [.int 0, .ref 41]) rfl rfl rfl ?_
                refine rf_R_put pm_M183 T3325 (pc' := 53) rfl rfl rfl (by decide) rfl rfl (sf_weak sf_k0 (by decide) (by decide)) rfl rfl (fun h3334 m3337 em3338 T3335 F3336 => ?_)
                have F3339 := F3329.trans F3336 (by decide)
                have B3340 : sf_B 3 3 (m3337 13) := by rw [em3338]; exact B3331
                have B3341 : sf_B 10 99 (m3337 14) := by rw [em3338]; exact B3332
                have B3342 : sf_B 1 4 (m3337 17) := by rw [em3338]; exact B3328
                have ek3343 : (m3337 17).toInt = ((m3322 17)).toInt := by rw [em3338]; rfl
                have B3344 : sf_B 0 0 (m3337 22) := by rw [em3338]; exact sf_k0
                have W3346 : rf_W [10, 12, 13, 14, 16, 17, 18, 22] m m3337 := by rw [em3338]; exact W3333.put (by decide)
                refine pm_R_lo pm_M183 (pc' := 54) rfl rfl rfl ?_
                refine pm_R_cv pm_M183 (pc' := 57) (a := 41) (ra := []) (rest := []) (ls' := [.ref 41, pm_no, pm_no]) rfl rfl (Or.inl rfl) pm_M179 T3335.2.1 rfl (by decide) (Nat.lt_of_lt_of_le (by decide) T3335.1) rfl rfl (Nat.le_of_ble_eq_true rfl) rfl rfl ?_
                have B3347 : sf_B 0 600 (m3337 10) := T3335.2.2.1 10
                refine rf_c179 (d := d + 0) T3335  (fun m3350 w3351 h3352 T3353 F3354 W3355 X3356 X3357 => ?_)
                have F3358 := F3339.trans F3354 (by decide)
                have B3359 : sf_B 1 4 (m3350 17) := by rw [W3355 17 (by decide)]; exact B3342
                have ek3360 : (m3350 17).toInt = ((m3322 17)).toInt := by rw [W3355 17 (by decide)]; exact ek3343
                have B3361 : sf_B 0 0 (m3350 22) := by rw [W3355 22 (by decide)]; exact B3344
                have W3362 : rf_W [10, 12, 13, 14, 16, 17, 18, 22] m m3350 := W3346.trans W3355 (by decide)
                show pm_R _ 183 57 [.ref 41, .int 2, .int 9, .int (-1)] [] _ _
                refine pm_R_op pm_M183 (pc' := 58) (st' := [.int 1]) rfl rfl rfl ?_
                refine pm_R_ret pm_M183 (r := some (.int 1)) rfl rfl ?_
                show pm_R _ 192 158 [.ref 41, .long a0, pm_no, .int a1, .int 1] [.int 1] _ _
                refine pm_R_br pm_M192 (pc' := 163) (st' := []) (pm_q192_1 (Nat.le_of_ble_eq_true rfl)) rfl ?_
                refine pm_R_lo pm_M192 (pc' := 164) (pm_q192_1 (Nat.le_of_ble_eq_true rfl)) rfl rfl ?_
                refine pm_R_op pm_M192 (pc' := 165) (st' := [.int 0, .ref 41]) (pm_q192_1 (Nat.le_of_ble_eq_true rfl)) rfl rfl ?_
                refine pm_R_op pm_M192 (pc' := 166) (st' := [.int 1, .int 0, .ref 41]) (pm_q192_1 (Nat.le_of_ble_eq_true rfl)) rfl rfl ?_
                refine pm_R_op pm_M192 (pc' := 167) (st' := [.int 3, .int 1, .int 0, .ref 41]) (pm_q192_1 (Nat.le_of_ble_eq_true rfl)) rfl rfl ?_
                refine pm_R_op pm_M192 (pc' := 169) (st' := [.int 8, .int 3, .int 1, .int 0, .ref 41]) (pm_q192_1 (Nat.le_of_ble_eq_true rfl)) rfl rfl ?_
                refine pm_R_op pm_M192 (pc' := 170) (st' := [.int 0, .int 8, .int 3, .int 1, .int 0, .ref 41]) (pm_q192_1 (Nat.le_of_ble_eq_true rfl)) rfl rfl ?_
                refine pm_R_cv pm_M192 (pc' := 173) (a := 41) (ra := [.int 0, .int 8, .int 3, .int 1, .int 0]) (rest := []) (ls' := [.ref 41, .int 0, .int 1, .int 3, .int 8, .int 0, pm_no, pm_no]) (pm_q192_1 (Nat.le_of_ble_eq_true rfl)) rfl (Or.inl rfl) pm_M185 T3353.2.1 rfl (by decide) (Nat.lt_of_lt_of_le (by decide) T3353.1) rfl rfl (Nat.le_of_ble_eq_true rfl) rfl rfl ?_
                refine pm_R_lo pm_M185 (pc' := 1) rfl rfl rfl ?_
                refine rf_R_get pm_M185 T3353 (pc' := 4) (v := .ref 51) rfl rfl rfl rfl ?_
                refine pm_R_lo pm_M185 (pc' := 5) rfl rfl rfl ?_
                have e3363 := (F3354.cell (by decide) (F3336.cell (by decide) (F3326.cell (by decide) (F3314.cell (by decide) (F3298.cell (by decide) (F3280.cell (by decide) (F3271.cell (by decide) (F3259.cell (by decide) (F3250.cell (by decide) (F3245.cell (by decide) (F3240.cell (by decide) (F3235.cell (by decide) (F3230.cell (by decide) (F3217.cell (by decide) (F3204.cell (by decide) e3)))))))))))))))
                refine pm_R_iald pm_M185 (pc' := 6) (v := (f2 0)) rfl e3363 (Nat.lt_of_lt_of_le (by decide) T3353.1) rfl rfl rfl ?_
                refine pm_R_lo pm_M185 (pc' := 8) (ls' := [.ref 41, .int 0, .int 1, .int 3, .int 8, .int 0, .int (f2 0), pm_no]) (st' := []) rfl rfl rfl ?_
                refine pm_R_lo pm_M185 (pc' := 10) rfl rfl rfl ?_
                refine pm_R_lo pm_M185 (pc' := 12) rfl rfl rfl ?_
                refine pm_R_icmp pm_M185 (t := 16) (pc' := 15) rfl rfl rfl (fun c3366 => absurd (sf_pt2 B3197 sf_k8) c3366) (fun c3366 => ?_)
                refine pm_R_ret pm_M185 (r := none) rfl rfl ?_
                show pm_R _ 192 173 [.ref 41, .long a0, pm_no, .int a1, .int 1] [] _ _
                refine pm_R_op pm_M192 (pc' := 174) (st' := [.int 1]) (pm_q192_1 (Nat.le_of_ble_eq_true rfl)) rfl rfl ?_
                have B3367 : sf_B 0 600 (m3350 10) := T3353.2.2.1 10
                exact pm_R_ret pm_M192 (r := some (.int 1)) (pm_q192_1 (Nat.le_of_ble_eq_true rfl)) rfl (K1 m3350 w3351 h3352 T3353 F3358 W3362 (⟨f2, e3363, ct4, fun z => (sf_pos B3359 (by decide) z)⟩) (sf_aux117 _ _ _ _ _ _ _ X3219 X3300 X3356))
              · have B3368 : sf_B 0 9 (m3294 14) := sf_leL (Int32.not_lt.mp c3317) B3310 sf_k9
                refine pm_R_lo pm_M183 (pc' := 32) rfl rfl rfl ?_
                refine rf_R_get pm_M183 T3313 (pc' := 35) (v := .int (m3294 14)) rfl rfl rfl rfl ?_
                refine pm_R_lo pm_M183 (pc' := 36) rfl rfl rfl ?_
                refine pm_R_icmp pm_M183 (t := 53) (pc' := 39) rfl rfl rfl (fun c3369 => ?_) (fun c3369 => absurd (Classical.not_not.mp c3369) (sf_neq1 B3368 sf_kn1 (by decide)))
                skip
                refine pm_R_lo pm_M183 (pc' := 54) rfl rfl rfl ?_
                refine pm_R_cv pm_M183 (pc' := 57) (a := 41) (ra := []) (rest := []) (ls' := [.ref 41, pm_no, pm_no]) rfl rfl (Or.inl rfl) pm_M179 T3313.2.1 rfl (by decide) (Nat.lt_of_lt_of_le (by decide) T3313.1) rfl rfl (Nat.le_of_ble_eq_true rfl) rfl rfl ?_
                have B3370 : sf_B 0 600 (m3294 10) := T3313.2.2.1 10
                refine rf_c179 (d := d + 0) T3313  (fun m3373 w3374 h3375 T3376 F3377 W3378 X3379 X3380 => ?_)
                have F3381 := F3316.trans F3377 (by decide)
                have B3382 : sf_B 1 4 (m3373 17) := by rw [W3378 17 (by decide)]; exact B3303
                have ek3383 : (m3373 17).toInt = ((m3267 17)).toInt := by rw [W3378 17 (by decide)]; exact ek3304
                have B3384 : sf_B 0 0 (m3373 22) := by rw [W3378 22 (by decide)]; exact B3305
                have W3385 : rf_W [10, 12, 13, 14, 16, 17, 18, 22] m m3373 := W3306.trans W3378 (by decide)
                show pm_R _ 183 57 [.ref 41, .int 2, .int 9, .int (-1)] [] _ _
                refine pm_R_op pm_M183 (pc' := 58) (st' := [.int 1]) rfl rfl rfl ?_
                refine pm_R_ret pm_M183 (r := some (.int 1)) rfl rfl ?_
                show pm_R _ 192 158 [.ref 41, .long a0, pm_no, .int a1, .int 1] [.int 1] _ _
                refine pm_R_br pm_M192 (pc' := 163) (st' := []) (pm_q192_1 (Nat.le_of_ble_eq_true rfl)) rfl ?_
                refine pm_R_lo pm_M192 (pc' := 164) (pm_q192_1 (Nat.le_of_ble_eq_true rfl)) rfl rfl ?_
                refine pm_R_op pm_M192 (pc' := 165) (st' := [.int 0, .ref 41]) (pm_q192_1 (Nat.le_of_ble_eq_true rfl)) rfl rfl ?_
                refine pm_R_op pm_M192 (pc' := 166) (st' := [.int 1, .int 0, .ref 41]) (pm_q192_1 (Nat.le_of_ble_eq_true rfl)) rfl rfl ?_
                refine pm_R_op pm_M192 (pc' := 167) (st' := [.int 3, .int 1, .int 0, .ref 41]) (pm_q192_1 (Nat.le_of_ble_eq_true rfl)) rfl rfl ?_
                refine pm_R_op pm_M192 (pc' := 169) (st' := [.int 8, .int 3, .int 1, .int 0, .ref 41]) (pm_q192_1 (Nat.le_of_ble_eq_true rfl)) rfl rfl ?_
                refine pm_R_op pm_M192 (pc' := 170) (st' := [.int 0, .int 8, .int 3, .int 1, .int 0, .ref 41]) (pm_q192_1 (Nat.le_of_ble_eq_true rfl)) rfl rfl ?_
                refine pm_R_cv pm_M192 (pc' := 173) (a := 41) (ra := [.int 0, .int 8, .int 3, .int 1, .int 0]) (rest := []) (ls' := [.ref 41, .int 0, .int 1, .int 3, .int 8, .int 0, pm_no, pm_no]) (pm_q192_1 (Nat.le_of_ble_eq_true rfl)) rfl (Or.inl rfl) pm_M185 T3376.2.1 rfl (by decide) (Nat.lt_of_lt_of_le (by decide) T3376.1) rfl rfl (Nat.le_of_ble_eq_true rfl) rfl rfl ?_
                refine pm_R_lo pm_M185 (pc' := 1) rfl rfl rfl ?_
                refine rf_R_get pm_M185 T3376 (pc' := 4) (v := .ref 51) rfl rfl rfl rfl ?_
                refine pm_R_lo pm_M185 (pc' := 5) rfl rfl rfl ?_
                have e3386 := (F3377.cell (by decide) (F3314.cell (by decide) (F3298.cell (by decide) (F3280.cell (by decide) (F3271.cell (by decide) (F3259.cell (by decide) (F3250.cell (by decide) (F3245.cell (by decide) (F3240.cell (by decide) (F3235.cell (by decide) (F3230.cell (by decide) (F3217.cell (by decide) (F3204.cell (by decide) e3)))))))))))))
                refine pm_R_iald pm_M185 (pc' := 6) (v := (f2 0)) rfl e3386 (Nat.lt_of_lt_of_le (by decide) T3376.1) rfl rfl rfl ?_
                refine pm_R_lo pm_M185 (pc' := 8) (ls' := [.ref 41, .int 0, .int 1, .int 3, .int 8, .int 0, .int (f2 0), pm_no]) (st' := []) rfl rfl rfl ?_
                refine pm_R_lo pm_M185 (pc' := 10) rfl rfl rfl ?_
                refine pm_R_lo pm_M185 (pc' := 12) rfl rfl rfl ?_
                refine pm_R_icmp pm_M185 (t := 16) (pc' := 15) rfl rfl rfl (fun c3389 => absurd (sf_pt2 B3197 sf_k8) c3389) (fun c3389 => ?_)
                refine pm_R_ret pm_M185 (r := none) rfl rfl ?_
                show pm_R _ 192 173 [.ref 41, .long a0, pm_no, .int a1, .int 1] [] _ _
                refine pm_R_op pm_M192 (pc' := 174) (st' := [.int 1]) (pm_q192_1 (Nat.le_of_ble_eq_true rfl)) rfl rfl ?_
                have B3390 : sf_B 0 600 (m3373 10) := T3376.2.2.1 10
                exact pm_R_ret pm_M192 (r := some (.int 1)) (pm_q192_1 (Nat.le_of_ble_eq_true rfl)) rfl (K1 m3373 w3374 h3375 T3376 F3381 W3385 (⟨f2, e3386, ct4, fun z => (sf_pos B3382 (by decide) z)⟩) (sf_aux124 _ _ _ _ _ _ X3219 X3300 X3379))
            · skip
              refine pm_R_lo pm_M183 (pc' := 9) rfl rfl rfl ?_
              refine pm_R_cv pm_M183 (pc' := 12) (a := 41) (ra := []) (rest := []) (ls' := [.ref 41]) rfl rfl (Or.inl rfl) pm_M184 T3297.2.1 rfl (by decide) (Nat.lt_of_lt_of_le (by decide) T3297.1) rfl rfl (Nat.le_of_ble_eq_true rfl) rfl rfl ?_
              refine pm_R_lo pm_M184 (pc' := 1) rfl rfl rfl ?_
              refine pm_R_lo pm_M184 (pc' := 2) rfl rfl rfl ?_
              have B3391 : sf_B 0 600 (m3294 12) := T3297.2.2.1 12
              refine rf_R_get pm_M184 T3297 (pc' := 5) (v := .int (m3294 12)) rfl rfl rfl rfl ?_
              refine rf_R_put pm_M184 T3297 (pc' := 8) rfl rfl rfl (by decide) rfl rfl B3391 rfl rfl (fun h3392 m3395 em3396 T3393 F3394 => ?_)
              have F3397 := F3302.trans F3394 (by decide)
              have B3398 : sf_B 1 4 (m3395 17) := by rw [em3396]; exact B3303
              have ek3399 : (m3395 17).toInt = ((m3267 17)).toInt := by rw [em3396]; exact ek3304
              have B3400 : sf_B 0 0 (m3395 22) := by rw [em3396]; exact B3305
              have B3401 : sf_B 0 600 (m3395 16) := by rw [em3396]; exact B3391
              have ek3402 : (m3395 16).toInt = ((m3294 12)).toInt := by rw [em3396]; rfl
              have W3403 : rf_W [10, 12, 13, 14, 16, 17, 18, 22] m m3395 := by rw [em3396]; exact W3306.put (by decide)
              refine pm_R_op pm_M184 (pc' := 9) (st' := [.int 0]) rfl rfl rfl ?_
              refine pm_R_ret pm_M184 (r := some (.int 0)) rfl rfl ?_
              show pm_R _ 183 12 [.ref 41, .int 2, .int 9, .int (-1)] [.int 0] _ _
              refine pm_R_ret pm_M183 (r := some (.int 0)) rfl rfl ?_
              show pm_R _ 192 158 [.ref 41, .long a0, pm_no, .int a1, .int 1] [.int 0] _ _
              refine pm_R_br pm_M192 (pc' := 161) (st' := []) (pm_q192_1 (Nat.le_of_ble_eq_true rfl)) rfl ?_
              refine pm_R_op pm_M192 (pc' := 162) (st' := [.int 0]) (pm_q192_1 (Nat.le_of_ble_eq_true rfl)) rfl rfl ?_
              have B3404 : sf_B 0 600 (m3395 10) := T3393.2.2.1 10
              exact pm_R_ret pm_M192 (r := some (.int 0)) (pm_q192_1 (Nat.le_of_ble_eq_true rfl)) rfl (K0 m3395 w3295 h3392 T3393 F3397 W3403 (sf_aux68 _ _ _ _ _ _ X3219 X3300))
          · have B3405 : sf_B 0 9 (m3213 14) := sf_leL (Int32.not_lt.mp c3262) B3256 sf_k9
            refine pm_R_lo pm_M183 (pc' := 32) rfl rfl rfl ?_
            refine rf_R_get pm_M183 T3258 (pc' := 35) (v := .int (m3213 14)) rfl rfl rfl rfl ?_
            refine pm_R_lo pm_M183 (pc' := 36) rfl rfl rfl ?_
            refine pm_R_icmp pm_M183 (t := 53) (pc' := 39) rfl rfl rfl (fun c3406 => ?_) (fun c3406 => absurd (Classical.not_not.mp c3406) (sf_neq1 B3405 sf_kn1 (by decide)))
            skip
            refine pm_R_lo pm_M183 (pc' := 54) rfl rfl rfl ?_
            refine pm_R_cv pm_M183 (pc' := 57) (a := 41) (ra := []) (rest := []) (ls' := [.ref 41, pm_no, pm_no]) rfl rfl (Or.inl rfl) pm_M179 T3258.2.1 rfl (by decide) (Nat.lt_of_lt_of_le (by decide) T3258.1) rfl rfl (Nat.le_of_ble_eq_true rfl) rfl rfl ?_
            have B3407 : sf_B 0 600 (m3213 10) := T3258.2.2.1 10
            refine rf_c179 (d := d + 0) T3258  (fun m3410 w3411 h3412 T3413 F3414 W3415 X3416 X3417 => ?_)
            have F3418 := F3261.trans F3414 (by decide)
            have B3419 : sf_B 1 4 (m3410 17) := by rw [W3415 17 (by decide)]; exact B3222
            have ek3420 : (m3410 17).toInt = ((m3200 17)).toInt := by rw [W3415 17 (by decide)]; exact ek3223
            have W3421 : rf_W [10, 12, 13, 14, 16, 17, 18, 22] m m3410 := W3224.trans W3415 (by decide)
            show pm_R _ 183 57 [.ref 41, .int 1, .int 9, .int (-1)] [] _ _
            refine pm_R_op pm_M183 (pc' := 58) (st' := [.int 1]) rfl rfl rfl ?_
            refine pm_R_ret pm_M183 (r := some (.int 1)) rfl rfl ?_
            show pm_R _ 192 127 [.ref 41, .long a0, pm_no, .int a1, .int 1] [.int 1] _ _
            refine pm_R_br pm_M192 (pc' := 132) (st' := []) (pm_q192_1 (Nat.le_of_ble_eq_true rfl)) rfl ?_
            refine pm_R_lo pm_M192 (pc' := 134) (pm_q192_1 (Nat.le_of_ble_eq_true rfl)) rfl rfl ?_
            refine pm_R_op pm_M192 (pc' := 135) (st' := [.int 1, .int 1]) (pm_q192_1 (Nat.le_of_ble_eq_true rfl)) rfl rfl ?_
            refine pm_R_br pm_M192 (pc' := 150) (st' := []) (pm_q192_1 (Nat.le_of_ble_eq_true rfl)) rfl ?_
            refine pm_R_lo pm_M192 (pc' := 151) (pm_q192_1 (Nat.le_of_ble_eq_true rfl)) rfl rfl ?_
            refine pm_R_op pm_M192 (pc' := 152) (st' := [.int 2, .ref 41]) (pm_q192_1 (Nat.le_of_ble_eq_true rfl)) rfl rfl ?_
            refine pm_R_op pm_M192 (pc' := 154) (st' := [.int 9, .int 2, .ref 41]) (pm_q192_1 (Nat.le_of_ble_eq_true rfl)) rfl rfl ?_
            refine pm_R_op pm_M192 (pc' := 155) (st' := [.int (-1), .int 9, .int 2, .ref 41]) (pm_q192_1 (Nat.le_of_ble_eq_true rfl)) rfl rfl ?_
            refine pm_R_cv pm_M192 (pc' := 158) (a := 41) (ra := [.int (-1), .int 9, .int 2]) (rest := []) (ls' := [.ref 41, .int 2, .int 9, .int (-1)]) (pm_q192_1 (Nat.le_of_ble_eq_true rfl)) rfl (Or.inl rfl) pm_M183 T3413.2.1 rfl (by decide) (Nat.lt_of_lt_of_le (by decide) T3413.1) rfl rfl (Nat.le_of_ble_eq_true rfl) rfl rfl ?_
            refine pm_R_lo pm_M183 (pc' := 1) rfl rfl rfl ?_
            have B3422 : sf_B 0 4 (m3410 13) := T3413.2.2.1 13
            refine rf_R_get pm_M183 T3413 (pc' := 4) (v := .int (m3410 13)) rfl rfl rfl rfl ?_
            refine pm_R_op pm_M183 (pc' := 5) (st' := [.int 3, .int (m3410 13)]) rfl rfl rfl ?_
            refine pm_R_icmp pm_M183 (t := 13) (pc' := 8) rfl rfl rfl (fun c3423 => ?_) (fun c3423 => ?_)
            · have B3424 : sf_B 3 3 (m3410 13) := sf_eqL c3423 sf_k3
              refine pm_R_lo pm_M183 (pc' := 14) rfl rfl rfl ?_
              refine rf_R_get pm_M183 T3413 (pc' := 17) (v := .ref 52) rfl rfl rfl rfl ?_
              refine pm_R_lo pm_M183 (pc' := 18) rfl rfl rfl ?_
              refine pm_R_lo pm_M183 (pc' := 19) rfl rfl rfl ?_
              have B3425 : sf_B 0 99 (m3410 14) := T3413.2.2.1 14
              refine rf_R_get pm_M183 T3413 (pc' := 22) (v := .int (m3410 14)) rfl rfl rfl rfl ?_
              have e3426 := (F3414.cell (by decide) e3260)
              refine rf_R_ist pm_M183 T3413 (pc' := 23) rfl e3426 (by decide) (by decide) rfl ⟨_, rfl, sf_upd (sf_upd (sf_upd (sf_upd (sf_upd (sf_upd (sf_upd b3227 (sf_weak sf_kn1 (by decide) (by decide)) _) (sf_weak sf_kn1 (by decide) (by decide)) _) (sf_weak sf_kn1 (by decide) (by decide)) _) (sf_weak sf_kn1 (by decide) (by decide)) _) (sf_weak sf_k1 (by decide) (by decide)) _) (sf_weak B3256 (by decide) (by decide)) _) (sf_weak B3425 (by decide) (by decide)) _⟩ rfl (fun h3427 T3428 F3429 e3430 => ?_)
              have F3431 := F3418.trans F3429 (by decide)
              refine pm_R_lo pm_M183 (pc' := 24) rfl rfl rfl ?_
              refine rf_R_get pm_M183 T3428 (pc' := 27) (v := .int (m3410 14)) rfl rfl rfl rfl ?_
              refine pm_R_lo pm_M183 (pc' := 28) rfl rfl rfl ?_
              refine pm_R_icmp pm_M183 (t := 39) (pc' := 31) rfl rfl rfl (fun c3432 => ?_) (fun c3432 => ?_)
              · have B3433 : sf_B 10 99 (m3410 14) := sf_ltR c3432 sf_k9 B3425
                refine pm_R_lo pm_M183 (pc' := 40) rfl rfl rfl ?_
                refine pm_R_op pm_M183 (pc' := 41) (st' := [.int 2, .ref 41]) rfl rfl rfl ?_
                refine pm_R_lo pm_M183 (pc' := 42) rfl rfl rfl ?_
                have B3434 : sf_B 0 600 (m3410 12) := T3428.2.2.1 12
                refine rf_R_get pm_M183 T3428 (pc' := 45) (v := .int (m3410 12)) rfl rfl rfl rfl ?_
                refine pm_R_cv pm_M183 (pc' := 48) (a := 41) (ra := [.int (m3410 12), .int 2]) (rest := []) (ls' := [.ref 41, .int 2, .int (m3410 12)]) rfl rfl (Or.inl rfl) pm_M182 T3428.2.1 rfl (by decide) (Nat.lt_of_lt_of_le (by decide) T3428.1) rfl rfl (Nat.le_of_ble_eq_true rfl) rfl rfl ?_
                refine rf_c182 (d := d + 1) T3428 (sf_weak sf_k2 (by decide) (by decide)) B3434 (fun m3437 w3438 h3439 T3440 F3441 W3442 B3443 => ?_)
                have F3444 := F3431.trans F3441 (by decide)
                have B3445 : sf_B 3 3 (m3437 13) := by rw [W3442 13 (by decide)]; exact B3424
                have B3446 : sf_B 10 99 (m3437 14) := by rw [W3442 14 (by decide)]; exact B3433
                have W3447 : rf_W [10, 12, 13, 14, 16, 17, 18, 22] m m3437 := W3421.trans W3442 (by decide)
                show pm_R _ 183 48 [.ref 41, .int 2, .int 9, .int (-1)] [] _ _
                refine pm_R_lo pm_M183 (pc' := 49) rfl rfl rfl ?_
                refine pm_R_op pm_M183 (pc' := 50) (st' := [.int 0, .ref 41]) rfl rfl rfl ?_
                refine rf_R_put pm_M183 T3440 (pc' := 53) rfl rfl rfl (by decide) rfl rfl (sf_weak sf_k0 (by decide) (by decide)) rfl rfl (fun h3448 m3451 em3452 T3449 F3450 => ?_)
                have F3453 := F3444.trans F3450 (by decide)
                have B3454 : sf_B 3 3 (m3451 13) := by rw [em3452]; exact B3445
                have B3455 : sf_B 10 99 (m3451 14) := by rw [em3452]; exact B3446
                have B3456 : sf_B 1 4 (m3451 17) := by rw [em3452]; exact B3443
                have ek3457 : (m3451 17).toInt = ((m3437 17)).toInt := by rw [em3452]; rfl
                have B3458 : sf_B 0 0 (m3451 22) := by rw [em3452]; exact sf_k0
                have W3460 : rf_W [10, 12, 13, 14, 16, 17, 18, 22] m m3451 := by rw [em3452]; exact W3447.put (by decide)
                refine pm_R_lo pm_M183 (pc' := 54) rfl rfl rfl ?_
                refine pm_R_cv pm_M183 (pc' := 57) (a := 41) (ra := []) (rest := []) (ls' := [.ref 41, pm_no, pm_no]) rfl rfl (Or.inl rfl) pm_M179 T3449.2.1 rfl (by decide) (Nat.lt_of_lt_of_le (by decide) T3449.1) rfl rfl (Nat.le_of_ble_eq_true rfl) rfl rfl ?_
                have B3461 : sf_B 0 600 (m3451 10) := T3449.2.2.1 10
                refine rf_c179 (d := d + 0) T3449  (fun m3464 w3465 h3466 T3467 F3468 W3469 X3470 X3471 => ?_)
                have F3472 := F3453.trans F3468 (by decide)
                have B3473 : sf_B 1 4 (m3464 17) := by rw [W3469 17 (by decide)]; exact B3456
                have ek3474 : (m3464 17).toInt = ((m3437 17)).toInt := by rw [W3469 17 (by decide)]; exact ek3457
                have B3475 : sf_B 0 0 (m3464 22) := by rw [W3469 22 (by decide)]; exact B3458
                have W3476 : rf_W [10, 12, 13, 14, 16, 17, 18, 22] m m3464 := W3460.trans W3469 (by decide)
                show pm_R _ 183 57 [.ref 41, .int 2, .int 9, .int (-1)] [] _ _
                refine pm_R_op pm_M183 (pc' := 58) (st' := [.int 1]) rfl rfl rfl ?_
                refine pm_R_ret pm_M183 (r := some (.int 1)) rfl rfl ?_
                show pm_R _ 192 158 [.ref 41, .long a0, pm_no, .int a1, .int 1] [.int 1] _ _
                refine pm_R_br pm_M192 (pc' := 163) (st' := []) (pm_q192_1 (Nat.le_of_ble_eq_true rfl)) rfl ?_
                refine pm_R_lo pm_M192 (pc' := 164) (pm_q192_1 (Nat.le_of_ble_eq_true rfl)) rfl rfl ?_
                refine pm_R_op pm_M192 (pc' := 165) (st' := [.int 0, .ref 41]) (pm_q192_1 (Nat.le_of_ble_eq_true rfl)) rfl rfl ?_
                refine pm_R_op pm_M192 (pc' := 166) (st' := [.int 1, .int 0, .ref 41]) (pm_q192_1 (Nat.le_of_ble_eq_true rfl)) rfl rfl ?_
                refine pm_R_op pm_M192 (pc' := 167) (st' := [.int 3, .int 1, .int 0, .ref 41]) (pm_q192_1 (Nat.le_of_ble_eq_true rfl)) rfl rfl ?_
                refine pm_R_op pm_M192 (pc' := 169) (st' := [.int 8, .int 3, .int 1, .int 0, .ref 41]) (pm_q192_1 (Nat.le_of_ble_eq_true rfl)) rfl rfl ?_
                refine pm_R_op pm_M192 (pc' := 170) (st' := [.int 0, .int 8, .int 3, .int 1, .int 0, .ref 41]) (pm_q192_1 (Nat.le_of_ble_eq_true rfl)) rfl rfl ?_
                refine pm_R_cv pm_M192 (pc' := 173) (a := 41) (ra := [.int 0, .int 8, .int 3, .int 1, .int 0]) (rest := []) (ls' := [.ref 41, .int 0, .int 1, .int 3, .int 8, .int 0, pm_no, pm_no]) (pm_q192_1 (Nat.le_of_ble_eq_true rfl)) rfl (Or.inl rfl) pm_M185 T3467.2.1 rfl (by decide) (Nat.lt_of_lt_of_le (by decide) T3467.1) rfl rfl (Nat.le_of_ble_eq_true rfl) rfl rfl ?_
                refine pm_R_lo pm_M185 (pc' := 1) rfl rfl rfl ?_
                refine rf_R_get pm_M185 T3467 (pc' := 4) (v := .ref 51) rfl rfl rfl rfl ?_
                refine pm_R_lo pm_M185 (pc' := 5) rfl rfl rfl ?_
                have e3477 := (F3468.cell (by decide) (F3450.cell (by decide) (F3441.cell (by decide) (F3429.cell (by decide) (F3414.cell (by decide) (F3259.cell (by decide) (F3250.cell (by decide) (F3245.cell (by decide) (F3240.cell (by decide) (F3235.cell (by decide) (F3230.cell (by decide) (F3217.cell (by decide) (F3204.cell (by decide) e3)))))))))))))
                refine pm_R_iald pm_M185 (pc' := 6) (v := (f2 0)) rfl e3477 (Nat.lt_of_lt_of_le (by decide) T3467.1) rfl rfl rfl ?_
                refine pm_R_lo pm_M185 (pc' := 8) (ls' := [.ref 41, .int 0, .int 1, .int 3, .int 8, .int 0, .int (f2 0), pm_no]) (st' := []) rfl rfl rfl ?_
                refine pm_R_lo pm_M185 (pc' := 10) rfl rfl rfl ?_
                refine pm_R_lo pm_M185 (pc' := 12) rfl rfl rfl ?_
                refine pm_R_icmp pm_M185 (t := 16) (pc' := 15) rfl rfl rfl (fun c3480 => absurd (sf_pt2 B3197 sf_k8) c3480) (fun c3480 => ?_)
                refine pm_R_ret pm_M185 (r := none) rfl rfl ?_
                show pm_R _ 192 173 [.ref 41, .long a0, pm_no, .int a1, .int 1] [] _ _
                refine pm_R_op pm_M192 (pc' := 174) (st' := [.int 1]) (pm_q192_1 (Nat.le_of_ble_eq_true rfl)) rfl rfl ?_
                have B3481 : sf_B 0 600 (m3464 10) := T3467.2.2.1 10
                exact pm_R_ret pm_M192 (r := some (.int 1)) (pm_q192_1 (Nat.le_of_ble_eq_true rfl)) rfl (K1 m3464 w3465 h3466 T3467 F3472 W3476 (⟨f2, e3477, ct4, fun z => (sf_pos B3473 (by decide) z)⟩) (sf_aux118 _ _ _ _ _ _ X3219 X3416 X3470))
              · have B3482 : sf_B 0 9 (m3410 14) := sf_leL (Int32.not_lt.mp c3432) B3425 sf_k9
                refine pm_R_lo pm_M183 (pc' := 32) rfl rfl rfl ?_
                refine rf_R_get pm_M183 T3428 (pc' := 35) (v := .int (m3410 14)) rfl rfl rfl rfl ?_
                refine pm_R_lo pm_M183 (pc' := 36) rfl rfl rfl ?_
                refine pm_R_icmp pm_M183 (t := 53) (pc' := 39) rfl rfl rfl (fun c3483 => ?_) (fun c3483 => absurd (Classical.not_not.mp c3483) (sf_neq1 B3482 sf_kn1 (by decide)))
                skip
                refine pm_R_lo pm_M183 (pc' := 54) rfl rfl rfl ?_
                refine pm_R_cv pm_M183 (pc' := 57) (a := 41) (ra := []) (rest := []) (ls' := [.ref 41, pm_no, pm_no]) rfl rfl (Or.inl rfl) pm_M179 T3428.2.1 rfl (by decide) (Nat.lt_of_lt_of_le (by decide) T3428.1) rfl rfl (Nat.le_of_ble_eq_true rfl) rfl rfl ?_
                have B3484 : sf_B 0 600 (m3410 10) := T3428.2.2.1 10
                refine rf_c179 (d := d + 0) T3428  (fun m3487 w3488 h3489 T3490 F3491 W3492 X3493 X3494 => ?_)
                have F3495 := F3431.trans F3491 (by decide)
                have B3496 : sf_B 1 4 (m3487 17) := by rw [W3492 17 (by decide)]; exact B3419
                have ek3497 : (m3487 17).toInt = ((m3200 17)).toInt := by rw [W3492 17 (by decide)]; exact ek3420
                have W3498 : rf_W [10, 12, 13, 14, 16, 17, 18, 22] m m3487 := W3421.trans W3492 (by decide)
                show pm_R _ 183 57 [.ref 41, .int 2, .int 9, .int (-1)] [] _ _
                refine pm_R_op pm_M183 (pc' := 58) (st' := [.int 1]) rfl rfl rfl ?_
                refine pm_R_ret pm_M183 (r := some (.int 1)) rfl rfl ?_
                show pm_R _ 192 158 [.ref 41, .long a0, pm_no, .int a1, .int 1] [.int 1] _ _
                refine pm_R_br pm_M192 (pc' := 163) (st' := []) (pm_q192_1 (Nat.le_of_ble_eq_true rfl)) rfl ?_
                refine pm_R_lo pm_M192 (pc' := 164) (pm_q192_1 (Nat.le_of_ble_eq_true rfl)) rfl rfl ?_
                refine pm_R_op pm_M192 (pc' := 165) (st' := [.int 0, .ref 41]) (pm_q192_1 (Nat.le_of_ble_eq_true rfl)) rfl rfl ?_
                refine pm_R_op pm_M192 (pc' := 166) (st' := [.int 1, .int 0, .ref 41]) (pm_q192_1 (Nat.le_of_ble_eq_true rfl)) rfl rfl ?_
                refine pm_R_op pm_M192 (pc' := 167) (st' := [.int 3, .int 1, .int 0, .ref 41]) (pm_q192_1 (Nat.le_of_ble_eq_true rfl)) rfl rfl ?_
                refine pm_R_op pm_M192 (pc' := 169) (st' := [.int 8, .int 3, .int 1, .int 0, .ref 41]) (pm_q192_1 (Nat.le_of_ble_eq_true rfl)) rfl rfl ?_
                refine pm_R_op pm_M192 (pc' := 170) (st' := [.int 0, .int 8, .int 3, .int 1, .int 0, .ref 41]) (pm_q192_1 (Nat.le_of_ble_eq_true rfl)) rfl rfl ?_
                refine pm_R_cv pm_M192 (pc' := 173) (a := 41) (ra := [.int 0, .int 8, .int 3, .int 1, .int 0]) (rest := []) (ls' := [.ref 41, .int 0, .int 1, .int 3, .int 8, .int 0, pm_no, pm_no]) (pm_q192_1 (Nat.le_of_ble_eq_true rfl)) rfl (Or.inl rfl) pm_M185 T3490.2.1 rfl (by decide) (Nat.lt_of_lt_of_le (by decide) T3490.1) rfl rfl (Nat.le_of_ble_eq_true rfl) rfl rfl ?_
                refine pm_R_lo pm_M185 (pc' := 1) rfl rfl rfl ?_
                refine rf_R_get pm_M185 T3490 (pc' := 4) (v := .ref 51) rfl rfl rfl rfl ?_
                refine pm_R_lo pm_M185 (pc' := 5) rfl rfl rfl ?_
                have e3499 := (F3491.cell (by decide) (F3429.cell (by decide) (F3414.cell (by decide) (F3259.cell (by decide) (F3250.cell (by decide) (F3245.cell (by decide) (F3240.cell (by decide) (F3235.cell (by decide) (F3230.cell (by decide) (F3217.cell (by decide) (F3204.cell (by decide) e3)))))))))))
                refine pm_R_iald pm_M185 (pc' := 6) (v := (f2 0)) rfl e3499 (Nat.lt_of_lt_of_le (by decide) T3490.1) rfl rfl rfl ?_
                refine pm_R_lo pm_M185 (pc' := 8) (ls' := [.ref 41, .int 0, .int 1, .int 3, .int 8, .int 0, .int (f2 0), pm_no]) (st' := []) rfl rfl rfl ?_
                refine pm_R_lo pm_M185 (pc' := 10) rfl rfl rfl ?_
                refine pm_R_lo pm_M185 (pc' := 12) rfl rfl rfl ?_
                refine pm_R_icmp pm_M185 (t := 16) (pc' := 15) rfl rfl rfl (fun c3502 => absurd (sf_pt2 B3197 sf_k8) c3502) (fun c3502 => ?_)
                refine pm_R_ret pm_M185 (r := none) rfl rfl ?_
                show pm_R _ 192 173 [.ref 41, .long a0, pm_no, .int a1, .int 1] [] _ _
                refine pm_R_op pm_M192 (pc' := 174) (st' := [.int 1]) (pm_q192_1 (Nat.le_of_ble_eq_true rfl)) rfl rfl ?_
                have B3503 : sf_B 0 600 (m3487 10) := T3490.2.2.1 10
                exact pm_R_ret pm_M192 (r := some (.int 1)) (pm_q192_1 (Nat.le_of_ble_eq_true rfl)) rfl (K1 m3487 w3488 h3489 T3490 F3495 W3498 (⟨f2, e3499, ct4, fun z => (sf_pos B3496 (by decide) z)⟩) (sf_aux125 _ _ _ _ _ X3219 X3416 X3493))
            · skip
              refine pm_R_lo pm_M183 (pc' := 9) rfl rfl rfl ?_
              refine pm_R_cv pm_M183 (pc' := 12) (a := 41) (ra := []) (rest := []) (ls' := [.ref 41]) rfl rfl (Or.inl rfl) pm_M184 T3413.2.1 rfl (by decide) (Nat.lt_of_lt_of_le (by decide) T3413.1) rfl rfl (Nat.le_of_ble_eq_true rfl) rfl rfl ?_
              refine pm_R_lo pm_M184 (pc' := 1) rfl rfl rfl ?_
              refine pm_R_lo pm_M184 (pc' := 2) rfl rfl rfl ?_
              have B3504 : sf_B 0 600 (m3410 12) := T3413.2.2.1 12
              refine rf_R_get pm_M184 T3413 (pc' := 5) (v := .int (m3410 12)) rfl rfl rfl rfl ?_
              refine rf_R_put pm_M184 T3413 (pc' := 8) rfl rfl rfl (by decide) rfl rfl B3504 rfl rfl (fun h3505 m3508 em3509 T3506 F3507 => ?_)
              have F3510 := F3418.trans F3507 (by decide)
              have B3511 : sf_B 1 4 (m3508 17) := by rw [em3509]; exact B3419
              have ek3512 : (m3508 17).toInt = ((m3200 17)).toInt := by rw [em3509]; exact ek3420
              have B3513 : sf_B 0 600 (m3508 16) := by rw [em3509]; exact B3504
              have ek3514 : (m3508 16).toInt = ((m3410 12)).toInt := by rw [em3509]; rfl
              have W3515 : rf_W [10, 12, 13, 14, 16, 17, 18, 22] m m3508 := by rw [em3509]; exact W3421.put (by decide)
              refine pm_R_op pm_M184 (pc' := 9) (st' := [.int 0]) rfl rfl rfl ?_
              refine pm_R_ret pm_M184 (r := some (.int 0)) rfl rfl ?_
              show pm_R _ 183 12 [.ref 41, .int 2, .int 9, .int (-1)] [.int 0] _ _
              refine pm_R_ret pm_M183 (r := some (.int 0)) rfl rfl ?_
              show pm_R _ 192 158 [.ref 41, .long a0, pm_no, .int a1, .int 1] [.int 0] _ _
              refine pm_R_br pm_M192 (pc' := 161) (st' := []) (pm_q192_1 (Nat.le_of_ble_eq_true rfl)) rfl ?_
              refine pm_R_op pm_M192 (pc' := 162) (st' := [.int 0]) (pm_q192_1 (Nat.le_of_ble_eq_true rfl)) rfl rfl ?_
              have B3516 : sf_B 0 600 (m3508 10) := T3506.2.2.1 10
              exact pm_R_ret pm_M192 (r := some (.int 0)) (pm_q192_1 (Nat.le_of_ble_eq_true rfl)) rfl (K0 m3508 w3411 h3505 T3506 F3510 W3515 (sf_aux75 _ _ _ _ _ X3219 X3416))
        · skip
          refine pm_R_lo pm_M183 (pc' := 9) rfl rfl rfl ?_
          refine pm_R_cv pm_M183 (pc' := 12) (a := 41) (ra := []) (rest := []) (ls' := [.ref 41]) rfl rfl (Or.inl rfl) pm_M184 T3249.2.1 rfl (by decide) (Nat.lt_of_lt_of_le (by decide) T3249.1) rfl rfl (Nat.le_of_ble_eq_true rfl) rfl rfl ?_
          refine pm_R_lo pm_M184 (pc' := 1) rfl rfl rfl ?_
          refine pm_R_lo pm_M184 (pc' := 2) rfl rfl rfl ?_
          have B3517 : sf_B 0 600 (m3213 12) := T3249.2.2.1 12
          refine rf_R_get pm_M184 T3249 (pc' := 5) (v := .int (m3213 12)) rfl rfl rfl rfl ?_
          refine rf_R_put pm_M184 T3249 (pc' := 8) rfl rfl rfl (by decide) rfl rfl B3517 rfl rfl (fun h3518 m3521 em3522 T3519 F3520 => ?_)
          have F3523 := F3252.trans F3520 (by decide)
          have B3524 : sf_B 1 4 (m3521 17) := by rw [em3522]; exact B3222
          have ek3525 : (m3521 17).toInt = ((m3200 17)).toInt := by rw [em3522]; exact ek3223
          have B3526 : sf_B 0 600 (m3521 16) := by rw [em3522]; exact B3517
          have ek3527 : (m3521 16).toInt = ((m3213 12)).toInt := by rw [em3522]; rfl
          have W3528 : rf_W [10, 12, 13, 14, 16, 17, 18, 22] m m3521 := by rw [em3522]; exact W3224.put (by decide)
          refine pm_R_op pm_M184 (pc' := 9) (st' := [.int 0]) rfl rfl rfl ?_
          refine pm_R_ret pm_M184 (r := some (.int 0)) rfl rfl ?_
          show pm_R _ 183 12 [.ref 41, .int 1, .int 9, .int (-1)] [.int 0] _ _
          refine pm_R_ret pm_M183 (r := some (.int 0)) rfl rfl ?_
          show pm_R _ 192 127 [.ref 41, .long a0, pm_no, .int a1, .int 1] [.int 0] _ _
          refine pm_R_br pm_M192 (pc' := 130) (st' := []) (pm_q192_1 (Nat.le_of_ble_eq_true rfl)) rfl ?_
          refine pm_R_op pm_M192 (pc' := 131) (st' := [.int 0]) (pm_q192_1 (Nat.le_of_ble_eq_true rfl)) rfl rfl ?_
          have B3529 : sf_B 0 600 (m3521 10) := T3519.2.2.1 10
          exact pm_R_ret pm_M192 (r := some (.int 0)) (pm_q192_1 (Nat.le_of_ble_eq_true rfl)) rfl (K0 m3521 w3214 h3518 T3519 F3523 W3528 (sf_aux76 _ _ _ _ X3219))
  · have B3530 : sf_B 0 0 z7 := sf_eqL (Classical.not_not.mp c9) sf_k0
    have B3531 : lf_B 474148660594 474148660594 a0 := lf_eqB e8 B3530 (⟨by decide, by decide⟩ : lf_B 474148660594 474148660594 474148660594)
    refine pm_R_op pm_M192 (pc' := 9) (st' := [.int 0]) rfl rfl rfl ?_
    refine pm_R_br pm_M192 (pc' := 73) rfl rfl ?_
    refine pm_R_lo pm_M192 (pc' := 75) (ls' := [.ref 41, .long a0, pm_no, .int a1, .int 0]) (st' := []) rfl rfl rfl ?_
    refine pm_R_lo pm_M192 (pc' := 77) rfl rfl rfl ?_
    refine pm_R_op pm_M192 (pc' := 78) (st' := [.int (-1), .int 0]) rfl rfl rfl ?_
    refine pm_R_br pm_M192 (pc' := 86) (st' := []) rfl rfl ?_
    refine pm_R_lo pm_M192 (pc' := 87) rfl rfl rfl ?_
    refine rf_R_get pm_M192 T (pc' := 90) (v := .ref 51) rfl rfl rfl rfl ?_
    refine pm_R_op pm_M192 (pc' := 91) (st' := [.int 0, .ref 51]) rfl rfl rfl ?_
    refine pm_R_iald pm_M192 (pc' := 92) (v := (f2 0)) rfl e3 (Nat.lt_of_lt_of_le (by decide) T.1) rfl rfl rfl ?_
    refine pm_R_op pm_M192 (pc' := 94) (st' := [.int 8, .int (f2 0)]) rfl rfl rfl ?_
    refine pm_R_icmp pm_M192 (t := 103) (pc' := 97) rfl rfl rfl (fun c3534 => ?_) (fun c3534 => ?_)
    · have B3535 : sf_B 0 7 (f2 0) := sf_neH0 c3534 sf_k8 ct4
      refine pm_R_lo pm_M192 (pc' := 104) rfl rfl rfl ?_
      refine pm_R_cv pm_M192 (pc' := 107) (a := 41) (ra := []) (rest := []) (ls' := [.ref 41, pm_no, pm_no]) rfl rfl (Or.inl rfl) pm_M179 T.2.1 rfl (by decide) (Nat.lt_of_lt_of_le (by decide) T.1) rfl rfl (Nat.le_of_ble_eq_true rfl) rfl rfl ?_
      refine rf_c179 (d := d + 1) T  (fun m3538 w3539 h3540 T3541 F3542 W3543 X3544 X3545 => ?_)
      have F3546 := (rf_G.refl [41, 51, 52] h).trans F3542 (by decide)
      have B3547 : sf_B 0 4 (m3538 17) := by rw [W3543 17 (by decide)]; exact B6
      have ek3548 : (m3538 17).toInt = ((m 17)).toInt := by rw [W3543 17 (by decide)]
      have W3549 : rf_W [10, 12, 13, 14, 16, 17, 18, 22] m m3538 := (rf_W.refl [10, 12, 13, 14, 16, 17, 18, 22] m).trans W3543 (by decide)
      show pm_R _ 192 107 [.ref 41, .long a0, pm_no, .int a1, .int 0] [] _ _
      refine pm_R_lo pm_M192 (pc' := 108) rfl rfl rfl ?_
      refine pm_R_cv pm_M192 (pc' := 111) (a := 41) (ra := []) (rest := []) (ls' := [.ref 41, pm_no]) rfl rfl (Or.inl rfl) pm_M190 T3541.2.1 rfl (by decide) (Nat.lt_of_lt_of_le (by decide) T3541.1) rfl rfl (Nat.le_of_ble_eq_true rfl) rfl rfl ?_
      refine pm_R_op pm_M190 (pc' := 1) (st' := [.int 0]) rfl rfl rfl ?_
      refine pm_R_lo pm_M190 (pc' := 2) (ls' := [.ref 41, .int 0]) (st' := []) rfl rfl rfl ?_
      refine pm_R_lo pm_M190 (pc' := 3) rfl rfl rfl ?_
      refine pm_R_op pm_M190 (pc' := 4) (st' := [.int 4, .int 0]) rfl rfl rfl ?_
      refine pm_R_br pm_M190 (pc' := 7) (st' := []) rfl rfl ?_
      refine pm_R_lo pm_M190 (pc' := 8) rfl rfl rfl ?_
      refine rf_R_get pm_M190 T3541 (pc' := 11) (v := .ref 52) rfl rfl rfl rfl ?_
      refine pm_R_lo pm_M190 (pc' := 12) rfl rfl rfl ?_
      refine pm_R_op pm_M190 (pc' := 13) (st' := [.int (-1), .int 0, .ref 52]) rfl rfl rfl ?_
      obtain ⟨f3550, e3551, b3552⟩ := T3541.2.2.2.1 52 (by decide) (by decide)
      refine rf_R_ist pm_M190 T3541 (pc' := 14) rfl e3551 (by decide) (by decide) rfl ⟨_, rfl, sf_upd b3552 (sf_weak sf_kn1 (by decide) (by decide)) _⟩ rfl (fun h3553 T3554 F3555 e3556 => ?_)
      have F3557 := F3546.trans F3555 (by decide)
      refine pm_R_lo pm_M190 (pc' := 17) (ls' := [.ref 41, .int 1]) (st' := []) rfl rfl rfl ?_
      refine pm_R_br pm_M190 (pc' := 2) rfl rfl ?_
      refine pm_R_lo pm_M190 (pc' := 3) rfl rfl rfl ?_
      refine pm_R_op pm_M190 (pc' := 4) (st' := [.int 4, .int 1]) rfl rfl rfl ?_
      refine pm_R_br pm_M190 (pc' := 7) (st' := []) rfl rfl ?_
      refine pm_R_lo pm_M190 (pc' := 8) rfl rfl rfl ?_
      refine rf_R_get pm_M190 T3554 (pc' := 11) (v := .ref 52) rfl rfl rfl rfl ?_
      refine pm_R_lo pm_M190 (pc' := 12) rfl rfl rfl ?_
      refine pm_R_op pm_M190 (pc' := 13) (st' := [.int (-1), .int 1, .ref 52]) rfl rfl rfl ?_
      refine rf_R_ist pm_M190 T3554 (pc' := 14) rfl e3556 (by decide) (by decide) rfl ⟨_, rfl, sf_upd (sf_upd b3552 (sf_weak sf_kn1 (by decide) (by decide)) _) (sf_weak sf_kn1 (by decide) (by decide)) _⟩ rfl (fun h3558 T3559 F3560 e3561 => ?_)
      have F3562 := F3557.trans F3560 (by decide)
      refine pm_R_lo pm_M190 (pc' := 17) (ls' := [.ref 41, .int 2]) (st' := []) rfl rfl rfl ?_
      refine pm_R_br pm_M190 (pc' := 2) rfl rfl ?_
      refine pm_R_lo pm_M190 (pc' := 3) rfl rfl rfl ?_
      refine pm_R_op pm_M190 (pc' := 4) (st' := [.int 4, .int 2]) rfl rfl rfl ?_
      refine pm_R_br pm_M190 (pc' := 7) (st' := []) rfl rfl ?_
      refine pm_R_lo pm_M190 (pc' := 8) rfl rfl rfl ?_
      refine rf_R_get pm_M190 T3559 (pc' := 11) (v := .ref 52) rfl rfl rfl rfl ?_
      refine pm_R_lo pm_M190 (pc' := 12) rfl rfl rfl ?_
      refine pm_R_op pm_M190 (pc' := 13) (st' := [.int (-1), .int 2, .ref 52]) rfl rfl rfl ?_
      refine rf_R_ist pm_M190 T3559 (pc' := 14) rfl e3561 (by decide) (by decide) rfl ⟨_, rfl, sf_upd (sf_upd (sf_upd b3552 (sf_weak sf_kn1 (by decide) (by decide)) _) (sf_weak sf_kn1 (by decide) (by decide)) _) (sf_weak sf_kn1 (by decide) (by decide)) _⟩ rfl (fun h3563 T3564 F3565 e3566 => ?_)
      have F3567 := F3562.trans F3565 (by decide)
      refine pm_R_lo pm_M190 (pc' := 17) (ls' := [.ref 41, .int 3]) (st' := []) rfl rfl rfl ?_
      refine pm_R_br pm_M190 (pc' := 2) rfl rfl ?_
      refine pm_R_lo pm_M190 (pc' := 3) rfl rfl rfl ?_
      refine pm_R_op pm_M190 (pc' := 4) (st' := [.int 4, .int 3]) rfl rfl rfl ?_
      refine pm_R_br pm_M190 (pc' := 7) (st' := []) rfl rfl ?_
      refine pm_R_lo pm_M190 (pc' := 8) rfl rfl rfl ?_
      refine rf_R_get pm_M190 T3564 (pc' := 11) (v := .ref 52) rfl rfl rfl rfl ?_
      refine pm_R_lo pm_M190 (pc' := 12) rfl rfl rfl ?_
      refine pm_R_op pm_M190 (pc' := 13) (st' := [.int (-1), .int 3, .ref 52]) rfl rfl rfl ?_
      refine rf_R_ist pm_M190 T3564 (pc' := 14) rfl e3566 (by decide) (by decide) rfl ⟨_, rfl, sf_upd (sf_upd (sf_upd (sf_upd b3552 (sf_weak sf_kn1 (by decide) (by decide)) _) (sf_weak sf_kn1 (by decide) (by decide)) _) (sf_weak sf_kn1 (by decide) (by decide)) _) (sf_weak sf_kn1 (by decide) (by decide)) _⟩ rfl (fun h3568 T3569 F3570 e3571 => ?_)
      have F3572 := F3567.trans F3570 (by decide)
      refine pm_R_lo pm_M190 (pc' := 17) (ls' := [.ref 41, .int 4]) (st' := []) rfl rfl rfl ?_
      refine pm_R_br pm_M190 (pc' := 2) rfl rfl ?_
      refine pm_R_lo pm_M190 (pc' := 3) rfl rfl rfl ?_
      refine pm_R_op pm_M190 (pc' := 4) (st' := [.int 4, .int 4]) rfl rfl rfl ?_
      refine pm_R_br pm_M190 (pc' := 20) (st' := []) rfl rfl ?_
      refine pm_R_ret pm_M190 (r := none) rfl rfl ?_
      show pm_R _ 192 111 [.ref 41, .long a0, pm_no, .int a1, .int 0] [] _ _
      refine pm_R_lo pm_M192 (pc' := 112) rfl rfl rfl ?_
      refine rf_R_get pm_M192 T3569 (pc' := 115) (v := .ref 52) rfl rfl rfl rfl ?_
      refine pm_R_op pm_M192 (pc' := 116) (st' := [.int 0, .ref 52]) (pm_q192_1 (Nat.le_of_ble_eq_true rfl)) rfl rfl ?_
      refine pm_R_lo pm_M192 (pc' := 118) (pm_q192_1 (Nat.le_of_ble_eq_true rfl)) rfl rfl ?_
      refine rf_R_ist pm_M192 T3569 (pc' := 119) (pm_q192_1 (Nat.le_of_ble_eq_true rfl)) e3571 (by decide) (by decide) rfl ⟨_, rfl, sf_upd (sf_upd (sf_upd (sf_upd (sf_upd b3552 (sf_weak sf_kn1 (by decide) (by decide)) _) (sf_weak sf_kn1 (by decide) (by decide)) _) (sf_weak sf_kn1 (by decide) (by decide)) _) (sf_weak sf_kn1 (by decide) (by decide)) _) (sf_weak sf_k0 (by decide) (by decide)) _⟩ rfl (fun h3573 T3574 F3575 e3576 => ?_)
      have F3577 := F3572.trans F3575 (by decide)
      refine pm_R_lo pm_M192 (pc' := 120) (pm_q192_1 (Nat.le_of_ble_eq_true rfl)) rfl rfl ?_
      refine pm_R_op pm_M192 (pc' := 121) (st' := [.int 1, .ref 41]) (pm_q192_1 (Nat.le_of_ble_eq_true rfl)) rfl rfl ?_
      refine pm_R_op pm_M192 (pc' := 123) (st' := [.int 9, .int 1, .ref 41]) (pm_q192_1 (Nat.le_of_ble_eq_true rfl)) rfl rfl ?_
      refine pm_R_op pm_M192 (pc' := 124) (st' := [.int (-1), .int 9, .int 1, .ref 41]) (pm_q192_1 (Nat.le_of_ble_eq_true rfl)) rfl rfl ?_
      refine pm_R_cv pm_M192 (pc' := 127) (a := 41) (ra := [.int (-1), .int 9, .int 1]) (rest := []) (ls' := [.ref 41, .int 1, .int 9, .int (-1)]) (pm_q192_1 (Nat.le_of_ble_eq_true rfl)) rfl (Or.inl rfl) pm_M183 T3574.2.1 rfl (by decide) (Nat.lt_of_lt_of_le (by decide) T3574.1) rfl rfl (Nat.le_of_ble_eq_true rfl) rfl rfl ?_
      refine pm_R_lo pm_M183 (pc' := 1) rfl rfl rfl ?_
      have B3578 : sf_B 0 4 (m3538 13) := T3574.2.2.1 13
      refine rf_R_get pm_M183 T3574 (pc' := 4) (v := .int (m3538 13)) rfl rfl rfl rfl ?_
      refine pm_R_op pm_M183 (pc' := 5) (st' := [.int 3, .int (m3538 13)]) rfl rfl rfl ?_
      refine pm_R_icmp pm_M183 (t := 13) (pc' := 8) rfl rfl rfl (fun c3579 => ?_) (fun c3579 => ?_)
      · have B3580 : sf_B 3 3 (m3538 13) := sf_eqL c3579 sf_k3
        refine pm_R_lo pm_M183 (pc' := 14) rfl rfl rfl ?_
        refine rf_R_get pm_M183 T3574 (pc' := 17) (v := .ref 52) rfl rfl rfl rfl ?_
        refine pm_R_lo pm_M183 (pc' := 18) rfl rfl rfl ?_
        refine pm_R_lo pm_M183 (pc' := 19) rfl rfl rfl ?_
        have B3581 : sf_B 0 99 (m3538 14) := T3574.2.2.1 14
        refine rf_R_get pm_M183 T3574 (pc' := 22) (v := .int (m3538 14)) rfl rfl rfl rfl ?_
        refine rf_R_ist pm_M183 T3574 (pc' := 23) rfl e3576 (by decide) (by decide) rfl ⟨_, rfl, sf_upd (sf_upd (sf_upd (sf_upd (sf_upd (sf_upd b3552 (sf_weak sf_kn1 (by decide) (by decide)) _) (sf_weak sf_kn1 (by decide) (by decide)) _) (sf_weak sf_kn1 (by decide) (by decide)) _) (sf_weak sf_kn1 (by decide) (by decide)) _) (sf_weak sf_k0 (by decide) (by decide)) _) (sf_weak B3581 (by decide) (by decide)) _⟩ rfl (fun h3582 T3583 F3584 e3585 => ?_)
        have F3586 := F3577.trans F3584 (by decide)
        refine pm_R_lo pm_M183 (pc' := 24) rfl rfl rfl ?_
        refine rf_R_get pm_M183 T3583 (pc' := 27) (v := .int (m3538 14)) rfl rfl rfl rfl ?_
        refine pm_R_lo pm_M183 (pc' := 28) rfl rfl rfl ?_
        refine pm_R_icmp pm_M183 (t := 39) (pc' := 31) rfl rfl rfl (fun c3587 => ?_) (fun c3587 => ?_)
        · have B3588 : sf_B 10 99 (m3538 14) := sf_ltR c3587 sf_k9 B3581
          refine pm_R_lo pm_M183 (pc' := 40) rfl rfl rfl ?_
          refine pm_R_op pm_M183 (pc' := 41) (st' := [.int 2, .ref 41]) rfl rfl rfl ?_
          refine pm_R_lo pm_M183 (pc' := 42) rfl rfl rfl ?_
          have B3589 : sf_B 0 600 (m3538 12) := T3583.2.2.1 12
          refine rf_R_get pm_M183 T3583 (pc' := 45) (v := .int (m3538 12)) rfl rfl rfl rfl ?_
          refine pm_R_cv pm_M183 (pc' := 48) (a := 41) (ra := [.int (m3538 12), .int 2]) (rest := []) (ls' := [.ref 41, .int 2, .int (m3538 12)]) rfl rfl (Or.inl rfl) pm_M182 T3583.2.1 rfl (by decide) (Nat.lt_of_lt_of_le (by decide) T3583.1) rfl rfl (Nat.le_of_ble_eq_true rfl) rfl rfl ?_
          refine rf_c182 (d := d + 1) T3583 (sf_weak sf_k2 (by decide) (by decide)) B3589 (fun m3592 w3593 h3594 T3595 F3596 W3597 B3598 => ?_)
          have F3599 := F3586.trans F3596 (by decide)
          have B3600 : sf_B 3 3 (m3592 13) := by rw [W3597 13 (by decide)]; exact B3580
          have B3601 : sf_B 10 99 (m3592 14) := by rw [W3597 14 (by decide)]; exact B3588
          have W3602 : rf_W [10, 12, 13, 14, 16, 17, 18, 22] m m3592 := W3549.trans W3597 (by decide)
          show pm_R _ 183 48 [.ref 41, .int 1, .int 9, .int (-1)] [] _ _
          refine pm_R_lo pm_M183 (pc' := 49) rfl rfl rfl ?_
          refine pm_R_op pm_M183 (pc' := 50) (st' := [.int 0, .ref 41]) rfl rfl rfl ?_
          refine rf_R_put pm_M183 T3595 (pc' := 53) rfl rfl rfl (by decide) rfl rfl (sf_weak sf_k0 (by decide) (by decide)) rfl rfl (fun h3603 m3606 em3607 T3604 F3605 => ?_)
          have F3608 := F3599.trans F3605 (by decide)
          have B3609 : sf_B 3 3 (m3606 13) := by rw [em3607]; exact B3600
          have B3610 : sf_B 10 99 (m3606 14) := by rw [em3607]; exact B3601
          have B3611 : sf_B 1 4 (m3606 17) := by rw [em3607]; exact B3598
          have ek3612 : (m3606 17).toInt = ((m3592 17)).toInt := by rw [em3607]; rfl
          have B3613 : sf_B 0 0 (m3606 22) := by rw [em3607]; exact sf_k0
          have W3615 : rf_W [10, 12, 13, 14, 16, 17, 18, 22] m m3606 := by rw [em3607]; exact W3602.put (by decide)
          refine pm_R_lo pm_M183 (pc' := 54) rfl rfl rfl ?_
          refine pm_R_cv pm_M183 (pc' := 57) (a := 41) (ra := []) (rest := []) (ls' := [.ref 41, pm_no, pm_no]) rfl rfl (Or.inl rfl) pm_M179 T3604.2.1 rfl (by decide) (Nat.lt_of_lt_of_le (by decide) T3604.1) rfl rfl (Nat.le_of_ble_eq_true rfl) rfl rfl ?_
          have B3616 : sf_B 0 600 (m3606 10) := T3604.2.2.1 10
          refine rf_c179 (d := d + 0) T3604  (fun m3619 w3620 h3621 T3622 F3623 W3624 X3625 X3626 => ?_)
          have F3627 := F3608.trans F3623 (by decide)
          have B3628 : sf_B 1 4 (m3619 17) := by rw [W3624 17 (by decide)]; exact B3611
          have ek3629 : (m3619 17).toInt = ((m3592 17)).toInt := by rw [W3624 17 (by decide)]; exact ek3612
          have B3630 : sf_B 0 0 (m3619 22) := by rw [W3624 22 (by decide)]; exact B3613
          have W3631 : rf_W [10, 12, 13, 14, 16, 17, 18, 22] m m3619 := W3615.trans W3624 (by decide)
          show pm_R _ 183 57 [.ref 41, .int 1, .int 9, .int (-1)] [] _ _
          refine pm_R_op pm_M183 (pc' := 58) (st' := [.int 1]) rfl rfl rfl ?_
          refine pm_R_ret pm_M183 (r := some (.int 1)) rfl rfl ?_
          show pm_R _ 192 127 [.ref 41, .long a0, pm_no, .int a1, .int 0] [.int 1] _ _
          refine pm_R_br pm_M192 (pc' := 132) (st' := []) (pm_q192_1 (Nat.le_of_ble_eq_true rfl)) rfl ?_
          refine pm_R_lo pm_M192 (pc' := 134) (pm_q192_1 (Nat.le_of_ble_eq_true rfl)) rfl rfl ?_
          refine pm_R_op pm_M192 (pc' := 135) (st' := [.int 1, .int 0]) (pm_q192_1 (Nat.le_of_ble_eq_true rfl)) rfl rfl ?_
          refine pm_R_br pm_M192 (pc' := 138) (st' := []) (pm_q192_1 (Nat.le_of_ble_eq_true rfl)) rfl ?_
          refine pm_R_lo pm_M192 (pc' := 140) (pm_q192_1 (Nat.le_of_ble_eq_true rfl)) rfl rfl ?_
          refine pm_R_op pm_M192 (pc' := 141) (st' := [.int 2, .int 0]) (pm_q192_1 (Nat.le_of_ble_eq_true rfl)) rfl rfl ?_
          refine pm_R_br pm_M192 (pc' := 144) (st' := []) (pm_q192_1 (Nat.le_of_ble_eq_true rfl)) rfl ?_
          refine pm_R_lo pm_M192 (pc' := 146) (pm_q192_1 (Nat.le_of_ble_eq_true rfl)) rfl rfl ?_
          refine pm_R_op pm_M192 (pc' := 147) (st' := [.int 3, .int 0]) (pm_q192_1 (Nat.le_of_ble_eq_true rfl)) rfl rfl ?_
          refine pm_R_br pm_M192 (pc' := 163) (st' := []) (pm_q192_1 (Nat.le_of_ble_eq_true rfl)) rfl ?_
          refine pm_R_lo pm_M192 (pc' := 164) (pm_q192_1 (Nat.le_of_ble_eq_true rfl)) rfl rfl ?_
          refine pm_R_op pm_M192 (pc' := 165) (st' := [.int 0, .ref 41]) (pm_q192_1 (Nat.le_of_ble_eq_true rfl)) rfl rfl ?_
          refine pm_R_op pm_M192 (pc' := 166) (st' := [.int 1, .int 0, .ref 41]) (pm_q192_1 (Nat.le_of_ble_eq_true rfl)) rfl rfl ?_
          refine pm_R_op pm_M192 (pc' := 167) (st' := [.int 3, .int 1, .int 0, .ref 41]) (pm_q192_1 (Nat.le_of_ble_eq_true rfl)) rfl rfl ?_
          refine pm_R_op pm_M192 (pc' := 169) (st' := [.int 8, .int 3, .int 1, .int 0, .ref 41]) (pm_q192_1 (Nat.le_of_ble_eq_true rfl)) rfl rfl ?_
          refine pm_R_op pm_M192 (pc' := 170) (st' := [.int 0, .int 8, .int 3, .int 1, .int 0, .ref 41]) (pm_q192_1 (Nat.le_of_ble_eq_true rfl)) rfl rfl ?_
          refine pm_R_cv pm_M192 (pc' := 173) (a := 41) (ra := [.int 0, .int 8, .int 3, .int 1, .int 0]) (rest := []) (ls' := [.ref 41, .int 0, .int 1, .int 3, .int 8, .int 0, pm_no, pm_no]) (pm_q192_1 (Nat.le_of_ble_eq_true rfl)) rfl (Or.inl rfl) pm_M185 T3622.2.1 rfl (by decide) (Nat.lt_of_lt_of_le (by decide) T3622.1) rfl rfl (Nat.le_of_ble_eq_true rfl) rfl rfl ?_
          refine pm_R_lo pm_M185 (pc' := 1) rfl rfl rfl ?_
          refine rf_R_get pm_M185 T3622 (pc' := 4) (v := .ref 51) rfl rfl rfl rfl ?_
          refine pm_R_lo pm_M185 (pc' := 5) rfl rfl rfl ?_
          have e3632 := (F3623.cell (by decide) (F3605.cell (by decide) (F3596.cell (by decide) (F3584.cell (by decide) (F3575.cell (by decide) (F3570.cell (by decide) (F3565.cell (by decide) (F3560.cell (by decide) (F3555.cell (by decide) (F3542.cell (by decide) e3))))))))))
          refine pm_R_iald pm_M185 (pc' := 6) (v := (f2 0)) rfl e3632 (Nat.lt_of_lt_of_le (by decide) T3622.1) rfl rfl rfl ?_
          refine pm_R_lo pm_M185 (pc' := 8) (ls' := [.ref 41, .int 0, .int 1, .int 3, .int 8, .int 0, .int (f2 0), pm_no]) (st' := []) rfl rfl rfl ?_
          refine pm_R_lo pm_M185 (pc' := 10) rfl rfl rfl ?_
          refine pm_R_lo pm_M185 (pc' := 12) rfl rfl rfl ?_
          refine pm_R_icmp pm_M185 (t := 16) (pc' := 15) rfl rfl rfl (fun c3635 => ?_) (fun c3635 => absurd (Classical.not_not.mp c3635) (sf_neq2 B3535 sf_k8 (by decide)))
          skip
          refine pm_R_op pm_M185 (pc' := 17) (st' := [.int 0]) rfl rfl rfl ?_
          refine pm_R_lo pm_M185 (pc' := 19) (ls' := [.ref 41, .int 0, .int 1, .int 3, .int 8, .int 0, .int (f2 0), .int 0]) (st' := []) rfl rfl rfl ?_
          refine pm_R_lo pm_M185 (pc' := 21) rfl rfl rfl ?_
          refine pm_R_lo pm_M185 (pc' := 22) rfl rfl rfl ?_
          refine pm_R_br pm_M185 (pc' := 25) (st' := []) rfl rfl ?_
          refine pm_R_lo pm_M185 (pc' := 26) rfl rfl rfl ?_
          refine rf_R_get pm_M185 T3622 (pc' := 29) (v := .ref 51) rfl rfl rfl rfl ?_
          refine pm_R_lo pm_M185 (pc' := 30) rfl rfl rfl ?_
          refine pm_R_lo pm_M185 (pc' := 31) rfl rfl rfl ?_
          refine pm_R_lo pm_M185 (pc' := 33) rfl rfl rfl ?_
          refine sf_R_imul pm_M185 (pc' := 34) rfl rfl sf_k3 B3535 (by decide) (by decide) (by decide) (fun z3636 e3637 B3638 => ?_)
          refine sf_R_iadd pm_M185 (pc' := 35) rfl rfl sf_k1 B3638 (by decide) (by decide) (fun z3639 e3640 B3641 => ?_)
          refine pm_R_lo pm_M185 (pc' := 37) rfl rfl rfl ?_
          refine sf_R_iadd pm_M185 (pc' := 38) rfl rfl B3641 sf_k0 (by decide) (by decide) (fun z3642 e3643 B3644 => ?_)
          refine pm_R_lo pm_M185 (pc' := 39) rfl rfl rfl ?_
          refine rf_R_get pm_M185 T3622 (pc' := 42) (v := .ref 52) rfl rfl rfl rfl ?_
          refine pm_R_lo pm_M185 (pc' := 44) rfl rfl rfl ?_
          refine pm_R_lo pm_M185 (pc' := 46) rfl rfl rfl ?_
          refine pm_R_op pm_M185 (pc' := 47) (st' := [.int 0, .ref 52, .int z3642, .ref 51]) rfl rfl rfl ?_
          have e3645 := (F3623.cell (by decide) (F3605.cell (by decide) (F3596.cell (by decide) e3585)))
          refine pm_R_iald pm_M185 (pc' := 48) (v := 0) rfl e3645 (Nat.lt_of_lt_of_le (by decide) T3622.1) rfl (Eq.trans (show (upd (upd (upd (upd (upd (upd f3550 (Int32.toNatClampNeg 0) (-1)) (Int32.toNatClampNeg 1) (-1)) (Int32.toNatClampNeg 2) (-1)) (Int32.toNatClampNeg 3) (-1)) (Int32.toNatClampNeg 0) 0) (Int32.toNatClampNeg 1) (m3538 14)) (Int32.toNatClampNeg 0) = (upd (upd (upd (upd (upd f3550 (Int32.toNatClampNeg 0) (-1)) (Int32.toNatClampNeg 1) (-1)) (Int32.toNatClampNeg 2) (-1)) (Int32.toNatClampNeg 3) (-1)) (Int32.toNatClampNeg 0) 0) (Int32.toNatClampNeg 0) from rfl) rfl) rfl ?_
          refine rf_R_ist pm_M185 T3622 (pc' := 49) rfl e3632 (by decide) (by decide) (sf_in B3644 (by decide) (by decide)) ⟨_, rfl⟩ rfl (fun h3648 T3649 F3650 e3651 => ?_)
          have F3652 := F3627.trans F3650 (by decide)
          have ct3653 : rf_ct 3 (upd f2 (Int32.toNatClampNeg z3642) 0) := (sf_eqL (Eq.trans (sf_upd_ne (j := Int32.toNatClampNeg 0) B3644 (by decide) (by decide)) rfl) (sf_weak B3535 (by decide) (by decide)))
          have bd3654 : (m3619 17).toInt = 0 → rf_bd 3 (upd f2 (Int32.toNatClampNeg z3642) 0) := fun z => (sf_pos B3628 (by decide) z)
          refine pm_R_lo pm_M185 (pc' := 52) (ls' := [.ref 41, .int 0, .int 1, .int 3, .int 8, .int 0, .int (f2 0), .int 1]) (st' := []) rfl rfl rfl ?_
          refine pm_R_br pm_M185 (pc' := 19) rfl rfl ?_
          refine pm_R_lo pm_M185 (pc' := 21) rfl rfl rfl ?_
          refine pm_R_lo pm_M185 (pc' := 22) rfl rfl rfl ?_
          refine pm_R_br pm_M185 (pc' := 25) (st' := []) rfl rfl ?_
          refine pm_R_lo pm_M185 (pc' := 26) rfl rfl rfl ?_
          refine rf_R_get pm_M185 T3649 (pc' := 29) (v := .ref 51) rfl rfl rfl rfl ?_
          refine pm_R_lo pm_M185 (pc' := 30) rfl rfl rfl ?_
          refine pm_R_lo pm_M185 (pc' := 31) rfl rfl rfl ?_
          refine pm_R_lo pm_M185 (pc' := 33) rfl rfl rfl ?_
          refine sf_R_imulV pm_M185 (pc' := 34) rfl rfl sf_k3 B3535 (by decide) (by decide) (by decide) e3637 ?_
          refine sf_R_iaddV pm_M185 (pc' := 35) rfl rfl sf_k1 B3638 (by decide) (by decide) e3640 ?_
          refine pm_R_lo pm_M185 (pc' := 37) rfl rfl rfl ?_
          refine sf_R_iadd pm_M185 (pc' := 38) rfl rfl B3641 sf_k1 (by decide) (by decide) (fun z3655 e3656 B3657 => ?_)
          refine pm_R_lo pm_M185 (pc' := 39) rfl rfl rfl ?_
          refine rf_R_get pm_M185 T3649 (pc' := 42) (v := .ref 52) rfl rfl rfl rfl ?_
          refine pm_R_lo pm_M185 (pc' := 44) rfl rfl rfl ?_
          refine pm_R_lo pm_M185 (pc' := 46) rfl rfl rfl ?_
          refine pm_R_op pm_M185 (pc' := 47) (st' := [.int 1, .ref 52, .int z3655, .ref 51]) rfl rfl rfl ?_
          have e3658 := (F3650.cell (by decide) e3645)
          refine pm_R_iald pm_M185 (pc' := 48) (v := (m3538 14)) rfl e3658 (Nat.lt_of_lt_of_le (by decide) T3649.1) rfl rfl rfl ?_
          refine rf_R_ist pm_M185 T3649 (pc' := 49) rfl e3651 (by decide) (by decide) (sf_in B3657 (by decide) (by decide)) ⟨_, rfl⟩ rfl (fun h3661 T3662 F3663 e3664 => ?_)
          have F3665 := F3652.trans F3663 (by decide)
          have ct3666 : rf_ct 3 (upd (upd f2 (Int32.toNatClampNeg z3642) 0) (Int32.toNatClampNeg z3655) (m3538 14)) := (sf_eqL (Eq.trans (sf_upd_ne (j := Int32.toNatClampNeg 0) B3657 (by decide) (by decide)) (Eq.trans (sf_upd_ne (j := Int32.toNatClampNeg 0) B3644 (by decide) (by decide)) rfl)) (sf_weak B3535 (by decide) (by decide)))
          have bd3667 : (m3619 17).toInt = 0 → rf_bd 3 (upd (upd f2 (Int32.toNatClampNeg z3642) 0) (Int32.toNatClampNeg z3655) (m3538 14)) := fun z => (sf_pos B3628 (by decide) z)
          refine pm_R_lo pm_M185 (pc' := 52) (ls' := [.ref 41, .int 0, .int 1, .int 3, .int 8, .int 0, .int (f2 0), .int 2]) (st' := []) rfl rfl rfl ?_
          refine pm_R_br pm_M185 (pc' := 19) rfl rfl ?_
          refine pm_R_lo pm_M185 (pc' := 21) rfl rfl rfl ?_
          refine pm_R_lo pm_M185 (pc' := 22) rfl rfl rfl ?_
          refine pm_R_br pm_M185 (pc' := 25) (st' := []) rfl rfl ?_
          refine pm_R_lo pm_M185 (pc' := 26) rfl rfl rfl ?_
          refine rf_R_get pm_M185 T3662 (pc' := 29) (v := .ref 51) rfl rfl rfl rfl ?_
          refine pm_R_lo pm_M185 (pc' := 30) rfl rfl rfl ?_
          refine pm_R_lo pm_M185 (pc' := 31) rfl rfl rfl ?_
          refine pm_R_lo pm_M185 (pc' := 33) rfl rfl rfl ?_
          refine sf_R_imulV pm_M185 (pc' := 34) rfl rfl sf_k3 B3535 (by decide) (by decide) (by decide) e3637 ?_
          refine sf_R_iaddV pm_M185 (pc' := 35) rfl rfl sf_k1 B3638 (by decide) (by decide) e3640 ?_
          refine pm_R_lo pm_M185 (pc' := 37) rfl rfl rfl ?_
          refine sf_R_iadd pm_M185 (pc' := 38) rfl rfl B3641 sf_k2 (by decide) (by decide) (fun z3668 e3669 B3670 => ?_)
          refine pm_R_lo pm_M185 (pc' := 39) rfl rfl rfl ?_
          refine rf_R_get pm_M185 T3662 (pc' := 42) (v := .ref 52) rfl rfl rfl rfl ?_
          refine pm_R_lo pm_M185 (pc' := 44) rfl rfl rfl ?_
          refine pm_R_lo pm_M185 (pc' := 46) rfl rfl rfl ?_
          refine pm_R_op pm_M185 (pc' := 47) (st' := [.int 2, .ref 52, .int z3668, .ref 51]) rfl rfl rfl ?_
          have e3671 := (F3663.cell (by decide) e3658)
          refine pm_R_iald pm_M185 (pc' := 48) (v := (-1)) rfl e3671 (Nat.lt_of_lt_of_le (by decide) T3662.1) rfl (Eq.trans (show (upd (upd (upd (upd (upd (upd f3550 (Int32.toNatClampNeg 0) (-1)) (Int32.toNatClampNeg 1) (-1)) (Int32.toNatClampNeg 2) (-1)) (Int32.toNatClampNeg 3) (-1)) (Int32.toNatClampNeg 0) 0) (Int32.toNatClampNeg 1) (m3538 14)) (Int32.toNatClampNeg 2) = (upd (upd (upd (upd (upd f3550 (Int32.toNatClampNeg 0) (-1)) (Int32.toNatClampNeg 1) (-1)) (Int32.toNatClampNeg 2) (-1)) (Int32.toNatClampNeg 3) (-1)) (Int32.toNatClampNeg 0) 0) (Int32.toNatClampNeg 2) from rfl) (Eq.trans (show (upd (upd (upd (upd (upd f3550 (Int32.toNatClampNeg 0) (-1)) (Int32.toNatClampNeg 1) (-1)) (Int32.toNatClampNeg 2) (-1)) (Int32.toNatClampNeg 3) (-1)) (Int32.toNatClampNeg 0) 0) (Int32.toNatClampNeg 2) = (upd (upd (upd (upd f3550 (Int32.toNatClampNeg 0) (-1)) (Int32.toNatClampNeg 1) (-1)) (Int32.toNatClampNeg 2) (-1)) (Int32.toNatClampNeg 3) (-1)) (Int32.toNatClampNeg 2) from rfl) (Eq.trans (show (upd (upd (upd (upd f3550 (Int32.toNatClampNeg 0) (-1)) (Int32.toNatClampNeg 1) (-1)) (Int32.toNatClampNeg 2) (-1)) (Int32.toNatClampNeg 3) (-1)) (Int32.toNatClampNeg 2) = (upd (upd (upd f3550 (Int32.toNatClampNeg 0) (-1)) (Int32.toNatClampNeg 1) (-1)) (Int32.toNatClampNeg 2) (-1)) (Int32.toNatClampNeg 2) from rfl) rfl))) rfl ?_
          refine rf_R_ist pm_M185 T3662 (pc' := 49) rfl e3664 (by decide) (by decide) (sf_in B3670 (by decide) (by decide)) ⟨_, rfl⟩ rfl (fun h3674 T3675 F3676 e3677 => ?_)
          have F3678 := F3665.trans F3676 (by decide)
          have ct3679 : rf_ct 3 (upd (upd (upd f2 (Int32.toNatClampNeg z3642) 0) (Int32.toNatClampNeg z3655) (m3538 14)) (Int32.toNatClampNeg z3668) (-1)) := (sf_eqL (Eq.trans (sf_upd_ne (j := Int32.toNatClampNeg 0) B3670 (by decide) (by decide)) (Eq.trans (sf_upd_ne (j := Int32.toNatClampNeg 0) B3657 (by decide) (by decide)) (Eq.trans (sf_upd_ne (j := Int32.toNatClampNeg 0) B3644 (by decide) (by decide)) rfl))) (sf_weak B3535 (by decide) (by decide)))
          have bd3680 : (m3619 17).toInt = 0 → rf_bd 3 (upd (upd (upd f2 (Int32.toNatClampNeg z3642) 0) (Int32.toNatClampNeg z3655) (m3538 14)) (Int32.toNatClampNeg z3668) (-1)) := fun z => (sf_pos B3628 (by decide) z)
          refine pm_R_lo pm_M185 (pc' := 52) (ls' := [.ref 41, .int 0, .int 1, .int 3, .int 8, .int 0, .int (f2 0), .int 3]) (st' := []) rfl rfl rfl ?_
          refine pm_R_br pm_M185 (pc' := 19) rfl rfl ?_
          refine pm_R_lo pm_M185 (pc' := 21) rfl rfl rfl ?_
          refine pm_R_lo pm_M185 (pc' := 22) rfl rfl rfl ?_
          refine pm_R_br pm_M185 (pc' := 55) (st' := []) rfl rfl ?_
          refine pm_R_lo pm_M185 (pc' := 56) rfl rfl rfl ?_
          refine rf_R_get pm_M185 T3675 (pc' := 59) (v := .ref 51) rfl rfl rfl rfl ?_
          refine pm_R_lo pm_M185 (pc' := 60) rfl rfl rfl ?_
          refine pm_R_op pm_M185 (pc' := 61) (st' := [.int 0, .ref 51, .int 0, .ref 51]) rfl rfl rfl ?_
          refine pm_R_iald pm_M185 (pc' := 62) (v := (f2 0)) rfl e3677 (Nat.lt_of_lt_of_le (by decide) T3675.1) rfl (Eq.trans (sf_upd_ne (j := Int32.toNatClampNeg 0) B3670 (by decide) (by decide)) (Eq.trans (sf_upd_ne (j := Int32.toNatClampNeg 0) B3657 (by decide) (by decide)) (Eq.trans (sf_upd_ne (j := Int32.toNatClampNeg 0) B3644 (by decide) (by decide)) rfl))) rfl ?_
          refine pm_R_op pm_M185 (pc' := 63) (st' := [.int 1, .int (f2 0), .int 0, .ref 51]) rfl rfl rfl ?_
          refine sf_R_iadd pm_M185 (pc' := 64) rfl rfl B3535 sf_k1 (by decide) (by decide) (fun z3683 e3684 B3685 => ?_)
          refine rf_R_ist pm_M185 T3675 (pc' := 65) rfl e3677 (by decide) (by decide) rfl ⟨_, rfl⟩ rfl (fun h3686 T3687 F3688 e3689 => ?_)
          have F3690 := F3678.trans F3688 (by decide)
          have ct3691 : rf_ct 3 (upd (upd (upd (upd f2 (Int32.toNatClampNeg z3642) 0) (Int32.toNatClampNeg z3655) (m3538 14)) (Int32.toNatClampNeg z3668) (-1)) (Int32.toNatClampNeg 0) z3683) := (sf_eqL rfl (sf_weak B3685 (by decide) (by decide)))
          have bd3692 : (m3619 17).toInt = 0 → rf_bd 3 (upd (upd (upd (upd f2 (Int32.toNatClampNeg z3642) 0) (Int32.toNatClampNeg z3655) (m3538 14)) (Int32.toNatClampNeg z3668) (-1)) (Int32.toNatClampNeg 0) z3683) := fun z => (sf_pos B3628 (by decide) z)
          refine pm_R_ret pm_M185 (r := none) rfl rfl ?_
          show pm_R _ 192 173 [.ref 41, .long a0, pm_no, .int a1, .int 0] [] _ _
          refine pm_R_op pm_M192 (pc' := 174) (st' := [.int 1]) (pm_q192_1 (Nat.le_of_ble_eq_true rfl)) rfl rfl ?_
          have B3693 : sf_B 0 600 (m3619 10) := T3687.2.2.1 10
          exact pm_R_ret pm_M192 (r := some (.int 1)) (pm_q192_1 (Nat.le_of_ble_eq_true rfl)) rfl (K1 m3619 w3620 h3686 T3687 F3690 W3631 (⟨(upd (upd (upd (upd f2 (Int32.toNatClampNeg z3642) 0) (Int32.toNatClampNeg z3655) (m3538 14)) (Int32.toNatClampNeg z3668) (-1)) (Int32.toNatClampNeg 0) z3683), e3689, ct3691, fun z => (sf_pos B3628 (by decide) z)⟩) (sf_aux115 _ _ _ _ X3544 X3625))
        · have B3694 : sf_B 0 9 (m3538 14) := sf_leL (Int32.not_lt.mp c3587) B3581 sf_k9
          refine pm_R_lo pm_M183 (pc' := 32) rfl rfl rfl ?_
          refine rf_R_get pm_M183 T3583 (pc' := 35) (v := .int (m3538 14)) rfl rfl rfl rfl ?_
          refine pm_R_lo pm_M183 (pc' := 36) rfl rfl rfl ?_
          refine pm_R_icmp pm_M183 (t := 53) (pc' := 39) rfl rfl rfl (fun c3695 => ?_) (fun c3695 => absurd (Classical.not_not.mp c3695) (sf_neq1 B3694 sf_kn1 (by decide)))
          skip
          refine pm_R_lo pm_M183 (pc' := 54) rfl rfl rfl ?_
          refine pm_R_cv pm_M183 (pc' := 57) (a := 41) (ra := []) (rest := []) (ls' := [.ref 41, pm_no, pm_no]) rfl rfl (Or.inl rfl) pm_M179 T3583.2.1 rfl (by decide) (Nat.lt_of_lt_of_le (by decide) T3583.1) rfl rfl (Nat.le_of_ble_eq_true rfl) rfl rfl ?_
          have B3696 : sf_B 0 600 (m3538 10) := T3583.2.2.1 10
          refine rf_c179 (d := d + 0) T3583  (fun m3699 w3700 h3701 T3702 F3703 W3704 X3705 X3706 => ?_)
          have F3707 := F3586.trans F3703 (by decide)
          have B3708 : sf_B 0 4 (m3699 17) := by rw [W3704 17 (by decide)]; exact B3547
          have ek3709 : (m3699 17).toInt = ((m 17)).toInt := by rw [W3704 17 (by decide)]; exact ek3548
          have W3710 : rf_W [10, 12, 13, 14, 16, 17, 18, 22] m m3699 := W3549.trans W3704 (by decide)
          show pm_R _ 183 57 [.ref 41, .int 1, .int 9, .int (-1)] [] _ _
          refine pm_R_op pm_M183 (pc' := 58) (st' := [.int 1]) rfl rfl rfl ?_
          refine pm_R_ret pm_M183 (r := some (.int 1)) rfl rfl ?_
          show pm_R _ 192 127 [.ref 41, .long a0, pm_no, .int a1, .int 0] [.int 1] _ _
          refine pm_R_br pm_M192 (pc' := 132) (st' := []) (pm_q192_1 (Nat.le_of_ble_eq_true rfl)) rfl ?_
          refine pm_R_lo pm_M192 (pc' := 134) (pm_q192_1 (Nat.le_of_ble_eq_true rfl)) rfl rfl ?_
          refine pm_R_op pm_M192 (pc' := 135) (st' := [.int 1, .int 0]) (pm_q192_1 (Nat.le_of_ble_eq_true rfl)) rfl rfl ?_
          refine pm_R_br pm_M192 (pc' := 138) (st' := []) (pm_q192_1 (Nat.le_of_ble_eq_true rfl)) rfl ?_
          refine pm_R_lo pm_M192 (pc' := 140) (pm_q192_1 (Nat.le_of_ble_eq_true rfl)) rfl rfl ?_
          refine pm_R_op pm_M192 (pc' := 141) (st' := [.int 2, .int 0]) (pm_q192_1 (Nat.le_of_ble_eq_true rfl)) rfl rfl ?_
          refine pm_R_br pm_M192 (pc' := 144) (st' := []) (pm_q192_1 (Nat.le_of_ble_eq_true rfl)) rfl ?_
          refine pm_R_lo pm_M192 (pc' := 146) (pm_q192_1 (Nat.le_of_ble_eq_true rfl)) rfl rfl ?_
          refine pm_R_op pm_M192 (pc' := 147) (st' := [.int 3, .int 0]) (pm_q192_1 (Nat.le_of_ble_eq_true rfl)) rfl rfl ?_
          refine pm_R_br pm_M192 (pc' := 163) (st' := []) (pm_q192_1 (Nat.le_of_ble_eq_true rfl)) rfl ?_
          refine pm_R_lo pm_M192 (pc' := 164) (pm_q192_1 (Nat.le_of_ble_eq_true rfl)) rfl rfl ?_
          refine pm_R_op pm_M192 (pc' := 165) (st' := [.int 0, .ref 41]) (pm_q192_1 (Nat.le_of_ble_eq_true rfl)) rfl rfl ?_
          refine pm_R_op pm_M192 (pc' := 166) (st' := [.int 1, .int 0, .ref 41]) (pm_q192_1 (Nat.le_of_ble_eq_true rfl)) rfl rfl ?_
          refine pm_R_op pm_M192 (pc' := 167) (st' := [.int 3, .int 1, .int 0, .ref 41]) (pm_q192_1 (Nat.le_of_ble_eq_true rfl)) rfl rfl ?_
          refine pm_R_op pm_M192 (pc' := 169) (st' := [.int 8, .int 3, .int 1, .int 0, .ref 41]) (pm_q192_1 (Nat.le_of_ble_eq_true rfl)) rfl rfl ?_
          refine pm_R_op pm_M192 (pc' := 170) (st' := [.int 0, .int 8, .int 3, .int 1, .int 0, .ref 41]) (pm_q192_1 (Nat.le_of_ble_eq_true rfl)) rfl rfl ?_
          refine pm_R_cv pm_M192 (pc' := 173) (a := 41) (ra := [.int 0, .int 8, .int 3, .int 1, .int 0]) (rest := []) (ls' := [.ref 41, .int 0, .int 1, .int 3, .int 8, .int 0, pm_no, pm_no]) (pm_q192_1 (Nat.le_of_ble_eq_true rfl)) rfl (Or.inl rfl) pm_M185 T3702.2.1 rfl (by decide) (Nat.lt_of_lt_of_le (by decide) T3702.1) rfl rfl (Nat.le_of_ble_eq_true rfl) rfl rfl ?_
          refine pm_R_lo pm_M185 (pc' := 1) rfl rfl rfl ?_
          refine rf_R_get pm_M185 T3702 (pc' := 4) (v := .ref 51) rfl rfl rfl rfl ?_
          refine pm_R_lo pm_M185 (pc' := 5) rfl rfl rfl ?_
          have e3711 := (F3703.cell (by decide) (F3584.cell (by decide) (F3575.cell (by decide) (F3570.cell (by decide) (F3565.cell (by decide) (F3560.cell (by decide) (F3555.cell (by decide) (F3542.cell (by decide) e3))))))))
          refine pm_R_iald pm_M185 (pc' := 6) (v := (f2 0)) rfl e3711 (Nat.lt_of_lt_of_le (by decide) T3702.1) rfl rfl rfl ?_
          refine pm_R_lo pm_M185 (pc' := 8) (ls' := [.ref 41, .int 0, .int 1, .int 3, .int 8, .int 0, .int (f2 0), pm_no]) (st' := []) rfl rfl rfl ?_
          refine pm_R_lo pm_M185 (pc' := 10) rfl rfl rfl ?_
          refine pm_R_lo pm_M185 (pc' := 12) rfl rfl rfl ?_
          refine pm_R_icmp pm_M185 (t := 16) (pc' := 15) rfl rfl rfl (fun c3714 => ?_) (fun c3714 => absurd (Classical.not_not.mp c3714) (sf_neq2 B3535 sf_k8 (by decide)))
          skip
          refine pm_R_op pm_M185 (pc' := 17) (st' := [.int 0]) rfl rfl rfl ?_
          refine pm_R_lo pm_M185 (pc' := 19) (ls' := [.ref 41, .int 0, .int 1, .int 3, .int 8, .int 0, .int (f2 0), .int 0]) (st' := []) rfl rfl rfl ?_
          refine pm_R_lo pm_M185 (pc' := 21) rfl rfl rfl ?_
          refine pm_R_lo pm_M185 (pc' := 22) rfl rfl rfl ?_
          refine pm_R_br pm_M185 (pc' := 25) (st' := []) rfl rfl ?_
          refine pm_R_lo pm_M185 (pc' := 26) rfl rfl rfl ?_
          refine rf_R_get pm_M185 T3702 (pc' := 29) (v := .ref 51) rfl rfl rfl rfl ?_
          refine pm_R_lo pm_M185 (pc' := 30) rfl rfl rfl ?_
          refine pm_R_lo pm_M185 (pc' := 31) rfl rfl rfl ?_
          refine pm_R_lo pm_M185 (pc' := 33) rfl rfl rfl ?_
          refine sf_R_imul pm_M185 (pc' := 34) rfl rfl sf_k3 B3535 (by decide) (by decide) (by decide) (fun z3715 e3716 B3717 => ?_)
          refine sf_R_iadd pm_M185 (pc' := 35) rfl rfl sf_k1 B3717 (by decide) (by decide) (fun z3718 e3719 B3720 => ?_)
          refine pm_R_lo pm_M185 (pc' := 37) rfl rfl rfl ?_
          refine sf_R_iadd pm_M185 (pc' := 38) rfl rfl B3720 sf_k0 (by decide) (by decide) (fun z3721 e3722 B3723 => ?_)
          refine pm_R_lo pm_M185 (pc' := 39) rfl rfl rfl ?_
          refine rf_R_get pm_M185 T3702 (pc' := 42) (v := .ref 52) rfl rfl rfl rfl ?_
          refine pm_R_lo pm_M185 (pc' := 44) rfl rfl rfl ?_
          refine pm_R_lo pm_M185 (pc' := 46) rfl rfl rfl ?_
          refine pm_R_op pm_M185 (pc' := 47) (st' := [.int 0, .ref 52, .int z3721, .ref 51]) rfl rfl rfl ?_
          have e3724 := (F3703.cell (by decide) e3585)
          refine pm_R_iald pm_M185 (pc' := 48) (v := 0) rfl e3724 (Nat.lt_of_lt_of_le (by decide) T3702.1) rfl (Eq.trans (show (upd (upd (upd (upd (upd (upd f3550 (Int32.toNatClampNeg 0) (-1)) (Int32.toNatClampNeg 1) (-1)) (Int32.toNatClampNeg 2) (-1)) (Int32.toNatClampNeg 3) (-1)) (Int32.toNatClampNeg 0) 0) (Int32.toNatClampNeg 1) (m3538 14)) (Int32.toNatClampNeg 0) = (upd (upd (upd (upd (upd f3550 (Int32.toNatClampNeg 0) (-1)) (Int32.toNatClampNeg 1) (-1)) (Int32.toNatClampNeg 2) (-1)) (Int32.toNatClampNeg 3) (-1)) (Int32.toNatClampNeg 0) 0) (Int32.toNatClampNeg 0) from rfl) rfl) rfl ?_
          refine rf_R_ist pm_M185 T3702 (pc' := 49) rfl e3711 (by decide) (by decide) (sf_in B3723 (by decide) (by decide)) ⟨_, rfl⟩ rfl (fun h3727 T3728 F3729 e3730 => ?_)
          have F3731 := F3707.trans F3729 (by decide)
          have w3732 := rf_w3s (sf_aux119 _ _ _ _ e3716 e3719 e3722) B3535
          have ct3733 : rf_ct 3 (upd f2 (Int32.toNatClampNeg z3721) 0) := (sf_eqL (Eq.trans (sf_upd_ne (j := Int32.toNatClampNeg 0) B3723 (by decide) (by decide)) rfl) (sf_weak B3535 (by decide) (by decide)))
          have bd3734 : (m3699 17).toInt = 0 → rf_bd 3 (upd f2 (Int32.toNatClampNeg z3721) 0) := fun z => ((bd5 (sf_aux53 _ _ ek3709 z)).set (k := z3721) (sf_weak sf_k0 (by decide) (by decide)) w3732.1 w3732.2)
          refine pm_R_lo pm_M185 (pc' := 52) (ls' := [.ref 41, .int 0, .int 1, .int 3, .int 8, .int 0, .int (f2 0), .int 1]) (st' := []) rfl rfl rfl ?_
          refine pm_R_br pm_M185 (pc' := 19) rfl rfl ?_
          refine pm_R_lo pm_M185 (pc' := 21) rfl rfl rfl ?_
          refine pm_R_lo pm_M185 (pc' := 22) rfl rfl rfl ?_
          refine pm_R_br pm_M185 (pc' := 25) (st' := []) rfl rfl ?_
          refine pm_R_lo pm_M185 (pc' := 26) rfl rfl rfl ?_
          refine rf_R_get pm_M185 T3728 (pc' := 29) (v := .ref 51) rfl rfl rfl rfl ?_
          refine pm_R_lo pm_M185 (pc' := 30) rfl rfl rfl ?_
          refine pm_R_lo pm_M185 (pc' := 31) rfl rfl rfl ?_
          refine pm_R_lo pm_M185 (pc' := 33) rfl rfl rfl ?_
          refine sf_R_imulV pm_M185 (pc' := 34) rfl rfl sf_k3 B3535 (by decide) (by decide) (by decide) e3716 ?_
          refine sf_R_iaddV pm_M185 (pc' := 35) rfl rfl sf_k1 B3717 (by decide) (by decide) e3719 ?_
          refine pm_R_lo pm_M185 (pc' := 37) rfl rfl rfl ?_
          refine sf_R_iadd pm_M185 (pc' := 38) rfl rfl B3720 sf_k1 (by decide) (by decide) (fun z3735 e3736 B3737 => ?_)
          refine pm_R_lo pm_M185 (pc' := 39) rfl rfl rfl ?_
          refine rf_R_get pm_M185 T3728 (pc' := 42) (v := .ref 52) rfl rfl rfl rfl ?_
          refine pm_R_lo pm_M185 (pc' := 44) rfl rfl rfl ?_
          refine pm_R_lo pm_M185 (pc' := 46) rfl rfl rfl ?_
          refine pm_R_op pm_M185 (pc' := 47) (st' := [.int 1, .ref 52, .int z3735, .ref 51]) rfl rfl rfl ?_
          have e3738 := (F3729.cell (by decide) e3724)
          refine pm_R_iald pm_M185 (pc' := 48) (v := (m3538 14)) rfl e3738 (Nat.lt_of_lt_of_le (by decide) T3728.1) rfl rfl rfl ?_
          refine rf_R_ist pm_M185 T3728 (pc' := 49) rfl e3730 (by decide) (by decide) (sf_in B3737 (by decide) (by decide)) ⟨_, rfl⟩ rfl (fun h3741 T3742 F3743 e3744 => ?_)
          have F3745 := F3731.trans F3743 (by decide)
          have w3746 := rf_w3f (sf_aux120 _ _ _ _ e3716 e3719 e3736) B3535
          have ct3747 : rf_ct 3 (upd (upd f2 (Int32.toNatClampNeg z3721) 0) (Int32.toNatClampNeg z3735) (m3538 14)) := (sf_eqL (Eq.trans (sf_upd_ne (j := Int32.toNatClampNeg 0) B3737 (by decide) (by decide)) (Eq.trans (sf_upd_ne (j := Int32.toNatClampNeg 0) B3723 (by decide) (by decide)) rfl)) (sf_weak B3535 (by decide) (by decide)))
          have bd3748 : (m3699 17).toInt = 0 → rf_bd 3 (upd (upd f2 (Int32.toNatClampNeg z3721) 0) (Int32.toNatClampNeg z3735) (m3538 14)) := fun z => ((bd3734 z).set (k := z3735) B3694 w3746.1 w3746.2)
          refine pm_R_lo pm_M185 (pc' := 52) (ls' := [.ref 41, .int 0, .int 1, .int 3, .int 8, .int 0, .int (f2 0), .int 2]) (st' := []) rfl rfl rfl ?_
          refine pm_R_br pm_M185 (pc' := 19) rfl rfl ?_
          refine pm_R_lo pm_M185 (pc' := 21) rfl rfl rfl ?_
          refine pm_R_lo pm_M185 (pc' := 22) rfl rfl rfl ?_
          refine pm_R_br pm_M185 (pc' := 25) (st' := []) rfl rfl ?_
          refine pm_R_lo pm_M185 (pc' := 26) rfl rfl rfl ?_
          refine rf_R_get pm_M185 T3742 (pc' := 29) (v := .ref 51) rfl rfl rfl rfl ?_
          refine pm_R_lo pm_M185 (pc' := 30) rfl rfl rfl ?_
          refine pm_R_lo pm_M185 (pc' := 31) rfl rfl rfl ?_
          refine pm_R_lo pm_M185 (pc' := 33) rfl rfl rfl ?_
          refine sf_R_imulV pm_M185 (pc' := 34) rfl rfl sf_k3 B3535 (by decide) (by decide) (by decide) e3716 ?_
          refine sf_R_iaddV pm_M185 (pc' := 35) rfl rfl sf_k1 B3717 (by decide) (by decide) e3719 ?_
          refine pm_R_lo pm_M185 (pc' := 37) rfl rfl rfl ?_
          refine sf_R_iadd pm_M185 (pc' := 38) rfl rfl B3720 sf_k2 (by decide) (by decide) (fun z3749 e3750 B3751 => ?_)
          refine pm_R_lo pm_M185 (pc' := 39) rfl rfl rfl ?_
          refine rf_R_get pm_M185 T3742 (pc' := 42) (v := .ref 52) rfl rfl rfl rfl ?_
          refine pm_R_lo pm_M185 (pc' := 44) rfl rfl rfl ?_
          refine pm_R_lo pm_M185 (pc' := 46) rfl rfl rfl ?_
          refine pm_R_op pm_M185 (pc' := 47) (st' := [.int 2, .ref 52, .int z3749, .ref 51]) rfl rfl rfl ?_
          have e3752 := (F3743.cell (by decide) e3738)
          refine pm_R_iald pm_M185 (pc' := 48) (v := (-1)) rfl e3752 (Nat.lt_of_lt_of_le (by decide) T3742.1) rfl (Eq.trans (show (upd (upd (upd (upd (upd (upd f3550 (Int32.toNatClampNeg 0) (-1)) (Int32.toNatClampNeg 1) (-1)) (Int32.toNatClampNeg 2) (-1)) (Int32.toNatClampNeg 3) (-1)) (Int32.toNatClampNeg 0) 0) (Int32.toNatClampNeg 1) (m3538 14)) (Int32.toNatClampNeg 2) = (upd (upd (upd (upd (upd f3550 (Int32.toNatClampNeg 0) (-1)) (Int32.toNatClampNeg 1) (-1)) (Int32.toNatClampNeg 2) (-1)) (Int32.toNatClampNeg 3) (-1)) (Int32.toNatClampNeg 0) 0) (Int32.toNatClampNeg 2) from rfl) (Eq.trans (show (upd (upd (upd (upd (upd f3550 (Int32.toNatClampNeg 0) (-1)) (Int32.toNatClampNeg 1) (-1)) (Int32.toNatClampNeg 2) (-1)) (Int32.toNatClampNeg 3) (-1)) (Int32.toNatClampNeg 0) 0) (Int32.toNatClampNeg 2) = (upd (upd (upd (upd f3550 (Int32.toNatClampNeg 0) (-1)) (Int32.toNatClampNeg 1) (-1)) (Int32.toNatClampNeg 2) (-1)) (Int32.toNatClampNeg 3) (-1)) (Int32.toNatClampNeg 2) from rfl) (Eq.trans (show (upd (upd (upd (upd f3550 (Int32.toNatClampNeg 0) (-1)) (Int32.toNatClampNeg 1) (-1)) (Int32.toNatClampNeg 2) (-1)) (Int32.toNatClampNeg 3) (-1)) (Int32.toNatClampNeg 2) = (upd (upd (upd f3550 (Int32.toNatClampNeg 0) (-1)) (Int32.toNatClampNeg 1) (-1)) (Int32.toNatClampNeg 2) (-1)) (Int32.toNatClampNeg 2) from rfl) rfl))) rfl ?_
          refine rf_R_ist pm_M185 T3742 (pc' := 49) rfl e3744 (by decide) (by decide) (sf_in B3751 (by decide) (by decide)) ⟨_, rfl⟩ rfl (fun h3755 T3756 F3757 e3758 => ?_)
          have F3759 := F3745.trans F3757 (by decide)
          have w3760 := rf_w3o (sf_aux121 _ _ _ _ e3716 e3719 e3750) B3535
          have ct3761 : rf_ct 3 (upd (upd (upd f2 (Int32.toNatClampNeg z3721) 0) (Int32.toNatClampNeg z3735) (m3538 14)) (Int32.toNatClampNeg z3749) (-1)) := (sf_eqL (Eq.trans (sf_upd_ne (j := Int32.toNatClampNeg 0) B3751 (by decide) (by decide)) (Eq.trans (sf_upd_ne (j := Int32.toNatClampNeg 0) B3737 (by decide) (by decide)) (Eq.trans (sf_upd_ne (j := Int32.toNatClampNeg 0) B3723 (by decide) (by decide)) rfl))) (sf_weak B3535 (by decide) (by decide)))
          have bd3762 : (m3699 17).toInt = 0 → rf_bd 3 (upd (upd (upd f2 (Int32.toNatClampNeg z3721) 0) (Int32.toNatClampNeg z3735) (m3538 14)) (Int32.toNatClampNeg z3749) (-1)) := fun z => ((bd3748 z).set (k := z3749) (sf_weak sf_kn1 (by decide) (by decide)) w3760.1 w3760.2)
          refine pm_R_lo pm_M185 (pc' := 52) (ls' := [.ref 41, .int 0, .int 1, .int 3, .int 8, .int 0, .int (f2 0), .int 3]) (st' := []) rfl rfl rfl ?_
          refine pm_R_br pm_M185 (pc' := 19) rfl rfl ?_
          refine pm_R_lo pm_M185 (pc' := 21) rfl rfl rfl ?_
          refine pm_R_lo pm_M185 (pc' := 22) rfl rfl rfl ?_
          refine pm_R_br pm_M185 (pc' := 55) (st' := []) rfl rfl ?_
          refine pm_R_lo pm_M185 (pc' := 56) rfl rfl rfl ?_
          refine rf_R_get pm_M185 T3756 (pc' := 59) (v := .ref 51) rfl rfl rfl rfl ?_
          refine pm_R_lo pm_M185 (pc' := 60) rfl rfl rfl ?_
          refine pm_R_op pm_M185 (pc' := 61) (st' := [.int 0, .ref 51, .int 0, .ref 51]) rfl rfl rfl ?_
          refine pm_R_iald pm_M185 (pc' := 62) (v := (f2 0)) rfl e3758 (Nat.lt_of_lt_of_le (by decide) T3756.1) rfl (Eq.trans (sf_upd_ne (j := Int32.toNatClampNeg 0) B3751 (by decide) (by decide)) (Eq.trans (sf_upd_ne (j := Int32.toNatClampNeg 0) B3737 (by decide) (by decide)) (Eq.trans (sf_upd_ne (j := Int32.toNatClampNeg 0) B3723 (by decide) (by decide)) rfl))) rfl ?_
          refine pm_R_op pm_M185 (pc' := 63) (st' := [.int 1, .int (f2 0), .int 0, .ref 51]) rfl rfl rfl ?_
          refine sf_R_iadd pm_M185 (pc' := 64) rfl rfl B3535 sf_k1 (by decide) (by decide) (fun z3765 e3766 B3767 => ?_)
          refine rf_R_ist pm_M185 T3756 (pc' := 65) rfl e3758 (by decide) (by decide) rfl ⟨_, rfl⟩ rfl (fun h3768 T3769 F3770 e3771 => ?_)
          have F3772 := F3759.trans F3770 (by decide)
          have ct3773 : rf_ct 3 (upd (upd (upd (upd f2 (Int32.toNatClampNeg z3721) 0) (Int32.toNatClampNeg z3735) (m3538 14)) (Int32.toNatClampNeg z3749) (-1)) (Int32.toNatClampNeg 0) z3765) := (sf_eqL rfl (sf_weak B3767 (by decide) (by decide)))
          have bd3774 : (m3699 17).toInt = 0 → rf_bd 3 (upd (upd (upd (upd f2 (Int32.toNatClampNeg z3721) 0) (Int32.toNatClampNeg z3735) (m3538 14)) (Int32.toNatClampNeg z3749) (-1)) (Int32.toNatClampNeg 0) z3765) := fun z => ((bd3762 z).set (k := 0) B3767 (by decide) (by decide))
          refine pm_R_ret pm_M185 (r := none) rfl rfl ?_
          show pm_R _ 192 173 [.ref 41, .long a0, pm_no, .int a1, .int 0] [] _ _
          refine pm_R_op pm_M192 (pc' := 174) (st' := [.int 1]) (pm_q192_1 (Nat.le_of_ble_eq_true rfl)) rfl rfl ?_
          have B3775 : sf_B 0 600 (m3699 10) := T3769.2.2.1 10
          exact pm_R_ret pm_M192 (r := some (.int 1)) (pm_q192_1 (Nat.le_of_ble_eq_true rfl)) rfl (K1 m3699 w3700 h3768 T3769 F3772 W3710 (⟨(upd (upd (upd (upd f2 (Int32.toNatClampNeg z3721) 0) (Int32.toNatClampNeg z3735) (m3538 14)) (Int32.toNatClampNeg z3749) (-1)) (Int32.toNatClampNeg 0) z3765), e3771, ct3773, fun z => (bd3774 z)⟩) (sf_aux116 _ _ _ X3544 X3705))
      · skip
        refine pm_R_lo pm_M183 (pc' := 9) rfl rfl rfl ?_
        refine pm_R_cv pm_M183 (pc' := 12) (a := 41) (ra := []) (rest := []) (ls' := [.ref 41]) rfl rfl (Or.inl rfl) pm_M184 T3574.2.1 rfl (by decide) (Nat.lt_of_lt_of_le (by decide) T3574.1) rfl rfl (Nat.le_of_ble_eq_true rfl) rfl rfl ?_
        refine pm_R_lo pm_M184 (pc' := 1) rfl rfl rfl ?_
        refine pm_R_lo pm_M184 (pc' := 2) rfl rfl rfl ?_
        have B3776 : sf_B 0 600 (m3538 12) := T3574.2.2.1 12
        refine rf_R_get pm_M184 T3574 (pc' := 5) (v := .int (m3538 12)) rfl rfl rfl rfl ?_
        refine rf_R_put pm_M184 T3574 (pc' := 8) rfl rfl rfl (by decide) rfl rfl B3776 rfl rfl (fun h3777 m3780 em3781 T3778 F3779 => ?_)
        have F3782 := F3577.trans F3779 (by decide)
        have B3783 : sf_B 0 4 (m3780 17) := by rw [em3781]; exact B3547
        have ek3784 : (m3780 17).toInt = ((m 17)).toInt := by rw [em3781]; exact ek3548
        have B3785 : sf_B 0 600 (m3780 16) := by rw [em3781]; exact B3776
        have ek3786 : (m3780 16).toInt = ((m3538 12)).toInt := by rw [em3781]; rfl
        have W3787 : rf_W [10, 12, 13, 14, 16, 17, 18, 22] m m3780 := by rw [em3781]; exact W3549.put (by decide)
        refine pm_R_op pm_M184 (pc' := 9) (st' := [.int 0]) rfl rfl rfl ?_
        refine pm_R_ret pm_M184 (r := some (.int 0)) rfl rfl ?_
        show pm_R _ 183 12 [.ref 41, .int 1, .int 9, .int (-1)] [.int 0] _ _
        refine pm_R_ret pm_M183 (r := some (.int 0)) rfl rfl ?_
        show pm_R _ 192 127 [.ref 41, .long a0, pm_no, .int a1, .int 0] [.int 0] _ _
        refine pm_R_br pm_M192 (pc' := 130) (st' := []) (pm_q192_1 (Nat.le_of_ble_eq_true rfl)) rfl ?_
        refine pm_R_op pm_M192 (pc' := 131) (st' := [.int 0]) (pm_q192_1 (Nat.le_of_ble_eq_true rfl)) rfl rfl ?_
        have B3788 : sf_B 0 600 (m3780 10) := T3778.2.2.1 10
        exact pm_R_ret pm_M192 (r := some (.int 0)) (pm_q192_1 (Nat.le_of_ble_eq_true rfl)) rfl (K0 m3780 w3539 h3777 T3778 F3782 W3787 (sf_aux91 _ _ _ X3544))
    · have B3789 : sf_B 8 8 (f2 0) := sf_eqL (Classical.not_not.mp c3534) sf_k8
      refine pm_R_lo pm_M192 (pc' := 98) rfl rfl rfl ?_
      refine pm_R_op pm_M192 (pc' := 99) (st' := [.int 3, .ref 41]) rfl rfl rfl ?_
      refine pm_R_lo pm_M192 (pc' := 100) rfl rfl rfl ?_
      refine pm_R_cv pm_M192 (pc' := 103) (a := 41) (ra := [.int a1, .int 3]) (rest := []) (ls' := [.ref 41, .int 3, .int a1]) rfl rfl (Or.inl rfl) pm_M182 T.2.1 rfl (by decide) (Nat.lt_of_lt_of_le (by decide) T.1) rfl rfl (Nat.le_of_ble_eq_true rfl) rfl rfl ?_
      refine rf_c182 (d := d + 2) T (sf_weak sf_k3 (by decide) (by decide)) Ba1 (fun m3792 w3793 h3794 T3795 F3796 W3797 B3798 => ?_)
      have F3799 := (rf_G.refl [41, 51, 52] h).trans F3796 (by decide)
      have B3800 : sf_B 0 600 (m3792 10) := by rw [W3797 10 (by decide)]; exact B1
      have ek3801 : (m3792 10).toInt = ((m 10)).toInt := by rw [W3797 10 (by decide)]
      have W3802 : rf_W [10, 12, 13, 14, 16, 17, 18, 22] m m3792 := (rf_W.refl [10, 12, 13, 14, 16, 17, 18, 22] m).trans W3797 (by decide)
      show pm_R _ 192 103 [.ref 41, .long a0, pm_no, .int a1, .int 0] [] _ _
      refine pm_R_lo pm_M192 (pc' := 104) rfl rfl rfl ?_
      refine pm_R_cv pm_M192 (pc' := 107) (a := 41) (ra := []) (rest := []) (ls' := [.ref 41, pm_no, pm_no]) rfl rfl (Or.inl rfl) pm_M179 T3795.2.1 rfl (by decide) (Nat.lt_of_lt_of_le (by decide) T3795.1) rfl rfl (Nat.le_of_ble_eq_true rfl) rfl rfl ?_
      refine rf_c179 (d := d + 1) T3795  (fun m3805 w3806 h3807 T3808 F3809 W3810 X3811 X3812 => ?_)
      have F3813 := F3799.trans F3809 (by decide)
      have B3814 : sf_B 1 4 (m3805 17) := by rw [W3810 17 (by decide)]; exact B3798
      have ek3815 : (m3805 17).toInt = ((m3792 17)).toInt := by rw [W3810 17 (by decide)]
      have W3816 : rf_W [10, 12, 13, 14, 16, 17, 18, 22] m m3805 := W3802.trans W3810 (by decide)
      show pm_R _ 192 107 [.ref 41, .long a0, pm_no, .int a1, .int 0] [] _ _
      refine pm_R_lo pm_M192 (pc' := 108) rfl rfl rfl ?_
      refine pm_R_cv pm_M192 (pc' := 111) (a := 41) (ra := []) (rest := []) (ls' := [.ref 41, pm_no]) rfl rfl (Or.inl rfl) pm_M190 T3808.2.1 rfl (by decide) (Nat.lt_of_lt_of_le (by decide) T3808.1) rfl rfl (Nat.le_of_ble_eq_true rfl) rfl rfl ?_
      refine pm_R_op pm_M190 (pc' := 1) (st' := [.int 0]) rfl rfl rfl ?_
      refine pm_R_lo pm_M190 (pc' := 2) (ls' := [.ref 41, .int 0]) (st' := []) rfl rfl rfl ?_
      refine pm_R_lo pm_M190 (pc' := 3) rfl rfl rfl ?_
      refine pm_R_op pm_M190 (pc' := 4) (st' := [.int 4, .int 0]) rfl rfl rfl ?_
      refine pm_R_br pm_M190 (pc' := 7) (st' := []) rfl rfl ?_
      refine pm_R_lo pm_M190 (pc' := 8) rfl rfl rfl ?_
      refine rf_R_get pm_M190 T3808 (pc' := 11) (v := .ref 52) rfl rfl rfl rfl ?_
      refine pm_R_lo pm_M190 (pc' := 12) rfl rfl rfl ?_
      refine pm_R_op pm_M190 (pc' := 13) (st' := [.int (-1), .int 0, .ref 52]) rfl rfl rfl ?_
      obtain ⟨f3817, e3818, b3819⟩ := T3808.2.2.2.1 52 (by decide) (by decide)
      refine rf_R_ist pm_M190 T3808 (pc' := 14) rfl e3818 (by decide) (by decide) rfl ⟨_, rfl, sf_upd b3819 (sf_weak sf_kn1 (by decide) (by decide)) _⟩ rfl (fun h3820 T3821 F3822 e3823 => ?_)
      have F3824 := F3813.trans F3822 (by decide)
      refine pm_R_lo pm_M190 (pc' := 17) (ls' := [.ref 41, .int 1]) (st' := []) rfl rfl rfl ?_
      refine pm_R_br pm_M190 (pc' := 2) rfl rfl ?_
      refine pm_R_lo pm_M190 (pc' := 3) rfl rfl rfl ?_
      refine pm_R_op pm_M190 (pc' := 4) (st' := [.int 4, .int 1]) rfl rfl rfl ?_
      refine pm_R_br pm_M190 (pc' := 7) (st' := []) rfl rfl ?_
      refine pm_R_lo pm_M190 (pc' := 8) rfl rfl rfl ?_
      refine rf_R_get pm_M190 T3821 (pc' := 11) (v := .ref 52) rfl rfl rfl rfl ?_
      refine pm_R_lo pm_M190 (pc' := 12) rfl rfl rfl ?_
      refine pm_R_op pm_M190 (pc' := 13) (st' := [.int (-1), .int 1, .ref 52]) rfl rfl rfl ?_
      refine rf_R_ist pm_M190 T3821 (pc' := 14) rfl e3823 (by decide) (by decide) rfl ⟨_, rfl, sf_upd (sf_upd b3819 (sf_weak sf_kn1 (by decide) (by decide)) _) (sf_weak sf_kn1 (by decide) (by decide)) _⟩ rfl (fun h3825 T3826 F3827 e3828 => ?_)
      have F3829 := F3824.trans F3827 (by decide)
      refine pm_R_lo pm_M190 (pc' := 17) (ls' := [.ref 41, .int 2]) (st' := []) rfl rfl rfl ?_
      refine pm_R_br pm_M190 (pc' := 2) rfl rfl ?_
      refine pm_R_lo pm_M190 (pc' := 3) rfl rfl rfl ?_
      refine pm_R_op pm_M190 (pc' := 4) (st' := [.int 4, .int 2]) rfl rfl rfl ?_
      refine pm_R_br pm_M190 (pc' := 7) (st' := []) rfl rfl ?_
      refine pm_R_lo pm_M190 (pc' := 8) rfl rfl rfl ?_
      refine rf_R_get pm_M190 T3826 (pc' := 11) (v := .ref 52) rfl rfl rfl rfl ?_
      refine pm_R_lo pm_M190 (pc' := 12) rfl rfl rfl ?_
      refine pm_R_op pm_M190 (pc' := 13) (st' := [.int (-1), .int 2, .ref 52]) rfl rfl rfl ?_
      refine rf_R_ist pm_M190 T3826 (pc' := 14) rfl e3828 (by decide) (by decide) rfl ⟨_, rfl, sf_upd (sf_upd (sf_upd b3819 (sf_weak sf_kn1 (by decide) (by decide)) _) (sf_weak sf_kn1 (by decide) (by decide)) _) (sf_weak sf_kn1 (by decide) (by decide)) _⟩ rfl (fun h3830 T3831 F3832 e3833 => ?_)
      have F3834 := F3829.trans F3832 (by decide)
      refine pm_R_lo pm_M190 (pc' := 17) (ls' := [.ref 41, .int 3]) (st' := []) rfl rfl rfl ?_
      refine pm_R_br pm_M190 (pc' := 2) rfl rfl ?_
      refine pm_R_lo pm_M190 (pc' := 3) rfl rfl rfl ?_
      refine pm_R_op pm_M190 (pc' := 4) (st' := [.int 4, .int 3]) rfl rfl rfl ?_
      refine pm_R_br pm_M190 (pc' := 7) (st' := []) rfl rfl ?_
      refine pm_R_lo pm_M190 (pc' := 8) rfl rfl rfl ?_
      refine rf_R_get pm_M190 T3831 (pc' := 11) (v := .ref 52) rfl rfl rfl rfl ?_
      refine pm_R_lo pm_M190 (pc' := 12) rfl rfl rfl ?_
      refine pm_R_op pm_M190 (pc' := 13) (st' := [.int (-1), .int 3, .ref 52]) rfl rfl rfl ?_
      refine rf_R_ist pm_M190 T3831 (pc' := 14) rfl e3833 (by decide) (by decide) rfl ⟨_, rfl, sf_upd (sf_upd (sf_upd (sf_upd b3819 (sf_weak sf_kn1 (by decide) (by decide)) _) (sf_weak sf_kn1 (by decide) (by decide)) _) (sf_weak sf_kn1 (by decide) (by decide)) _) (sf_weak sf_kn1 (by decide) (by decide)) _⟩ rfl (fun h3835 T3836 F3837 e3838 => ?_)
      have F3839 := F3834.trans F3837 (by decide)
      refine pm_R_lo pm_M190 (pc' := 17) (ls' := [.ref 41, .int 4]) (st' := []) rfl rfl rfl ?_
      refine pm_R_br pm_M190 (pc' := 2) rfl rfl ?_
      refine pm_R_lo pm_M190 (pc' := 3) rfl rfl rfl ?_
      refine pm_R_op pm_M190 (pc' := 4) (st' := [.int 4, .int 4]) rfl rfl rfl ?_
      refine pm_R_br pm_M190 (pc' := 20) (st' := []) rfl rfl ?_
      refine pm_R_ret pm_M190 (r := none) rfl rfl ?_
      show pm_R _ 192 111 [.ref 41, .long a0, pm_no, .int a1, .int 0] [] _ _
      refine pm_R_lo pm_M192 (pc' := 112) rfl rfl rfl ?_
      refine rf_R_get pm_M192 T3836 (pc' := 115) (v := .ref 52) rfl rfl rfl rfl ?_
      refine pm_R_op pm_M192 (pc' := 116) (st' := [.int 0, .ref 52]) (pm_q192_1 (Nat.le_of_ble_eq_true rfl)) rfl rfl ?_
      refine pm_R_lo pm_M192 (pc' := 118) (pm_q192_1 (Nat.le_of_ble_eq_true rfl)) rfl rfl ?_
      refine rf_R_ist pm_M192 T3836 (pc' := 119) (pm_q192_1 (Nat.le_of_ble_eq_true rfl)) e3838 (by decide) (by decide) rfl ⟨_, rfl, sf_upd (sf_upd (sf_upd (sf_upd (sf_upd b3819 (sf_weak sf_kn1 (by decide) (by decide)) _) (sf_weak sf_kn1 (by decide) (by decide)) _) (sf_weak sf_kn1 (by decide) (by decide)) _) (sf_weak sf_kn1 (by decide) (by decide)) _) (sf_weak sf_k0 (by decide) (by decide)) _⟩ rfl (fun h3840 T3841 F3842 e3843 => ?_)
      have F3844 := F3839.trans F3842 (by decide)
      refine pm_R_lo pm_M192 (pc' := 120) (pm_q192_1 (Nat.le_of_ble_eq_true rfl)) rfl rfl ?_
      refine pm_R_op pm_M192 (pc' := 121) (st' := [.int 1, .ref 41]) (pm_q192_1 (Nat.le_of_ble_eq_true rfl)) rfl rfl ?_
      refine pm_R_op pm_M192 (pc' := 123) (st' := [.int 9, .int 1, .ref 41]) (pm_q192_1 (Nat.le_of_ble_eq_true rfl)) rfl rfl ?_
      refine pm_R_op pm_M192 (pc' := 124) (st' := [.int (-1), .int 9, .int 1, .ref 41]) (pm_q192_1 (Nat.le_of_ble_eq_true rfl)) rfl rfl ?_
      refine pm_R_cv pm_M192 (pc' := 127) (a := 41) (ra := [.int (-1), .int 9, .int 1]) (rest := []) (ls' := [.ref 41, .int 1, .int 9, .int (-1)]) (pm_q192_1 (Nat.le_of_ble_eq_true rfl)) rfl (Or.inl rfl) pm_M183 T3841.2.1 rfl (by decide) (Nat.lt_of_lt_of_le (by decide) T3841.1) rfl rfl (Nat.le_of_ble_eq_true rfl) rfl rfl ?_
      refine pm_R_lo pm_M183 (pc' := 1) rfl rfl rfl ?_
      have B3845 : sf_B 0 4 (m3805 13) := T3841.2.2.1 13
      refine rf_R_get pm_M183 T3841 (pc' := 4) (v := .int (m3805 13)) rfl rfl rfl rfl ?_
      refine pm_R_op pm_M183 (pc' := 5) (st' := [.int 3, .int (m3805 13)]) rfl rfl rfl ?_
      refine pm_R_icmp pm_M183 (t := 13) (pc' := 8) rfl rfl rfl (fun c3846 => ?_) (fun c3846 => ?_)
      · have B3847 : sf_B 3 3 (m3805 13) := sf_eqL c3846 sf_k3
        refine pm_R_lo pm_M183 (pc' := 14) rfl rfl rfl ?_
        refine rf_R_get pm_M183 T3841 (pc' := 17) (v := .ref 52) rfl rfl rfl rfl ?_
        refine pm_R_lo pm_M183 (pc' := 18) rfl rfl rfl ?_
        refine pm_R_lo pm_M183 (pc' := 19) rfl rfl rfl ?_
        have B3848 : sf_B 0 99 (m3805 14) := T3841.2.2.1 14
        refine rf_R_get pm_M183 T3841 (pc' := 22) (v := .int (m3805 14)) rfl rfl rfl rfl ?_
        refine rf_R_ist pm_M183 T3841 (pc' := 23) rfl e3843 (by decide) (by decide) rfl ⟨_, rfl, sf_upd (sf_upd (sf_upd (sf_upd (sf_upd (sf_upd b3819 (sf_weak sf_kn1 (by decide) (by decide)) _) (sf_weak sf_kn1 (by decide) (by decide)) _) (sf_weak sf_kn1 (by decide) (by decide)) _) (sf_weak sf_kn1 (by decide) (by decide)) _) (sf_weak sf_k0 (by decide) (by decide)) _) (sf_weak B3848 (by decide) (by decide)) _⟩ rfl (fun h3849 T3850 F3851 e3852 => ?_)
        have F3853 := F3844.trans F3851 (by decide)
        refine pm_R_lo pm_M183 (pc' := 24) rfl rfl rfl ?_
        refine rf_R_get pm_M183 T3850 (pc' := 27) (v := .int (m3805 14)) rfl rfl rfl rfl ?_
        refine pm_R_lo pm_M183 (pc' := 28) rfl rfl rfl ?_
        refine pm_R_icmp pm_M183 (t := 39) (pc' := 31) rfl rfl rfl (fun c3854 => ?_) (fun c3854 => ?_)
        · have B3855 : sf_B 10 99 (m3805 14) := sf_ltR c3854 sf_k9 B3848
          refine pm_R_lo pm_M183 (pc' := 40) rfl rfl rfl ?_
          refine pm_R_op pm_M183 (pc' := 41) (st' := [.int 2, .ref 41]) rfl rfl rfl ?_
          refine pm_R_lo pm_M183 (pc' := 42) rfl rfl rfl ?_
          have B3856 : sf_B 0 600 (m3805 12) := T3850.2.2.1 12
          refine rf_R_get pm_M183 T3850 (pc' := 45) (v := .int (m3805 12)) rfl rfl rfl rfl ?_
          refine pm_R_cv pm_M183 (pc' := 48) (a := 41) (ra := [.int (m3805 12), .int 2]) (rest := []) (ls' := [.ref 41, .int 2, .int (m3805 12)]) rfl rfl (Or.inl rfl) pm_M182 T3850.2.1 rfl (by decide) (Nat.lt_of_lt_of_le (by decide) T3850.1) rfl rfl (Nat.le_of_ble_eq_true rfl) rfl rfl ?_
          refine rf_c182 (d := d + 1) T3850 (sf_weak sf_k2 (by decide) (by decide)) B3856 (fun m3859 w3860 h3861 T3862 F3863 W3864 B3865 => ?_)
          have F3866 := F3853.trans F3863 (by decide)
          have B3867 : sf_B 3 3 (m3859 13) := by rw [W3864 13 (by decide)]; exact B3847
          have B3868 : sf_B 10 99 (m3859 14) := by rw [W3864 14 (by decide)]; exact B3855
          have W3869 : rf_W [10, 12, 13, 14, 16, 17, 18, 22] m m3859 := W3816.trans W3864 (by decide)
          show pm_R _ 183 48 [.ref 41, .int 1, .int 9, .int (-1)] [] _ _
          refine pm_R_lo pm_M183 (pc' := 49) rfl rfl rfl ?_
          refine pm_R_op pm_M183 (pc' := 50) (st' := [.int 0, .ref 41]) rfl rfl rfl ?_
          refine rf_R_put pm_M183 T3862 (pc' := 53) rfl rfl rfl (by decide) rfl rfl (sf_weak sf_k0 (by decide) (by decide)) rfl rfl (fun h3870 m3873 em3874 T3871 F3872 => ?_)
          have F3875 := F3866.trans F3872 (by decide)
          have B3876 : sf_B 3 3 (m3873 13) := by rw [em3874]; exact B3867
          have B3877 : sf_B 10 99 (m3873 14) := by rw [em3874]; exact B3868
          have B3878 : sf_B 1 4 (m3873 17) := by rw [em3874]; exact B3865
          have ek3879 : (m3873 17).toInt = ((m3859 17)).toInt := by rw [em3874]; rfl
          have B3880 : sf_B 0 0 (m3873 22) := by rw [em3874]; exact sf_k0
          have W3882 : rf_W [10, 12, 13, 14, 16, 17, 18, 22] m m3873 := by rw [em3874]; exact W3869.put (by decide)
          refine pm_R_lo pm_M183 (pc' := 54) rfl rfl rfl ?_
          refine pm_R_cv pm_M183 (pc' := 57) (a := 41) (ra := []) (rest := []) (ls' := [.ref 41, pm_no, pm_no]) rfl rfl (Or.inl rfl) pm_M179 T3871.2.1 rfl (by decide) (Nat.lt_of_lt_of_le (by decide) T3871.1) rfl rfl (Nat.le_of_ble_eq_true rfl) rfl rfl ?_
          have B3883 : sf_B 0 600 (m3873 10) := T3871.2.2.1 10
          refine rf_c179 (d := d + 0) T3871  (fun m3886 w3887 h3888 T3889 F3890 W3891 X3892 X3893 => ?_)
          have F3894 := F3875.trans F3890 (by decide)
          have B3895 : sf_B 1 4 (m3886 17) := by rw [W3891 17 (by decide)]; exact B3878
          have ek3896 : (m3886 17).toInt = ((m3859 17)).toInt := by rw [W3891 17 (by decide)]; exact ek3879
          have B3897 : sf_B 0 0 (m3886 22) := by rw [W3891 22 (by decide)]; exact B3880
          have W3898 : rf_W [10, 12, 13, 14, 16, 17, 18, 22] m m3886 := W3882.trans W3891 (by decide)
          show pm_R _ 183 57 [.ref 41, .int 1, .int 9, .int (-1)] [] _ _
          refine pm_R_op pm_M183 (pc' := 58) (st' := [.int 1]) rfl rfl rfl ?_
          refine pm_R_ret pm_M183 (r := some (.int 1)) rfl rfl ?_
          show pm_R _ 192 127 [.ref 41, .long a0, pm_no, .int a1, .int 0] [.int 1] _ _
          refine pm_R_br pm_M192 (pc' := 132) (st' := []) (pm_q192_1 (Nat.le_of_ble_eq_true rfl)) rfl ?_
          refine pm_R_lo pm_M192 (pc' := 134) (pm_q192_1 (Nat.le_of_ble_eq_true rfl)) rfl rfl ?_
          refine pm_R_op pm_M192 (pc' := 135) (st' := [.int 1, .int 0]) (pm_q192_1 (Nat.le_of_ble_eq_true rfl)) rfl rfl ?_
          refine pm_R_br pm_M192 (pc' := 138) (st' := []) (pm_q192_1 (Nat.le_of_ble_eq_true rfl)) rfl ?_
          refine pm_R_lo pm_M192 (pc' := 140) (pm_q192_1 (Nat.le_of_ble_eq_true rfl)) rfl rfl ?_
          refine pm_R_op pm_M192 (pc' := 141) (st' := [.int 2, .int 0]) (pm_q192_1 (Nat.le_of_ble_eq_true rfl)) rfl rfl ?_
          refine pm_R_br pm_M192 (pc' := 144) (st' := []) (pm_q192_1 (Nat.le_of_ble_eq_true rfl)) rfl ?_
          refine pm_R_lo pm_M192 (pc' := 146) (pm_q192_1 (Nat.le_of_ble_eq_true rfl)) rfl rfl ?_
          refine pm_R_op pm_M192 (pc' := 147) (st' := [.int 3, .int 0]) (pm_q192_1 (Nat.le_of_ble_eq_true rfl)) rfl rfl ?_
          refine pm_R_br pm_M192 (pc' := 163) (st' := []) (pm_q192_1 (Nat.le_of_ble_eq_true rfl)) rfl ?_
          refine pm_R_lo pm_M192 (pc' := 164) (pm_q192_1 (Nat.le_of_ble_eq_true rfl)) rfl rfl ?_
          refine pm_R_op pm_M192 (pc' := 165) (st' := [.int 0, .ref 41]) (pm_q192_1 (Nat.le_of_ble_eq_true rfl)) rfl rfl ?_
          refine pm_R_op pm_M192 (pc' := 166) (st' := [.int 1, .int 0, .ref 41]) (pm_q192_1 (Nat.le_of_ble_eq_true rfl)) rfl rfl ?_
          refine pm_R_op pm_M192 (pc' := 167) (st' := [.int 3, .int 1, .int 0, .ref 41]) (pm_q192_1 (Nat.le_of_ble_eq_true rfl)) rfl rfl ?_
          refine pm_R_op pm_M192 (pc' := 169) (st' := [.int 8, .int 3, .int 1, .int 0, .ref 41]) (pm_q192_1 (Nat.le_of_ble_eq_true rfl)) rfl rfl ?_
          refine pm_R_op pm_M192 (pc' := 170) (st' := [.int 0, .int 8, .int 3, .int 1, .int 0, .ref 41]) (pm_q192_1 (Nat.le_of_ble_eq_true rfl)) rfl rfl ?_
          refine pm_R_cv pm_M192 (pc' := 173) (a := 41) (ra := [.int 0, .int 8, .int 3, .int 1, .int 0]) (rest := []) (ls' := [.ref 41, .int 0, .int 1, .int 3, .int 8, .int 0, pm_no, pm_no]) (pm_q192_1 (Nat.le_of_ble_eq_true rfl)) rfl (Or.inl rfl) pm_M185 T3889.2.1 rfl (by decide) (Nat.lt_of_lt_of_le (by decide) T3889.1) rfl rfl (Nat.le_of_ble_eq_true rfl) rfl rfl ?_
          refine pm_R_lo pm_M185 (pc' := 1) rfl rfl rfl ?_
          refine rf_R_get pm_M185 T3889 (pc' := 4) (v := .ref 51) rfl rfl rfl rfl ?_
          refine pm_R_lo pm_M185 (pc' := 5) rfl rfl rfl ?_
          have e3899 := (F3890.cell (by decide) (F3872.cell (by decide) (F3863.cell (by decide) (F3851.cell (by decide) (F3842.cell (by decide) (F3837.cell (by decide) (F3832.cell (by decide) (F3827.cell (by decide) (F3822.cell (by decide) (F3809.cell (by decide) (F3796.cell (by decide) e3)))))))))))
          refine pm_R_iald pm_M185 (pc' := 6) (v := (f2 0)) rfl e3899 (Nat.lt_of_lt_of_le (by decide) T3889.1) rfl rfl rfl ?_
          refine pm_R_lo pm_M185 (pc' := 8) (ls' := [.ref 41, .int 0, .int 1, .int 3, .int 8, .int 0, .int (f2 0), pm_no]) (st' := []) rfl rfl rfl ?_
          refine pm_R_lo pm_M185 (pc' := 10) rfl rfl rfl ?_
          refine pm_R_lo pm_M185 (pc' := 12) rfl rfl rfl ?_
          refine pm_R_icmp pm_M185 (t := 16) (pc' := 15) rfl rfl rfl (fun c3902 => absurd (sf_pt2 B3789 sf_k8) c3902) (fun c3902 => ?_)
          refine pm_R_ret pm_M185 (r := none) rfl rfl ?_
          show pm_R _ 192 173 [.ref 41, .long a0, pm_no, .int a1, .int 0] [] _ _
          refine pm_R_op pm_M192 (pc' := 174) (st' := [.int 1]) (pm_q192_1 (Nat.le_of_ble_eq_true rfl)) rfl rfl ?_
          have B3903 : sf_B 0 600 (m3886 10) := T3889.2.2.1 10
          exact pm_R_ret pm_M192 (r := some (.int 1)) (pm_q192_1 (Nat.le_of_ble_eq_true rfl)) rfl (K1 m3886 w3887 h3888 T3889 F3894 W3898 (⟨f2, e3899, ct4, fun z => (sf_pos B3895 (by decide) z)⟩) (sf_aux122 _ _ _ _ _ X3811 X3892))
        · have B3904 : sf_B 0 9 (m3805 14) := sf_leL (Int32.not_lt.mp c3854) B3848 sf_k9
          refine pm_R_lo pm_M183 (pc' := 32) rfl rfl rfl ?_
          refine rf_R_get pm_M183 T3850 (pc' := 35) (v := .int (m3805 14)) rfl rfl rfl rfl ?_
          refine pm_R_lo pm_M183 (pc' := 36) rfl rfl rfl ?_
          refine pm_R_icmp pm_M183 (t := 53) (pc' := 39) rfl rfl rfl (fun c3905 => ?_) (fun c3905 => absurd (Classical.not_not.mp c3905) (sf_neq1 B3904 sf_kn1 (by decide)))
          skip
          refine pm_R_lo pm_M183 (pc' := 54) rfl rfl rfl ?_
          refine pm_R_cv pm_M183 (pc' := 57) (a := 41) (ra := []) (rest := []) (ls' := [.ref 41, pm_no, pm_no]) rfl rfl (Or.inl rfl) pm_M179 T3850.2.1 rfl (by decide) (Nat.lt_of_lt_of_le (by decide) T3850.1) rfl rfl (Nat.le_of_ble_eq_true rfl) rfl rfl ?_
          have B3906 : sf_B 0 600 (m3805 10) := T3850.2.2.1 10
          refine rf_c179 (d := d + 0) T3850  (fun m3909 w3910 h3911 T3912 F3913 W3914 X3915 X3916 => ?_)
          have F3917 := F3853.trans F3913 (by decide)
          have B3918 : sf_B 1 4 (m3909 17) := by rw [W3914 17 (by decide)]; exact B3814
          have ek3919 : (m3909 17).toInt = ((m3792 17)).toInt := by rw [W3914 17 (by decide)]; exact ek3815
          have W3920 : rf_W [10, 12, 13, 14, 16, 17, 18, 22] m m3909 := W3816.trans W3914 (by decide)
          show pm_R _ 183 57 [.ref 41, .int 1, .int 9, .int (-1)] [] _ _
          refine pm_R_op pm_M183 (pc' := 58) (st' := [.int 1]) rfl rfl rfl ?_
          refine pm_R_ret pm_M183 (r := some (.int 1)) rfl rfl ?_
          show pm_R _ 192 127 [.ref 41, .long a0, pm_no, .int a1, .int 0] [.int 1] _ _
          refine pm_R_br pm_M192 (pc' := 132) (st' := []) (pm_q192_1 (Nat.le_of_ble_eq_true rfl)) rfl ?_
          refine pm_R_lo pm_M192 (pc' := 134) (pm_q192_1 (Nat.le_of_ble_eq_true rfl)) rfl rfl ?_
          refine pm_R_op pm_M192 (pc' := 135) (st' := [.int 1, .int 0]) (pm_q192_1 (Nat.le_of_ble_eq_true rfl)) rfl rfl ?_
          refine pm_R_br pm_M192 (pc' := 138) (st' := []) (pm_q192_1 (Nat.le_of_ble_eq_true rfl)) rfl ?_
          refine pm_R_lo pm_M192 (pc' := 140) (pm_q192_1 (Nat.le_of_ble_eq_true rfl)) rfl rfl ?_
          refine pm_R_op pm_M192 (pc' := 141) (st' := [.int 2, .int 0]) (pm_q192_1 (Nat.le_of_ble_eq_true rfl)) rfl rfl ?_
          refine pm_R_br pm_M192 (pc' := 144) (st' := []) (pm_q192_1 (Nat.le_of_ble_eq_true rfl)) rfl ?_
          refine pm_R_lo pm_M192 (pc' := 146) (pm_q192_1 (Nat.le_of_ble_eq_true rfl)) rfl rfl ?_
          refine pm_R_op pm_M192 (pc' := 147) (st' := [.int 3, .int 0]) (pm_q192_1 (Nat.le_of_ble_eq_true rfl)) rfl rfl ?_
          refine pm_R_br pm_M192 (pc' := 163) (st' := []) (pm_q192_1 (Nat.le_of_ble_eq_true rfl)) rfl ?_
          refine pm_R_lo pm_M192 (pc' := 164) (pm_q192_1 (Nat.le_of_ble_eq_true rfl)) rfl rfl ?_
          refine pm_R_op pm_M192 (pc' := 165) (st' := [.int 0, .ref 41]) (pm_q192_1 (Nat.le_of_ble_eq_true rfl)) rfl rfl ?_
          refine pm_R_op pm_M192 (pc' := 166) (st' := [.int 1, .int 0, .ref 41]) (pm_q192_1 (Nat.le_of_ble_eq_true rfl)) rfl rfl ?_
          refine pm_R_op pm_M192 (pc' := 167) (st' := [.int 3, .int 1, .int 0, .ref 41]) (pm_q192_1 (Nat.le_of_ble_eq_true rfl)) rfl rfl ?_
          refine pm_R_op pm_M192 (pc' := 169) (st' := [.int 8, .int 3, .int 1, .int 0, .ref 41]) (pm_q192_1 (Nat.le_of_ble_eq_true rfl)) rfl rfl ?_
          refine pm_R_op pm_M192 (pc' := 170) (st' := [.int 0, .int 8, .int 3, .int 1, .int 0, .ref 41]) (pm_q192_1 (Nat.le_of_ble_eq_true rfl)) rfl rfl ?_
          refine pm_R_cv pm_M192 (pc' := 173) (a := 41) (ra := [.int 0, .int 8, .int 3, .int 1, .int 0]) (rest := []) (ls' := [.ref 41, .int 0, .int 1, .int 3, .int 8, .int 0, pm_no, pm_no]) (pm_q192_1 (Nat.le_of_ble_eq_true rfl)) rfl (Or.inl rfl) pm_M185 T3912.2.1 rfl (by decide) (Nat.lt_of_lt_of_le (by decide) T3912.1) rfl rfl (Nat.le_of_ble_eq_true rfl) rfl rfl ?_
          refine pm_R_lo pm_M185 (pc' := 1) rfl rfl rfl ?_
          refine rf_R_get pm_M185 T3912 (pc' := 4) (v := .ref 51) rfl rfl rfl rfl ?_
          refine pm_R_lo pm_M185 (pc' := 5) rfl rfl rfl ?_
          have e3921 := (F3913.cell (by decide) (F3851.cell (by decide) (F3842.cell (by decide) (F3837.cell (by decide) (F3832.cell (by decide) (F3827.cell (by decide) (F3822.cell (by decide) (F3809.cell (by decide) (F3796.cell (by decide) e3)))))))))
          refine pm_R_iald pm_M185 (pc' := 6) (v := (f2 0)) rfl e3921 (Nat.lt_of_lt_of_le (by decide) T3912.1) rfl rfl rfl ?_
          refine pm_R_lo pm_M185 (pc' := 8) (ls' := [.ref 41, .int 0, .int 1, .int 3, .int 8, .int 0, .int (f2 0), pm_no]) (st' := []) rfl rfl rfl ?_
          refine pm_R_lo pm_M185 (pc' := 10) rfl rfl rfl ?_
          refine pm_R_lo pm_M185 (pc' := 12) rfl rfl rfl ?_
          refine pm_R_icmp pm_M185 (t := 16) (pc' := 15) rfl rfl rfl (fun c3924 => absurd (sf_pt2 B3789 sf_k8) c3924) (fun c3924 => ?_)
          refine pm_R_ret pm_M185 (r := none) rfl rfl ?_
          show pm_R _ 192 173 [.ref 41, .long a0, pm_no, .int a1, .int 0] [] _ _
          refine pm_R_op pm_M192 (pc' := 174) (st' := [.int 1]) (pm_q192_1 (Nat.le_of_ble_eq_true rfl)) rfl rfl ?_
          have B3925 : sf_B 0 600 (m3909 10) := T3912.2.2.1 10
          exact pm_R_ret pm_M192 (r := some (.int 1)) (pm_q192_1 (Nat.le_of_ble_eq_true rfl)) rfl (K1 m3909 w3910 h3911 T3912 F3917 W3920 (⟨f2, e3921, ct4, fun z => (sf_pos B3918 (by decide) z)⟩) (sf_aux123 _ _ _ _ X3811 X3915))
      · skip
        refine pm_R_lo pm_M183 (pc' := 9) rfl rfl rfl ?_
        refine pm_R_cv pm_M183 (pc' := 12) (a := 41) (ra := []) (rest := []) (ls' := [.ref 41]) rfl rfl (Or.inl rfl) pm_M184 T3841.2.1 rfl (by decide) (Nat.lt_of_lt_of_le (by decide) T3841.1) rfl rfl (Nat.le_of_ble_eq_true rfl) rfl rfl ?_
        refine pm_R_lo pm_M184 (pc' := 1) rfl rfl rfl ?_
        refine pm_R_lo pm_M184 (pc' := 2) rfl rfl rfl ?_
        have B3926 : sf_B 0 600 (m3805 12) := T3841.2.2.1 12
        refine rf_R_get pm_M184 T3841 (pc' := 5) (v := .int (m3805 12)) rfl rfl rfl rfl ?_
        refine rf_R_put pm_M184 T3841 (pc' := 8) rfl rfl rfl (by decide) rfl rfl B3926 rfl rfl (fun h3927 m3930 em3931 T3928 F3929 => ?_)
        have F3932 := F3844.trans F3929 (by decide)
        have B3933 : sf_B 1 4 (m3930 17) := by rw [em3931]; exact B3814
        have ek3934 : (m3930 17).toInt = ((m3792 17)).toInt := by rw [em3931]; exact ek3815
        have B3935 : sf_B 0 600 (m3930 16) := by rw [em3931]; exact B3926
        have ek3936 : (m3930 16).toInt = ((m3805 12)).toInt := by rw [em3931]; rfl
        have W3937 : rf_W [10, 12, 13, 14, 16, 17, 18, 22] m m3930 := by rw [em3931]; exact W3816.put (by decide)
        refine pm_R_op pm_M184 (pc' := 9) (st' := [.int 0]) rfl rfl rfl ?_
        refine pm_R_ret pm_M184 (r := some (.int 0)) rfl rfl ?_
        show pm_R _ 183 12 [.ref 41, .int 1, .int 9, .int (-1)] [.int 0] _ _
        refine pm_R_ret pm_M183 (r := some (.int 0)) rfl rfl ?_
        show pm_R _ 192 127 [.ref 41, .long a0, pm_no, .int a1, .int 0] [.int 0] _ _
        refine pm_R_br pm_M192 (pc' := 130) (st' := []) (pm_q192_1 (Nat.le_of_ble_eq_true rfl)) rfl ?_
        refine pm_R_op pm_M192 (pc' := 131) (st' := [.int 0]) (pm_q192_1 (Nat.le_of_ble_eq_true rfl)) rfl rfl ?_
        have B3938 : sf_B 0 600 (m3930 10) := T3928.2.2.1 10
        exact pm_R_ret pm_M192 (r := some (.int 0)) (pm_q192_1 (Nat.le_of_ble_eq_true rfl)) rfl (K0 m3930 w3806 h3927 T3928 F3932 W3937 (sf_aux76 _ _ _ _ X3811))
