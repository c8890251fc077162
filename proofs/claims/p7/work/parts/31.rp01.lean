theorem sf_aux51 (v0 v1 : Int) (q0 : v0 ≤ v1) : v0 ≤ v1 := by omega
theorem sf_aux52 (v0 v1 : Int) (q0 : v0 = v1) : v1 ≤ v0 := by omega
set_option maxRecDepth 100000 in
set_option maxHeartbeats 4000000 in
/-- SilentTableModel.actWord -/
theorem rf_c188 {d : Nat} {m : Nat → Int32} {w : Int64} {h : pm_H} {Q : Option Value → pm_H → Prop}  (T : rf_T m w h)  (K0 : ∀ (m_q : Nat → Int32) (w_q : Int64) (h_q : pm_H), rf_T m_q w_q h_q → rf_G [41, 52] h h_q → rf_W [10, 12, 13, 14, 16] m m_q → (m 10).toInt ≤ (m_q 10).toInt → Q (some (.int 0)) h_q) (K1 : ∀ (m_q : Nat → Int32) (w_q : Int64) (h_q : pm_H), rf_T m_q w_q h_q → rf_G [41, 52] h h_q → rf_W [10, 12, 13, 14, 16] m m_q → (∀ g : Nat → Int32, h.2.2 52 = .inl (0, 4, .inl g) → ∃ v, sf_B 0 4 v ∧ h_q.2.2 52 = .inl (0, 4, .inl (upd g (Int32.toNatClampNeg 3) v))) → (m 10).toInt ≤ (m_q 10).toInt → Q (some (.int 1)) h_q) : pm_R (d + 2) 188 0 [.ref 41, pm_no, pm_no] [] h Q := by
  have B1 : sf_B 0 600 (m 10) := T.2.2.1 10
  refine pm_R_lo pm_M188 (pc_q := 1) rfl rfl rfl ?_
  have B2 : sf_B 0 4 (m 13) := T.2.2.1 13
  refine rf_R_get pm_M188 T (pc_q := 4) (v := .int (m 13)) rfl rfl rfl rfl ?_
  refine pm_R_op pm_M188 (pc_q := 5) (st_q := [.int 2, .int (m 13)]) rfl rfl rfl ?_
  refine pm_R_icmp pm_M188 (t := 15) (pc_q := 8) rfl rfl rfl (fun c3 => ?_) (fun c3 => ?_)
  · skip
    refine pm_R_op pm_M188 (pc_q := 16) (st_q := [.long 0]) rfl rfl rfl ?_
    refine pm_R_lo pm_M188 (pc_q := 17) (ls_q := [.ref 41, .long 0, pm_no]) (st_q := []) rfl rfl rfl ?_
    refine pm_R_lo pm_M188 (pc_q := 18) rfl rfl rfl ?_
    refine rf_R_get pm_M188 T (pc_q := 21) (v := .ref 52) rfl rfl rfl rfl ?_
    refine pm_R_op pm_M188 (pc_q := 22) (st_q := [.int 3, .ref 52]) rfl rfl rfl ?_
    refine pm_R_lo pm_M188 (pc_q := 23) rfl rfl rfl ?_
    refine pm_R_ldc2 pm_M188 (pc_q := 26) rfl rfl rfl ?_
    refine sf_R_lcmp pm_M188 (pc_q := 27) rfl rfl (fun z4 e5 => ?_)
    have B6 : sf_B (-2147483648) (-1) z4 := lf_cmpLt e5 (⟨by decide, by decide⟩ : lf_B 0 0 0) (⟨by decide, by decide⟩ : lf_B 1751474532 1751474532 1751474532) (by decide)
    refine pm_R_ifc pm_M188 (t := 34) (pc_q := 30) rfl rfl rfl (fun c7 => ?_) (fun c7 => absurd (Classical.not_not.mp c7) (sf_neq2 B6 sf_k0 (by decide)))
    have k8 := sf_lneC e5 c7
    refine pm_R_lo pm_M188 (pc_q := 35) rfl rfl rfl ?_
    refine pm_R_ldc2 pm_M188 (pc_q := 38) rfl rfl rfl ?_
    refine sf_R_lcmp pm_M188 (pc_q := 39) rfl rfl (fun z9 e10 => ?_)
    have B11 : sf_B (-2147483648) (-1) z9 := lf_cmpLt e10 (⟨by decide, by decide⟩ : lf_B 0 0 0) (⟨by decide, by decide⟩ : lf_B 1952541036 1952541036 1952541036) (by decide)
    refine pm_R_ifc pm_M188 (t := 46) (pc_q := 42) rfl rfl rfl (fun c12 => ?_) (fun c12 => absurd (Classical.not_not.mp c12) (sf_neq2 B11 sf_k0 (by decide)))
    have k13 := sf_lneC e10 c12
    refine pm_R_lo pm_M188 (pc_q := 47) rfl rfl rfl ?_
    refine pm_R_ldc2 pm_M188 (pc_q := 50) rfl rfl rfl ?_
    refine sf_R_lcmp pm_M188 (pc_q := 51) rfl rfl (fun z14 e15 => ?_)
    have B16 : sf_B (-2147483648) (-1) z14 := lf_cmpLt e15 (⟨by decide, by decide⟩ : lf_B 0 0 0) (⟨by decide, by decide⟩ : lf_B 1886156147 1886156147 1886156147) (by decide)
    refine pm_R_ifc pm_M188 (t := 58) (pc_q := 54) rfl rfl rfl (fun c17 => ?_) (fun c17 => absurd (Classical.not_not.mp c17) (sf_neq2 B16 sf_k0 (by decide)))
    have k18 := sf_lneC e15 c17
    refine pm_R_lo pm_M188 (pc_q := 59) rfl rfl rfl ?_
    refine pm_R_ldc2 pm_M188 (pc_q := 62) rfl rfl rfl ?_
    refine sf_R_lcmp pm_M188 (pc_q := 63) rfl rfl (fun z19 e20 => ?_)
    have B21 : sf_B (-2147483648) (-1) z19 := lf_cmpLt e20 (⟨by decide, by decide⟩ : lf_B 0 0 0) (⟨by decide, by decide⟩ : lf_B 1818588019 1818588019 1818588019) (by decide)
    refine pm_R_ifc pm_M188 (t := 70) (pc_q := 66) rfl rfl rfl (fun c22 => ?_) (fun c22 => absurd (Classical.not_not.mp c22) (sf_neq2 B21 sf_k0 (by decide)))
    have k23 := sf_lneC e20 c22
    refine pm_R_lo pm_M188 (pc_q := 71) rfl rfl rfl ?_
    refine pm_R_ldc2 pm_M188 (pc_q := 74) rfl rfl rfl ?_
    refine sf_R_lcmp pm_M188 (pc_q := 75) rfl rfl (fun z24 e25 => ?_)
    have B26 : sf_B (-2147483648) (-1) z24 := lf_cmpLt e25 (⟨by decide, by decide⟩ : lf_B 0 0 0) (⟨by decide, by decide⟩ : lf_B 7237492 7237492 7237492) (by decide)
    refine pm_R_ifc pm_M188 (t := 82) (pc_q := 78) rfl rfl rfl (fun c27 => ?_) (fun c27 => absurd (Classical.not_not.mp c27) (sf_neq2 B26 sf_k0 (by decide)))
    have k28 := sf_lneC e25 c27
    refine pm_R_op pm_M188 (pc_q := 83) (st_q := [.int (-1), .int 3, .ref 52]) rfl rfl rfl ?_
    obtain ⟨f29, e30, b31⟩ := T.2.2.2.1 52 (by decide) (by decide)
    refine rf_R_ist pm_M188 T (pc_q := 84) rfl e30 (by decide) (by decide) rfl ⟨_, rfl, sf_upd b31 (sf_weak sf_kn1 (by decide) (by decide)) _⟩ rfl (fun h32 T33 F34 e35 => ?_)
    have F36 := (rf_G.refl [41, 52] h).trans F34 (by decide)
    refine pm_R_lo pm_M188 (pc_q := 85) rfl rfl rfl ?_
    refine rf_R_get pm_M188 T33 (pc_q := 88) (v := .ref 52) rfl rfl rfl rfl ?_
    refine pm_R_op pm_M188 (pc_q := 89) (st_q := [.int 3, .ref 52]) rfl rfl rfl ?_
    refine pm_R_iald pm_M188 (pc_q := 90) (v := (-1)) rfl e35 (Nat.lt_of_lt_of_le (by decide) T33.1) rfl sf_upd_eq rfl ?_
    refine pm_R_op pm_M188 (pc_q := 91) (st_q := [.int (-1), .int (-1)]) rfl rfl rfl ?_
    refine pm_R_br pm_M188 (pc_q := 94) (st_q := []) rfl rfl ?_
    refine pm_R_lo pm_M188 (pc_q := 95) rfl rfl rfl ?_
    refine pm_R_cv pm_M188 (pc_q := 98) (a := 41) (ra := []) (rest := []) (ls_q := [.ref 41]) rfl rfl (Or.inl rfl) pm_M184 T33.2.1 rfl (by decide) (Nat.lt_of_lt_of_le (by decide) T33.1) rfl rfl (Nat.le_of_ble_eq_true rfl) rfl rfl ?_
    refine pm_R_lo pm_M184 (pc_q := 1) rfl rfl rfl ?_
    refine pm_R_lo pm_M184 (pc_q := 2) rfl rfl rfl ?_
    have B39 : sf_B 0 600 (m 12) := T33.2.2.1 12
    refine rf_R_get pm_M184 T33 (pc_q := 5) (v := .int (m 12)) rfl rfl rfl rfl ?_
    refine rf_R_put pm_M184 T33 (pc_q := 8) rfl rfl rfl (by decide) rfl rfl B39 rfl rfl (fun h40 m43 em44 T41 F42 => ?_)
    have F45 := F36.trans F42 (by decide)
    have B46 : sf_B 0 600 (m43 10) := by rw [em44]; exact B1
    have ek47 : (m43 10).toInt = ((m 10)).toInt := by rw [em44]; rfl
    have B48 : sf_B 0 600 (m43 16) := by rw [em44]; exact B39
    have ek49 : (m43 16).toInt = ((m 12)).toInt := by rw [em44]; rfl
    have W50 : rf_W [10, 12, 13, 14, 16] m m43 := by rw [em44]; exact (rf_W.refl [10, 12, 13, 14, 16] m).put (by decide)
    refine pm_R_op pm_M184 (pc_q := 9) (st_q := [.int 0]) rfl rfl rfl ?_
    refine pm_R_ret pm_M184 (r := some (.int 0)) rfl rfl ?_
    show pm_R _ 188 98 [.ref 41, .long 0, pm_no] [.int 0] _ _
    exact pm_R_ret pm_M188 (r := some (.int 0)) rfl rfl (K0 m43 w h40 T41 F45 W50 (sf_aux52 _ _ ek47))
  · have B51 : sf_B 2 2 (m 13) := sf_eqL (Classical.not_not.mp c3) sf_k2
    refine pm_R_lo pm_M188 (pc_q := 9) rfl rfl rfl ?_
    refine rf_R_get pm_M188 T (pc_q := 12) (v := .long w) rfl rfl rfl rfl ?_
    refine pm_R_br pm_M188 (pc_q := 16) rfl rfl ?_
    refine pm_R_lo pm_M188 (pc_q := 17) (ls_q := [.ref 41, .long w, pm_no]) (st_q := []) rfl rfl rfl ?_
    refine pm_R_lo pm_M188 (pc_q := 18) rfl rfl rfl ?_
    refine rf_R_get pm_M188 T (pc_q := 21) (v := .ref 52) rfl rfl rfl rfl ?_
    refine pm_R_op pm_M188 (pc_q := 22) (st_q := [.int 3, .ref 52]) rfl rfl rfl ?_
    refine pm_R_lo pm_M188 (pc_q := 23) rfl rfl rfl ?_
    refine pm_R_ldc2 pm_M188 (pc_q := 26) rfl rfl rfl ?_
    refine sf_R_lcmp pm_M188 (pc_q := 27) rfl rfl (fun z52 e53 => ?_)
    refine pm_R_ifc pm_M188 (t := 34) (pc_q := 30) rfl rfl rfl (fun c54 => ?_) (fun c54 => ?_)
    · have k55 := sf_lneC e53 c54
      refine pm_R_lo pm_M188 (pc_q := 35) rfl rfl rfl ?_
      refine pm_R_ldc2 pm_M188 (pc_q := 38) rfl rfl rfl ?_
      refine sf_R_lcmp pm_M188 (pc_q := 39) rfl rfl (fun z56 e57 => ?_)
      refine pm_R_ifc pm_M188 (t := 46) (pc_q := 42) rfl rfl rfl (fun c58 => ?_) (fun c58 => ?_)
      · have k59 := sf_lneC e57 c58
        refine pm_R_lo pm_M188 (pc_q := 47) rfl rfl rfl ?_
        refine pm_R_ldc2 pm_M188 (pc_q := 50) rfl rfl rfl ?_
        refine sf_R_lcmp pm_M188 (pc_q := 51) rfl rfl (fun z60 e61 => ?_)
        refine pm_R_ifc pm_M188 (t := 58) (pc_q := 54) rfl rfl rfl (fun c62 => ?_) (fun c62 => ?_)
        · have k63 := sf_lneC e61 c62
          refine pm_R_lo pm_M188 (pc_q := 59) rfl rfl rfl ?_
          refine pm_R_ldc2 pm_M188 (pc_q := 62) rfl rfl rfl ?_
          refine sf_R_lcmp pm_M188 (pc_q := 63) rfl rfl (fun z64 e65 => ?_)
          refine pm_R_ifc pm_M188 (t := 70) (pc_q := 66) rfl rfl rfl (fun c66 => ?_) (fun c66 => ?_)
          · have k67 := sf_lneC e65 c66
            refine pm_R_lo pm_M188 (pc_q := 71) rfl rfl rfl ?_
            refine pm_R_ldc2 pm_M188 (pc_q := 74) rfl rfl rfl ?_
            refine sf_R_lcmp pm_M188 (pc_q := 75) rfl rfl (fun z68 e69 => ?_)
            refine pm_R_ifc pm_M188 (t := 82) (pc_q := 78) rfl rfl rfl (fun c70 => ?_) (fun c70 => ?_)
            · have k71 := sf_lneC e69 c70
              refine pm_R_op pm_M188 (pc_q := 83) (st_q := [.int (-1), .int 3, .ref 52]) rfl rfl rfl ?_
              obtain ⟨f72, e73, b74⟩ := T.2.2.2.1 52 (by decide) (by decide)
              refine rf_R_ist pm_M188 T (pc_q := 84) rfl e73 (by decide) (by decide) rfl ⟨_, rfl, sf_upd b74 (sf_weak sf_kn1 (by decide) (by decide)) _⟩ rfl (fun h75 T76 F77 e78 => ?_)
              have F79 := (rf_G.refl [41, 52] h).trans F77 (by decide)
              refine pm_R_lo pm_M188 (pc_q := 85) rfl rfl rfl ?_
              refine rf_R_get pm_M188 T76 (pc_q := 88) (v := .ref 52) rfl rfl rfl rfl ?_
              refine pm_R_op pm_M188 (pc_q := 89) (st_q := [.int 3, .ref 52]) rfl rfl rfl ?_
              refine pm_R_iald pm_M188 (pc_q := 90) (v := (-1)) rfl e78 (Nat.lt_of_lt_of_le (by decide) T76.1) rfl sf_upd_eq rfl ?_
              refine pm_R_op pm_M188 (pc_q := 91) (st_q := [.int (-1), .int (-1)]) rfl rfl rfl ?_
              refine pm_R_br pm_M188 (pc_q := 94) (st_q := []) rfl rfl ?_
              refine pm_R_lo pm_M188 (pc_q := 95) rfl rfl rfl ?_
              refine pm_R_cv pm_M188 (pc_q := 98) (a := 41) (ra := []) (rest := []) (ls_q := [.ref 41]) rfl rfl (Or.inl rfl) pm_M184 T76.2.1 rfl (by decide) (Nat.lt_of_lt_of_le (by decide) T76.1) rfl rfl (Nat.le_of_ble_eq_true rfl) rfl rfl ?_
              refine pm_R_lo pm_M184 (pc_q := 1) rfl rfl rfl ?_
              refine pm_R_lo pm_M184 (pc_q := 2) rfl rfl rfl ?_
              have B82 : sf_B 0 600 (m 12) := T76.2.2.1 12
              refine rf_R_get pm_M184 T76 (pc_q := 5) (v := .int (m 12)) rfl rfl rfl rfl ?_
              refine rf_R_put pm_M184 T76 (pc_q := 8) rfl rfl rfl (by decide) rfl rfl B82 rfl rfl (fun h83 m86 em87 T84 F85 => ?_)
              have F88 := F79.trans F85 (by decide)
              have B89 : sf_B 0 600 (m86 10) := by rw [em87]; exact B1
              have ek90 : (m86 10).toInt = ((m 10)).toInt := by rw [em87]; rfl
              have B91 : sf_B 2 2 (m86 13) := by rw [em87]; exact B51
              have B92 : sf_B 0 600 (m86 16) := by rw [em87]; exact B82
              have ek93 : (m86 16).toInt = ((m 12)).toInt := by rw [em87]; rfl
              have W94 : rf_W [10, 12, 13, 14, 16] m m86 := by rw [em87]; exact (rf_W.refl [10, 12, 13, 14, 16] m).put (by decide)
              refine pm_R_op pm_M184 (pc_q := 9) (st_q := [.int 0]) rfl rfl rfl ?_
              refine pm_R_ret pm_M184 (r := some (.int 0)) rfl rfl ?_
              show pm_R _ 188 98 [.ref 41, .long w, pm_no] [.int 0] _ _
              exact pm_R_ret pm_M188 (r := some (.int 0)) rfl rfl (K0 m86 w h83 T84 F88 W94 (sf_aux52 _ _ ek90))
            · have B95 : sf_B 0 0 z68 := sf_eqL (Classical.not_not.mp c70) sf_k0
              have B96 : lf_B 7237492 7237492 w := lf_eqB e69 B95 (⟨by decide, by decide⟩ : lf_B 7237492 7237492 7237492)
              refine pm_R_op pm_M188 (pc_q := 79) (st_q := [.int 4, .int 3, .ref 52]) rfl rfl rfl ?_
              refine pm_R_br pm_M188 (pc_q := 83) rfl rfl ?_
              obtain ⟨f97, e98, b99⟩ := T.2.2.2.1 52 (by decide) (by decide)
              refine rf_R_ist pm_M188 T (pc_q := 84) rfl e98 (by decide) (by decide) rfl ⟨_, rfl, sf_upd b99 (sf_weak sf_k4 (by decide) (by decide)) _⟩ rfl (fun h100 T101 F102 e103 => ?_)
              have F104 := (rf_G.refl [41, 52] h).trans F102 (by decide)
              refine pm_R_lo pm_M188 (pc_q := 85) rfl rfl rfl ?_
              refine rf_R_get pm_M188 T101 (pc_q := 88) (v := .ref 52) rfl rfl rfl rfl ?_
              refine pm_R_op pm_M188 (pc_q := 89) (st_q := [.int 3, .ref 52]) rfl rfl rfl ?_
              refine pm_R_iald pm_M188 (pc_q := 90) (v := 4) rfl e103 (Nat.lt_of_lt_of_le (by decide) T101.1) rfl sf_upd_eq rfl ?_
              refine pm_R_op pm_M188 (pc_q := 91) (st_q := [.int (-1), .int 4]) rfl rfl rfl ?_
              refine pm_R_br pm_M188 (pc_q := 99) (st_q := []) rfl rfl ?_
              refine pm_R_lo pm_M188 (pc_q := 100) rfl rfl rfl ?_
              refine pm_R_cv pm_M188 (pc_q := 103) (a := 41) (ra := []) (rest := []) (ls_q := [.ref 41, pm_no, pm_no]) rfl rfl (Or.inl rfl) pm_M179 T101.2.1 rfl (by decide) (Nat.lt_of_lt_of_le (by decide) T101.1) rfl rfl (Nat.le_of_ble_eq_true rfl) rfl rfl ?_
              refine rf_c179 (d := d + 0) T101  (fun m109 w110 h111 T112 F113 W114 X115 X116 => ?_)
              have F117 := F104.trans F113 (by decide)
              have W118 : rf_W [10, 12, 13, 14, 16] m m109 := (rf_W.refl [10, 12, 13, 14, 16] m).trans W114 (by decide)
              have B119 : sf_B 0 600 (m109 10) := T112.2.2.1 10
              show pm_R _ 188 103 [.ref 41, .long w, pm_no] [] _ _
              have R120 : (m 10).toInt ≤ (m109 10).toInt := (sf_aux51 _ _ X115)
              refine pm_R_op pm_M188 (pc_q := 104) (st_q := [.int 1]) rfl rfl rfl ?_
              have e121 := (F113.cell (by decide) e103)
              exact pm_R_ret pm_M188 (r := some (.int 1)) rfl rfl (K1 m109 w110 h111 T112 F117 W118 (fun g eg => by rw [e98] at eg; cases eg; exact ⟨4, (sf_weak sf_k4 (by decide) (by decide)), e121⟩) (sf_aux51 _ _ R120))
          · have B122 : sf_B 0 0 z64 := sf_eqL (Classical.not_not.mp c66) sf_k0
            have B123 : lf_B 1818588019 1818588019 w := lf_eqB e65 B122 (⟨by decide, by decide⟩ : lf_B 1818588019 1818588019 1818588019)
            refine pm_R_op pm_M188 (pc_q := 67) (st_q := [.int 3, .int 3, .ref 52]) rfl rfl rfl ?_
            refine pm_R_br pm_M188 (pc_q := 83) rfl rfl ?_
            obtain ⟨f124, e125, b126⟩ := T.2.2.2.1 52 (by decide) (by decide)
            refine rf_R_ist pm_M188 T (pc_q := 84) rfl e125 (by decide) (by decide) rfl ⟨_, rfl, sf_upd b126 (sf_weak sf_k3 (by decide) (by decide)) _⟩ rfl (fun h127 T128 F129 e130 => ?_)
            have F131 := (rf_G.refl [41, 52] h).trans F129 (by decide)
            refine pm_R_lo pm_M188 (pc_q := 85) rfl rfl rfl ?_
            refine rf_R_get pm_M188 T128 (pc_q := 88) (v := .ref 52) rfl rfl rfl rfl ?_
            refine pm_R_op pm_M188 (pc_q := 89) (st_q := [.int 3, .ref 52]) rfl rfl rfl ?_
            refine pm_R_iald pm_M188 (pc_q := 90) (v := 3) rfl e130 (Nat.lt_of_lt_of_le (by decide) T128.1) rfl sf_upd_eq rfl ?_
            refine pm_R_op pm_M188 (pc_q := 91) (st_q := [.int (-1), .int 3]) rfl rfl rfl ?_
            refine pm_R_br pm_M188 (pc_q := 99) (st_q := []) rfl rfl ?_
            refine pm_R_lo pm_M188 (pc_q := 100) rfl rfl rfl ?_
            refine pm_R_cv pm_M188 (pc_q := 103) (a := 41) (ra := []) (rest := []) (ls_q := [.ref 41, pm_no, pm_no]) rfl rfl (Or.inl rfl) pm_M179 T128.2.1 rfl (by decide) (Nat.lt_of_lt_of_le (by decide) T128.1) rfl rfl (Nat.le_of_ble_eq_true rfl) rfl rfl ?_
            refine rf_c179 (d := d + 0) T128  (fun m136 w137 h138 T139 F140 W141 X142 X143 => ?_)
            have F144 := F131.trans F140 (by decide)
            have W145 : rf_W [10, 12, 13, 14, 16] m m136 := (rf_W.refl [10, 12, 13, 14, 16] m).trans W141 (by decide)
            have B146 : sf_B 0 600 (m136 10) := T139.2.2.1 10
            show pm_R _ 188 103 [.ref 41, .long w, pm_no] [] _ _
            have R147 : (m 10).toInt ≤ (m136 10).toInt := (sf_aux51 _ _ X142)
            refine pm_R_op pm_M188 (pc_q := 104) (st_q := [.int 1]) rfl rfl rfl ?_
            have e148 := (F140.cell (by decide) e130)
            exact pm_R_ret pm_M188 (r := some (.int 1)) rfl rfl (K1 m136 w137 h138 T139 F144 W145 (fun g eg => by rw [e125] at eg; cases eg; exact ⟨3, (sf_weak sf_k3 (by decide) (by decide)), e148⟩) (sf_aux51 _ _ R147))
        · have B149 : sf_B 0 0 z60 := sf_eqL (Classical.not_not.mp c62) sf_k0
          have B150 : lf_B 1886156147 1886156147 w := lf_eqB e61 B149 (⟨by decide, by decide⟩ : lf_B 1886156147 1886156147 1886156147)
          refine pm_R_op pm_M188 (pc_q := 55) (st_q := [.int 2, .int 3, .ref 52]) rfl rfl rfl ?_
          refine pm_R_br pm_M188 (pc_q := 83) rfl rfl ?_
          obtain ⟨f151, e152, b153⟩ := T.2.2.2.1 52 (by decide) (by decide)
          refine rf_R_ist pm_M188 T (pc_q := 84) rfl e152 (by decide) (by decide) rfl ⟨_, rfl, sf_upd b153 (sf_weak sf_k2 (by decide) (by decide)) _⟩ rfl (fun h154 T155 F156 e157 => ?_)
          have F158 := (rf_G.refl [41, 52] h).trans F156 (by decide)
          refine pm_R_lo pm_M188 (pc_q := 85) rfl rfl rfl ?_
          refine rf_R_get pm_M188 T155 (pc_q := 88) (v := .ref 52) rfl rfl rfl rfl ?_
          refine pm_R_op pm_M188 (pc_q := 89) (st_q := [.int 3, .ref 52]) rfl rfl rfl ?_
          refine pm_R_iald pm_M188 (pc_q := 90) (v := 2) rfl e157 (Nat.lt_of_lt_of_le (by decide) T155.1) rfl sf_upd_eq rfl ?_
          refine pm_R_op pm_M188 (pc_q := 91) (st_q := [.int (-1), .int 2]) rfl rfl rfl ?_
          refine pm_R_br pm_M188 (pc_q := 99) (st_q := []) rfl rfl ?_
          refine pm_R_lo pm_M188 (pc_q := 100) rfl rfl rfl ?_
          refine pm_R_cv pm_M188 (pc_q := 103) (a := 41) (ra := []) (rest := []) (ls_q := [.ref 41, pm_no, pm_no]) rfl rfl (Or.inl rfl) pm_M179 T155.2.1 rfl (by decide) (Nat.lt_of_lt_of_le (by decide) T155.1) rfl rfl (Nat.le_of_ble_eq_true rfl) rfl rfl ?_
          refine rf_c179 (d := d + 0) T155  (fun m163 w164 h165 T166 F167 W168 X169 X170 => ?_)
          have F171 := F158.trans F167 (by decide)
          have W172 : rf_W [10, 12, 13, 14, 16] m m163 := (rf_W.refl [10, 12, 13, 14, 16] m).trans W168 (by decide)
          have B173 : sf_B 0 600 (m163 10) := T166.2.2.1 10
          show pm_R _ 188 103 [.ref 41, .long w, pm_no] [] _ _
          have R174 : (m 10).toInt ≤ (m163 10).toInt := (sf_aux51 _ _ X169)
          refine pm_R_op pm_M188 (pc_q := 104) (st_q := [.int 1]) rfl rfl rfl ?_
          have e175 := (F167.cell (by decide) e157)
          exact pm_R_ret pm_M188 (r := some (.int 1)) rfl rfl (K1 m163 w164 h165 T166 F171 W172 (fun g eg => by rw [e152] at eg; cases eg; exact ⟨2, (sf_weak sf_k2 (by decide) (by decide)), e175⟩) (sf_aux51 _ _ R174))
      · have B176 : sf_B 0 0 z56 := sf_eqL (Classical.not_not.mp c58) sf_k0
        have B177 : lf_B 1952541036 1952541036 w := lf_eqB e57 B176 (⟨by decide, by decide⟩ : lf_B 1952541036 1952541036 1952541036)
        refine pm_R_op pm_M188 (pc_q := 43) (st_q := [.int 1, .int 3, .ref 52]) rfl rfl rfl ?_
        refine pm_R_br pm_M188 (pc_q := 83) rfl rfl ?_
        obtain ⟨f178, e179, b180⟩ := T.2.2.2.1 52 (by decide) (by decide)
        refine rf_R_ist pm_M188 T (pc_q := 84) rfl e179 (by decide) (by decide) rfl ⟨_, rfl, sf_upd b180 (sf_weak sf_k1 (by decide) (by decide)) _⟩ rfl (fun h181 T182 F183 e184 => ?_)
        have F185 := (rf_G.refl [41, 52] h).trans F183 (by decide)
        refine pm_R_lo pm_M188 (pc_q := 85) rfl rfl rfl ?_
        refine rf_R_get pm_M188 T182 (pc_q := 88) (v := .ref 52) rfl rfl rfl rfl ?_
        refine pm_R_op pm_M188 (pc_q := 89) (st_q := [.int 3, .ref 52]) rfl rfl rfl ?_
        refine pm_R_iald pm_M188 (pc_q := 90) (v := 1) rfl e184 (Nat.lt_of_lt_of_le (by decide) T182.1) rfl sf_upd_eq rfl ?_
        refine pm_R_op pm_M188 (pc_q := 91) (st_q := [.int (-1), .int 1]) rfl rfl rfl ?_
        refine pm_R_br pm_M188 (pc_q := 99) (st_q := []) rfl rfl ?_
        refine pm_R_lo pm_M188 (pc_q := 100) rfl rfl rfl ?_
        refine pm_R_cv pm_M188 (pc_q := 103) (a := 41) (ra := []) (rest := []) (ls_q := [.ref 41, pm_no, pm_no]) rfl rfl (Or.inl rfl) pm_M179 T182.2.1 rfl (by decide) (Nat.lt_of_lt_of_le (by decide) T182.1) rfl rfl (Nat.le_of_ble_eq_true rfl) rfl rfl ?_
        refine rf_c179 (d := d + 0) T182  (fun m190 w191 h192 T193 F194 W195 X196 X197 => ?_)
        have F198 := F185.trans F194 (by decide)
        have W199 : rf_W [10, 12, 13, 14, 16] m m190 := (rf_W.refl [10, 12, 13, 14, 16] m).trans W195 (by decide)
        have B200 : sf_B 0 600 (m190 10) := T193.2.2.1 10
        show pm_R _ 188 103 [.ref 41, .long w, pm_no] [] _ _
        have R201 : (m 10).toInt ≤ (m190 10).toInt := (sf_aux51 _ _ X196)
        refine pm_R_op pm_M188 (pc_q := 104) (st_q := [.int 1]) rfl rfl rfl ?_
        have e202 := (F194.cell (by decide) e184)
        exact pm_R_ret pm_M188 (r := some (.int 1)) rfl rfl (K1 m190 w191 h192 T193 F198 W199 (fun g eg => by rw [e179] at eg; cases eg; exact ⟨1, (sf_weak sf_k1 (by decide) (by decide)), e202⟩) (sf_aux51 _ _ R201))
    · have B203 : sf_B 0 0 z52 := sf_eqL (Classical.not_not.mp c54) sf_k0
      have B204 : lf_B 1751474532 1751474532 w := lf_eqB e53 B203 (⟨by decide, by decide⟩ : lf_B 1751474532 1751474532 1751474532)
      refine pm_R_op pm_M188 (pc_q := 31) (st_q := [.int 0, .int 3, .ref 52]) rfl rfl rfl ?_
      refine pm_R_br pm_M188 (pc_q := 83) rfl rfl ?_
      obtain ⟨f205, e206, b207⟩ := T.2.2.2.1 52 (by decide) (by decide)
      refine rf_R_ist pm_M188 T (pc_q := 84) rfl e206 (by decide) (by decide) rfl ⟨_, rfl, sf_upd b207 (sf_weak sf_k0 (by decide) (by decide)) _⟩ rfl (fun h208 T209 F210 e211 => ?_)
      have F212 := (rf_G.refl [41, 52] h).trans F210 (by decide)
      refine pm_R_lo pm_M188 (pc_q := 85) rfl rfl rfl ?_
      refine rf_R_get pm_M188 T209 (pc_q := 88) (v := .ref 52) rfl rfl rfl rfl ?_
      refine pm_R_op pm_M188 (pc_q := 89) (st_q := [.int 3, .ref 52]) rfl rfl rfl ?_
      refine pm_R_iald pm_M188 (pc_q := 90) (v := 0) rfl e211 (Nat.lt_of_lt_of_le (by decide) T209.1) rfl sf_upd_eq rfl ?_
      refine pm_R_op pm_M188 (pc_q := 91) (st_q := [.int (-1), .int 0]) rfl rfl rfl ?_
      refine pm_R_br pm_M188 (pc_q := 99) (st_q := []) rfl rfl ?_
      refine pm_R_lo pm_M188 (pc_q := 100) rfl rfl rfl ?_
      refine pm_R_cv pm_M188 (pc_q := 103) (a := 41) (ra := []) (rest := []) (ls_q := [.ref 41, pm_no, pm_no]) rfl rfl (Or.inl rfl) pm_M179 T209.2.1 rfl (by decide) (Nat.lt_of_lt_of_le (by decide) T209.1) rfl rfl (Nat.le_of_ble_eq_true rfl) rfl rfl ?_
      refine rf_c179 (d := d + 0) T209  (fun m217 w218 h219 T220 F221 W222 X223 X224 => ?_)
      have F225 := F212.trans F221 (by decide)
      have W226 : rf_W [10, 12, 13, 14, 16] m m217 := (rf_W.refl [10, 12, 13, 14, 16] m).trans W222 (by decide)
      have B227 : sf_B 0 600 (m217 10) := T220.2.2.1 10
      show pm_R _ 188 103 [.ref 41, .long w, pm_no] [] _ _
      have R228 : (m 10).toInt ≤ (m217 10).toInt := (sf_aux51 _ _ X223)
      refine pm_R_op pm_M188 (pc_q := 104) (st_q := [.int 1]) rfl rfl rfl ?_
      have e229 := (F221.cell (by decide) e211)
      exact pm_R_ret pm_M188 (r := some (.int 1)) rfl rfl (K1 m217 w218 h219 T220 F225 W226 (fun g eg => by rw [e206] at eg; cases eg; exact ⟨0, (sf_weak sf_k0 (by decide) (by decide)), e229⟩) (sf_aux51 _ _ R228))

theorem sf_aux53 (v0 v1 v2 : Int) (q0 : v0 = v1) (q1 : v0 ≤ v2) : v1 ≤ v2 := by omega
theorem sf_aux54 (v0 v1 v2 : Int) (q0 : v0 = v1) (q1 : v0 + 1 ≤ v2) : v1 + 1 ≤ v2 := by omega
theorem sf_aux55 (v0 v1 : Int) (q0 : v0 + 1 ≤ v1) : v0 + 1 ≤ v1 := by omega
set_option maxRecDepth 100000 in
set_option maxHeartbeats 4000000 in
/-- SilentTableModel.take -/
theorem rf_c183_0_5 {d : Nat} {m : Nat → Int32} {w : Int64} {h : pm_H} {Q : Option Value → pm_H → Prop} {a2 : Int32} (T : rf_T m w h)  (K0 : ∀ (m_q : Nat → Int32) (w_q : Int64) (h_q : pm_H), rf_T m_q w_q h_q → rf_G [41, 52] h h_q → rf_W [10, 12, 13, 14, 16, 17, 18, 22] m m_q → (m 10).toInt ≤ (m_q 10).toInt → Q (some (.int 0)) h_q) (K1 : ∀ (m_q : Nat → Int32) (w_q : Int64) (h_q : pm_H), rf_T m_q w_q h_q → rf_G [41, 52] h h_q → rf_W [10, 12, 13, 14, 16, 17, 18, 22] m m_q → (∀ g : Nat → Int32, h.2.2 52 = .inl (0, 4, .inl g) → ∃ v, sf_B 0 5 v ∧ h_q.2.2 52 = .inl (0, 4, .inl (upd g (Int32.toNatClampNeg 0) v))) → (m_q 17).toInt = (m 17).toInt → (m_q 22).toInt = (m 22).toInt → ((m 10).toInt + 1 ≤ (m_q 10).toInt ∨ (m_q 13).toInt = 0) → (m 10).toInt ≤ (m_q 10).toInt → Q (some (.int 1)) h_q) (K2 : ∀ (m_q : Nat → Int32) (w_q : Int64) (h_q : pm_H), rf_T m_q w_q h_q → rf_G [41, 52] h h_q → rf_W [10, 12, 13, 14, 16, 17, 18, 22] m m_q → (∀ g : Nat → Int32, h.2.2 52 = .inl (0, 4, .inl g) → ∃ v, sf_B 0 99 v ∧ h_q.2.2 52 = .inl (0, 4, .inl (upd g (Int32.toNatClampNeg 0) v))) → ((m 10).toInt + 1 ≤ (m_q 10).toInt ∨ (m_q 13).toInt = 0) → (m 10).toInt ≤ (m_q 10).toInt → sf_B 1 4 (m_q 17) → sf_B 0 0 (m_q 22) → Q (some (.int 1)) h_q) : pm_R (d + 2) 183 0 [.ref 41, .int 0, .int 5, .int a2] [] h Q := by
  have B1 : sf_B 0 600 (m 10) := T.2.2.1 10
  have B2 : sf_B 0 4 (m 17) := T.2.2.1 17
  have B3 : sf_B 0 1 (m 22) := T.2.2.1 22
  obtain ⟨f4, e5, b6⟩ := T.2.2.2.1 52 (by decide) (by decide)
  refine pm_R_lo pm_M183 (pc_q := 1) rfl rfl rfl ?_
  have B7 : sf_B 0 4 (m 13) := T.2.2.1 13
  refine rf_R_get pm_M183 T (pc_q := 4) (v := .int (m 13)) rfl rfl rfl rfl ?_
  refine pm_R_op pm_M183 (pc_q := 5) (st_q := [.int 3, .int (m 13)]) rfl rfl rfl ?_
  refine pm_R_icmp pm_M183 (t := 13) (pc_q := 8) rfl rfl rfl (fun c8 => ?_) (fun c8 => ?_)
  · have B9 : sf_B 3 3 (m 13) := sf_eqL c8 sf_k3
    refine pm_R_lo pm_M183 (pc_q := 14) rfl rfl rfl ?_
    refine rf_R_get pm_M183 T (pc_q := 17) (v := .ref 52) rfl rfl rfl rfl ?_
    refine pm_R_lo pm_M183 (pc_q := 18) rfl rfl rfl ?_
    refine pm_R_lo pm_M183 (pc_q := 19) rfl rfl rfl ?_
    have B10 : sf_B 0 99 (m 14) := T.2.2.1 14
    refine rf_R_get pm_M183 T (pc_q := 22) (v := .int (m 14)) rfl rfl rfl rfl ?_
    refine rf_R_ist pm_M183 T (pc_q := 23) rfl e5 (by decide) (by decide) rfl ⟨_, rfl, sf_upd b6 (sf_weak B10 (by decide) (by decide)) _⟩ rfl (fun h11 T12 F13 e14 => ?_)
    have F15 := (rf_G.refl [41, 52] h).trans F13 (by decide)
    refine pm_R_lo pm_M183 (pc_q := 24) rfl rfl rfl ?_
    refine rf_R_get pm_M183 T12 (pc_q := 27) (v := .int (m 14)) rfl rfl rfl rfl ?_
    refine pm_R_lo pm_M183 (pc_q := 28) rfl rfl rfl ?_
    refine pm_R_icmp pm_M183 (t := 39) (pc_q := 31) rfl rfl rfl (fun c16 => ?_) (fun c16 => ?_)
    · have B17 : sf_B 6 99 (m 14) := sf_ltR c16 sf_k5 B10
      refine pm_R_lo pm_M183 (pc_q := 40) rfl rfl rfl ?_
      refine pm_R_op pm_M183 (pc_q := 41) (st_q := [.int 2, .ref 41]) rfl rfl rfl ?_
      refine pm_R_lo pm_M183 (pc_q := 42) rfl rfl rfl ?_
      have B18 : sf_B 0 600 (m 12) := T12.2.2.1 12
      refine rf_R_get pm_M183 T12 (pc_q := 45) (v := .int (m 12)) rfl rfl rfl rfl ?_
      refine pm_R_cv pm_M183 (pc_q := 48) (a := 41) (ra := [.int (m 12), .int 2]) (rest := []) (ls_q := [.ref 41, .int 2, .int (m 12)]) rfl rfl (Or.inl rfl) pm_M182 T12.2.1 rfl (by decide) (Nat.lt_of_lt_of_le (by decide) T12.1) rfl rfl (Nat.le_of_ble_eq_true rfl) rfl rfl ?_
      refine rf_c182 (d := d + 1) T12 (sf_weak sf_k2 (by decide) (by decide)) B18 (fun m21 w22 h23 T24 F25 W26 B27 => ?_)
      have F28 := F15.trans F25 (by decide)
      have B29 : sf_B 0 600 (m21 10) := by rw [W26 10 (by decide)]; exact B1
      have ek30 : (m21 10).toInt = ((m 10)).toInt := by rw [W26 10 (by decide)]
      have B31 : sf_B 0 1 (m21 22) := by rw [W26 22 (by decide)]; exact B3
      have ek32 : (m21 22).toInt = ((m 22)).toInt := by rw [W26 22 (by decide)]
      have B33 : sf_B 3 3 (m21 13) := by rw [W26 13 (by decide)]; exact B9
      have B34 : sf_B 6 99 (m21 14) := by rw [W26 14 (by decide)]; exact B17
      have W35 : rf_W [10, 12, 13, 14, 16, 17, 18, 22] m m21 := (rf_W.refl [10, 12, 13, 14, 16, 17, 18, 22] m).trans W26 (by decide)
      have B36 : sf_B 0 4 (m21 17) := T24.2.2.1 17
      show pm_R _ 183 48 [.ref 41, .int 0, .int 5, .int a2] [] _ _
      refine pm_R_lo pm_M183 (pc_q := 49) rfl rfl rfl ?_
      refine pm_R_op pm_M183 (pc_q := 50) (st_q := [.int 0, .ref 41]) rfl rfl rfl ?_
      refine rf_R_put pm_M183 T24 (pc_q := 53) rfl rfl rfl (by decide) rfl rfl (sf_weak sf_k0 (by decide) (by decide)) rfl rfl (fun h37 m40 em41 T38 F39 => ?_)
      have F42 := F28.trans F39 (by decide)
      have B43 : sf_B 0 600 (m40 10) := by rw [em41]; exact B29
      have ek44 : (m40 10).toInt = ((m 10)).toInt := by rw [em41]; exact ek30
      have B45 : sf_B 3 3 (m40 13) := by rw [em41]; exact B33
      have B46 : sf_B 6 99 (m40 14) := by rw [em41]; exact B34
      have B47 : sf_B 1 4 (m40 17) := by rw [em41]; exact B27
      have ek48 : (m40 17).toInt = ((m21 17)).toInt := by rw [em41]; rfl
      have B49 : sf_B 0 0 (m40 22) := by rw [em41]; exact sf_k0
      have W51 : rf_W [10, 12, 13, 14, 16, 17, 18, 22] m m40 := by rw [em41]; exact W35.put (by decide)
      refine pm_R_lo pm_M183 (pc_q := 54) rfl rfl rfl ?_
      refine pm_R_cv pm_M183 (pc_q := 57) (a := 41) (ra := []) (rest := []) (ls_q := [.ref 41, pm_no, pm_no]) rfl rfl (Or.inl rfl) pm_M179 T38.2.1 rfl (by decide) (Nat.lt_of_lt_of_le (by decide) T38.1) rfl rfl (Nat.le_of_ble_eq_true rfl) rfl rfl ?_
      refine rf_c179 (d := d + 0) T38  (fun m54 w55 h56 T57 F58 W59 X60 X61 => ?_)
      have F62 := F42.trans F58 (by decide)
      have B63 : sf_B 1 4 (m54 17) := by rw [W59 17 (by decide)]; exact B47
      have ek64 : (m54 17).toInt = ((m21 17)).toInt := by rw [W59 17 (by decide)]; exact ek48
      have B65 : sf_B 0 0 (m54 22) := by rw [W59 22 (by decide)]; exact B49
      have ek66 : (m54 22).toInt = ((m40 22)).toInt := by rw [W59 22 (by decide)]
      have W67 : rf_W [10, 12, 13, 14, 16, 17, 18, 22] m m54 := W51.trans W59 (by decide)
      have B68 : sf_B 0 600 (m54 10) := T57.2.2.1 10
      show pm_R _ 183 57 [.ref 41, .int 0, .int 5, .int a2] [] _ _
      have R69 : (m 10).toInt ≤ (m54 10).toInt := (sf_aux53 _ _ _ ek44 X60)
      refine pm_R_op pm_M183 (pc_q := 58) (st_q := [.int 1]) rfl rfl rfl ?_
      have e70 := (F58.cell (by decide) (F39.cell (by decide) (F25.cell (by decide) e14)))
      exact pm_R_ret pm_M183 (r := some (.int 1)) rfl rfl (K2 m54 w55 h56 T57 F62 W67 (fun g eg => by rw [e5] at eg; cases eg; exact ⟨(m 14), (sf_weak B17 (by decide) (by decide)), e70⟩) (X61.imp (fun q => (sf_aux54 _ _ _ ek44 q)) id) (sf_aux51 _ _ R69) B63 B65)
    · have B71 : sf_B 0 5 (m 14) := sf_leL (Int32.not_lt.mp c16) B10 sf_k5
      refine pm_R_lo pm_M183 (pc_q := 32) rfl rfl rfl ?_
      refine rf_R_get pm_M183 T12 (pc_q := 35) (v := .int (m 14)) rfl rfl rfl rfl ?_
      refine pm_R_lo pm_M183 (pc_q := 36) rfl rfl rfl ?_
      refine pm_R_icmp pm_M183 (t := 53) (pc_q := 39) rfl rfl rfl (fun c72 => ?_) (fun c72 => ?_)
      · skip
        refine pm_R_lo pm_M183 (pc_q := 54) rfl rfl rfl ?_
        refine pm_R_cv pm_M183 (pc_q := 57) (a := 41) (ra := []) (rest := []) (ls_q := [.ref 41, pm_no, pm_no]) rfl rfl (Or.inl rfl) pm_M179 T12.2.1 rfl (by decide) (Nat.lt_of_lt_of_le (by decide) T12.1) rfl rfl (Nat.le_of_ble_eq_true rfl) rfl rfl ?_
        refine rf_c179 (d := d + 0) T12  (fun m75 w76 h77 T78 F79 W80 X81 X82 => ?_)
        have F83 := F15.trans F79 (by decide)
        have B84 : sf_B 0 4 (m75 17) := by rw [W80 17 (by decide)]; exact B2
        have ek85 : (m75 17).toInt = ((m 17)).toInt := by rw [W80 17 (by decide)]
        have B86 : sf_B 0 1 (m75 22) := by rw [W80 22 (by decide)]; exact B3
        have ek87 : (m75 22).toInt = ((m 22)).toInt := by rw [W80 22 (by decide)]
        have W88 : rf_W [10, 12, 13, 14, 16, 17, 18, 22] m m75 := (rf_W.refl [10, 12, 13, 14, 16, 17, 18, 22] m).trans W80 (by decide)
        have B89 : sf_B 0 600 (m75 10) := T78.2.2.1 10
        show pm_R _ 183 57 [.ref 41, .int 0, .int 5, .int a2] [] _ _
        have R90 : (m 10).toInt ≤ (m75 10).toInt := (sf_aux51 _ _ X81)
        refine pm_R_op pm_M183 (pc_q := 58) (st_q := [.int 1]) rfl rfl rfl ?_
        have e91 := (F79.cell (by decide) e14)
        exact pm_R_ret pm_M183 (r := some (.int 1)) rfl rfl (K1 m75 w76 h77 T78 F83 W88 (fun g eg => by rw [e5] at eg; cases eg; exact ⟨(m 14), B71, e91⟩) (sf_aux37 _ _ ek85) (sf_aux37 _ _ ek87) (X82.imp (fun q => (sf_aux55 _ _ q)) id) (sf_aux51 _ _ R90))
      · have B92 : sf_B 0 5 a2 := sf_eqR (Classical.not_not.mp c72) B71
        refine pm_R_lo pm_M183 (pc_q := 40) rfl rfl rfl ?_
        refine pm_R_op pm_M183 (pc_q := 41) (st_q := [.int 2, .ref 41]) rfl rfl rfl ?_
        refine pm_R_lo pm_M183 (pc_q := 42) rfl rfl rfl ?_
        have B93 : sf_B 0 600 (m 12) := T12.2.2.1 12
        refine rf_R_get pm_M183 T12 (pc_q := 45) (v := .int (m 12)) rfl rfl rfl rfl ?_
        refine pm_R_cv pm_M183 (pc_q := 48) (a := 41) (ra := [.int (m 12), .int 2]) (rest := []) (ls_q := [.ref 41, .int 2, .int (m 12)]) rfl rfl (Or.inl rfl) pm_M182 T12.2.1 rfl (by decide) (Nat.lt_of_lt_of_le (by decide) T12.1) rfl rfl (Nat.le_of_ble_eq_true rfl) rfl rfl ?_
        refine rf_c182 (d := d + 1) T12 (sf_weak sf_k2 (by decide) (by decide)) B93 (fun m96 w97 h98 T99 F100 W101 B102 => ?_)
        have F103 := F15.trans F100 (by decide)
        have B104 : sf_B 0 600 (m96 10) := by rw [W101 10 (by decide)]; exact B1
        have ek105 : (m96 10).toInt = ((m 10)).toInt := by rw [W101 10 (by decide)]
        have B106 : sf_B 0 1 (m96 22) := by rw [W101 22 (by decide)]; exact B3
        have ek107 : (m96 22).toInt = ((m 22)).toInt := by rw [W101 22 (by decide)]
        have B108 : sf_B 3 3 (m96 13) := by rw [W101 13 (by decide)]; exact B9
        have B109 : sf_B 0 5 (m96 14) := by rw [W101 14 (by decide)]; exact B71
        have W110 : rf_W [10, 12, 13, 14, 16, 17, 18, 22] m m96 := (rf_W.refl [10, 12, 13, 14, 16, 17, 18, 22] m).trans W101 (by decide)
        have B111 : sf_B 0 4 (m96 17) := T99.2.2.1 17
        show pm_R _ 183 48 [.ref 41, .int 0, .int 5, .int a2] [] _ _
        refine pm_R_lo pm_M183 (pc_q := 49) rfl rfl rfl ?_
        refine pm_R_op pm_M183 (pc_q := 50) (st_q := [.int 0, .ref 41]) rfl rfl rfl ?_
        refine rf_R_put pm_M183 T99 (pc_q := 53) rfl rfl rfl (by decide) rfl rfl (sf_weak sf_k0 (by decide) (by decide)) rfl rfl (fun h112 m115 em116 T113 F114 => ?_)
        have F117 := F103.trans F114 (by decide)
        have B118 : sf_B 0 600 (m115 10) := by rw [em116]; exact B104
        have ek119 : (m115 10).toInt = ((m 10)).toInt := by rw [em116]; exact ek105
        have B120 : sf_B 3 3 (m115 13) := by rw [em116]; exact B108
        have B121 : sf_B 0 5 (m115 14) := by rw [em116]; exact B109
        have B122 : sf_B 1 4 (m115 17) := by rw [em116]; exact B102
        have ek123 : (m115 17).toInt = ((m96 17)).toInt := by rw [em116]; rfl
        have B124 : sf_B 0 0 (m115 22) := by rw [em116]; exact sf_k0
        have W126 : rf_W [10, 12, 13, 14, 16, 17, 18, 22] m m115 := by rw [em116]; exact W110.put (by decide)
        refine pm_R_lo pm_M183 (pc_q := 54) rfl rfl rfl ?_
        refine pm_R_cv pm_M183 (pc_q := 57) (a := 41) (ra := []) (rest := []) (ls_q := [.ref 41, pm_no, pm_no]) rfl rfl (Or.inl rfl) pm_M179 T113.2.1 rfl (by decide) (Nat.lt_of_lt_of_le (by decide) T113.1) rfl rfl (Nat.le_of_ble_eq_true rfl) rfl rfl ?_
        refine rf_c179 (d := d + 0) T113  (fun m129 w130 h131 T132 F133 W134 X135 X136 => ?_)
        have F137 := F117.trans F133 (by decide)
        have B138 : sf_B 1 4 (m129 17) := by rw [W134 17 (by decide)]; exact B122
        have ek139 : (m129 17).toInt = ((m96 17)).toInt := by rw [W134 17 (by decide)]; exact ek123
        have B140 : sf_B 0 0 (m129 22) := by rw [W134 22 (by decide)]; exact B124
        have ek141 : (m129 22).toInt = ((m115 22)).toInt := by rw [W134 22 (by decide)]
        have W142 : rf_W [10, 12, 13, 14, 16, 17, 18, 22] m m129 := W126.trans W134 (by decide)
        have B143 : sf_B 0 600 (m129 10) := T132.2.2.1 10
        show pm_R _ 183 57 [.ref 41, .int 0, .int 5, .int a2] [] _ _
        have R144 : (m 10).toInt ≤ (m129 10).toInt := (sf_aux53 _ _ _ ek119 X135)
        refine pm_R_op pm_M183 (pc_q := 58) (st_q := [.int 1]) rfl rfl rfl ?_
        have e145 := (F133.cell (by decide) (F114.cell (by decide) (F100.cell (by decide) e14)))
        exact pm_R_ret pm_M183 (r := some (.int 1)) rfl rfl (K2 m129 w130 h131 T132 F137 W142 (fun g eg => by rw [e5] at eg; cases eg; exact ⟨(m 14), (sf_weak B71 (by decide) (by decide)), e145⟩) (X136.imp (fun q => (sf_aux54 _ _ _ ek119 q)) id) (sf_aux51 _ _ R144) B138 B140)
  · skip
    refine pm_R_lo pm_M183 (pc_q := 9) rfl rfl rfl ?_
    refine pm_R_cv pm_M183 (pc_q := 12) (a := 41) (ra := []) (rest := []) (ls_q := [.ref 41]) rfl rfl (Or.inl rfl) pm_M184 T.2.1 rfl (by decide) (Nat.lt_of_lt_of_le (by decide) T.1) rfl rfl (Nat.le_of_ble_eq_true rfl) rfl rfl ?_
    refine pm_R_lo pm_M184 (pc_q := 1) rfl rfl rfl ?_
    refine pm_R_lo pm_M184 (pc_q := 2) rfl rfl rfl ?_
    have B146 : sf_B 0 600 (m 12) := T.2.2.1 12
    refine rf_R_get pm_M184 T (pc_q := 5) (v := .int (m 12)) rfl rfl rfl rfl ?_
    refine rf_R_put pm_M184 T (pc_q := 8) rfl rfl rfl (by decide) rfl rfl B146 rfl rfl (fun h147 m150 em151 T148 F149 => ?_)
    have F152 := (rf_G.refl [41, 52] h).trans F149 (by decide)
    have B153 : sf_B 0 600 (m150 10) := by rw [em151]; exact B1
    have ek154 : (m150 10).toInt = ((m 10)).toInt := by rw [em151]; rfl
    have B155 : sf_B 0 4 (m150 17) := by rw [em151]; exact B2
    have ek156 : (m150 17).toInt = ((m 17)).toInt := by rw [em151]; rfl
    have B157 : sf_B 0 1 (m150 22) := by rw [em151]; exact B3
    have ek158 : (m150 22).toInt = ((m 22)).toInt := by rw [em151]; rfl
    have B159 : sf_B 0 600 (m150 16) := by rw [em151]; exact B146
    have ek160 : (m150 16).toInt = ((m 12)).toInt := by rw [em151]; rfl
    have W161 : rf_W [10, 12, 13, 14, 16, 17, 18, 22] m m150 := by rw [em151]; exact (rf_W.refl [10, 12, 13, 14, 16, 17, 18, 22] m).put (by decide)
    refine pm_R_op pm_M184 (pc_q := 9) (st_q := [.int 0]) rfl rfl rfl ?_
    refine pm_R_ret pm_M184 (r := some (.int 0)) rfl rfl ?_
    show pm_R _ 183 12 [.ref 41, .int 0, .int 5, .int a2] [.int 0] _ _
    exact pm_R_ret pm_M183 (r := some (.int 0)) rfl rfl (K0 m150 w h147 T148 F152 W161 (sf_aux52 _ _ ek154))

set_option maxRecDepth 100000 in
set_option maxHeartbeats 4000000 in
/-- SilentTableModel.take -/
theorem rf_c183_1_5 {d : Nat} {m : Nat → Int32} {w : Int64} {h : pm_H} {Q : Option Value → pm_H → Prop} {a2 : Int32} (T : rf_T m w h)  (K0 : ∀ (m_q : Nat → Int32) (w_q : Int64) (h_q : pm_H), rf_T m_q w_q h_q → rf_G [41, 52] h h_q → rf_W [10, 12, 13, 14, 16, 17, 18, 22] m m_q → (m 10).toInt ≤ (m_q 10).toInt → Q (some (.int 0)) h_q) (K1 : ∀ (m_q : Nat → Int32) (w_q : Int64) (h_q : pm_H), rf_T m_q w_q h_q → rf_G [41, 52] h h_q → rf_W [10, 12, 13, 14, 16, 17, 18, 22] m m_q → (∀ g : Nat → Int32, h.2.2 52 = .inl (0, 4, .inl g) → ∃ v, sf_B 0 5 v ∧ h_q.2.2 52 = .inl (0, 4, .inl (upd g (Int32.toNatClampNeg 1) v))) → (m_q 17).toInt = (m 17).toInt → (m_q 22).toInt = (m 22).toInt → ((m 10).toInt + 1 ≤ (m_q 10).toInt ∨ (m_q 13).toInt = 0) → (m 10).toInt ≤ (m_q 10).toInt → Q (some (.int 1)) h_q) (K2 : ∀ (m_q : Nat → Int32) (w_q : Int64) (h_q : pm_H), rf_T m_q w_q h_q → rf_G [41, 52] h h_q → rf_W [10, 12, 13, 14, 16, 17, 18, 22] m m_q → (∀ g : Nat → Int32, h.2.2 52 = .inl (0, 4, .inl g) → ∃ v, sf_B 0 99 v ∧ h_q.2.2 52 = .inl (0, 4, .inl (upd g (Int32.toNatClampNeg 1) v))) → ((m 10).toInt + 1 ≤ (m_q 10).toInt ∨ (m_q 13).toInt = 0) → (m 10).toInt ≤ (m_q 10).toInt → sf_B 1 4 (m_q 17) → sf_B 0 0 (m_q 22) → Q (some (.int 1)) h_q) : pm_R (d + 2) 183 0 [.ref 41, .int 1, .int 5, .int a2] [] h Q := by
  have B1 : sf_B 0 600 (m 10) := T.2.2.1 10
  have B2 : sf_B 0 4 (m 17) := T.2.2.1 17
  have B3 : sf_B 0 1 (m 22) := T.2.2.1 22
  obtain ⟨f4, e5, b6⟩ := T.2.2.2.1 52 (by decide) (by decide)
  refine pm_R_lo pm_M183 (pc_q := 1) rfl rfl rfl ?_
  have B7 : sf_B 0 4 (m 13) := T.2.2.1 13
  refine rf_R_get pm_M183 T (pc_q := 4) (v := .int (m 13)) rfl rfl rfl rfl ?_
  refine pm_R_op pm_M183 (pc_q := 5) (st_q := [.int 3, .int (m 13)]) rfl rfl rfl ?_
  refine pm_R_icmp pm_M183 (t := 13) (pc_q := 8) rfl rfl rfl (fun c8 => ?_) (fun c8 => ?_)
  · have B9 : sf_B 3 3 (m 13) := sf_eqL c8 sf_k3
    refine pm_R_lo pm_M183 (pc_q := 14) rfl rfl rfl ?_
    refine rf_R_get pm_M183 T (pc_q := 17) (v := .ref 52) rfl rfl rfl rfl ?_
    refine pm_R_lo pm_M183 (pc_q := 18) rfl rfl rfl ?_
    refine pm_R_lo pm_M183 (pc_q := 19) rfl rfl rfl ?_
    have B10 : sf_B 0 99 (m 14) := T.2.2.1 14
    refine rf_R_get pm_M183 T (pc_q := 22) (v := .int (m 14)) rfl rfl rfl rfl ?_
    refine rf_R_ist pm_M183 T (pc_q := 23) rfl e5 (by decide) (by decide) rfl ⟨_, rfl, sf_upd b6 (sf_weak B10 (by decide) (by decide)) _⟩ rfl (fun h11 T12 F13 e14 => ?_)
    have F15 := (rf_G.refl [41, 52] h).trans F13 (by decide)
    refine pm_R_lo pm_M183 (pc_q := 24) rfl rfl rfl ?_
    refine rf_R_get pm_M183 T12 (pc_q := 27) (v := .int (m 14)) rfl rfl rfl rfl ?_
    refine pm_R_lo pm_M183 (pc_q := 28) rfl rfl rfl ?_
    refine pm_R_icmp pm_M183 (t := 39) (pc_q := 31) rfl rfl rfl (fun c16 => ?_) (fun c16 => ?_)
    · have B17 : sf_B 6 99 (m 14) := sf_ltR c16 sf_k5 B10
      refine pm_R_lo pm_M183 (pc_q := 40) rfl rfl rfl ?_
      refine pm_R_op pm_M183 (pc_q := 41) (st_q := [.int 2, .ref 41]) rfl rfl rfl ?_
      refine pm_R_lo pm_M183 (pc_q := 42) rfl rfl rfl ?_
      have B18 : sf_B 0 600 (m 12) := T12.2.2.1 12
      refine rf_R_get pm_M183 T12 (pc_q := 45) (v := .int (m 12)) rfl rfl rfl rfl ?_
      refine pm_R_cv pm_M183 (pc_q := 48) (a := 41) (ra := [.int (m 12), .int 2]) (rest := []) (ls_q := [.ref 41, .int 2, .int (m 12)]) rfl rfl (Or.inl rfl) pm_M182 T12.2.1 rfl (by decide) (Nat.lt_of_lt_of_le (by decide) T12.1) rfl rfl (Nat.le_of_ble_eq_true rfl) rfl rfl ?_
      refine rf_c182 (d := d + 1) T12 (sf_weak sf_k2 (by decide) (by decide)) B18 (fun m21 w22 h23 T24 F25 W26 B27 => ?_)
      have F28 := F15.trans F25 (by decide)
      have B29 : sf_B 0 600 (m21 10) := by rw [W26 10 (by decide)]; exact B1
      have ek30 : (m21 10).toInt = ((m 10)).toInt := by rw [W26 10 (by decide)]
      have B31 : sf_B 0 1 (m21 22) := by rw [W26 22 (by decide)]; exact B3
      have ek32 : (m21 22).toInt = ((m 22)).toInt := by rw [W26 22 (by decide)]
      have B33 : sf_B 3 3 (m21 13) := by rw [W26 13 (by decide)]; exact B9
      have B34 : sf_B 6 99 (m21 14) := by rw [W26 14 (by decide)]; exact B17
      have W35 : rf_W [10, 12, 13, 14, 16, 17, 18, 22] m m21 := (rf_W.refl [10, 12, 13, 14, 16, 17, 18, 22] m).trans W26 (by decide)
      have B36 : sf_B 0 4 (m21 17) := T24.2.2.1 17
      show pm_R _ 183 48 [.ref 41, .int 1, .int 5, .int a2] [] _ _
      refine pm_R_lo pm_M183 (pc_q := 49) rfl rfl rfl ?_
      refine pm_R_op pm_M183 (pc_q := 50) (st_q := [.int 0, .ref 41]) rfl rfl rfl ?_
      refine rf_R_put pm_M183 T24 (pc_q := 53) rfl rfl rfl (by decide) rfl rfl (sf_weak sf_k0 (by decide) (by decide)) rfl rfl (fun h37 m40 em41 T38 F39 => ?_)
      have F42 := F28.trans F39 (by decide)
      have B43 : sf_B 0 600 (m40 10) := by rw [em41]; exact B29
      have ek44 : (m40 10).toInt = ((m 10)).toInt := by rw [em41]; exact ek30
      have B45 : sf_B 3 3 (m40 13) := by rw [em41]; exact B33
      have B46 : sf_B 6 99 (m40 14) := by rw [em41]; exact B34
      have B47 : sf_B 1 4 (m40 17) := by rw [em41]; exact B27
      have ek48 : (m40 17).toInt = ((m21 17)).toInt := by rw [em41]; rfl
      have B49 : sf_B 0 0 (m40 22) := by rw [em41]; exact sf_k0
      have W51 : rf_W [10, 12, 13, 14, 16, 17, 18, 22] m m40 := by rw [em41]; exact W35.put (by decide)
      refine pm_R_lo pm_M183 (pc_q := 54) rfl rfl rfl ?_
      refine pm_R_cv pm_M183 (pc_q := 57) (a := 41) (ra := []) (rest := []) (ls_q := [.ref 41, pm_no, pm_no]) rfl rfl (Or.inl rfl) pm_M179 T38.2.1 rfl (by decide) (Nat.lt_of_lt_of_le (by decide) T38.1) rfl rfl (Nat.le_of_ble_eq_true rfl) rfl rfl ?_
      refine rf_c179 (d := d + 0) T38  (fun m54 w55 h56 T57 F58 W59 X60 X61 => ?_)
      have F62 := F42.trans F58 (by decide)
      have B63 : sf_B 1 4 (m54 17) := by rw [W59 17 (by decide)]; exact B47
      have ek64 : (m54 17).toInt = ((m21 17)).toInt := by rw [W59 17 (by decide)]; exact ek48
      have B65 : sf_B 0 0 (m54 22) := by rw [W59 22 (by decide)]; exact B49
      have ek66 : (m54 22).toInt = ((m40 22)).toInt := by rw [W59 22 (by decide)]
      have W67 : rf_W [10, 12, 13, 14, 16, 17, 18, 22] m m54 := W51.trans W59 (by decide)
      have B68 : sf_B 0 600 (m54 10) := T57.2.2.1 10
      show pm_R _ 183 57 [.ref 41, .int 1, .int 5, .int a2] [] _ _
      have R69 : (m 10).toInt ≤ (m54 10).toInt := (sf_aux53 _ _ _ ek44 X60)
      refine pm_R_op pm_M183 (pc_q := 58) (st_q := [.int 1]) rfl rfl rfl ?_
      have e70 := (F58.cell (by decide) (F39.cell (by decide) (F25.cell (by decide) e14)))
      exact pm_R_ret pm_M183 (r := some (.int 1)) rfl rfl (K2 m54 w55 h56 T57 F62 W67 (fun g eg => by rw [e5] at eg; cases eg; exact ⟨(m 14), (sf_weak B17 (by decide) (by decide)), e70⟩) (X61.imp (fun q => (sf_aux54 _ _ _ ek44 q)) id) (sf_aux51 _ _ R69) B63 B65)
    · have B71 : sf_B 0 5 (m 14) := sf_leL (Int32.not_lt.mp c16) B10 sf_k5
      refine pm_R_lo pm_M183 (pc_q := 32) rfl rfl rfl ?_
      refine rf_R_get pm_M183 T12 (pc_q := 35) (v := .int (m 14)) rfl rfl rfl rfl ?_
      refine pm_R_lo pm_M183 (pc_q := 36) rfl rfl rfl ?_
      refine pm_R_icmp pm_M183 (t := 53) (pc_q := 39) rfl rfl rfl (fun c72 => ?_) (fun c72 => ?_)
      · skip
        refine pm_R_lo pm_M183 (pc_q := 54) rfl rfl rfl ?_
        refine pm_R_cv pm_M183 (pc_q := 57) (a := 41) (ra := []) (rest := []) (ls_q := [.ref 41, pm_no, pm_no]) rfl rfl (Or.inl rfl) pm_M179 T12.2.1 rfl (by decide) (Nat.lt_of_lt_of_le (by decide) T12.1) rfl rfl (Nat.le_of_ble_eq_true rfl) rfl rfl ?_
        refine rf_c179 (d := d + 0) T12  (fun m75 w76 h77 T78 F79 W80 X81 X82 => ?_)
        have F83 := F15.trans F79 (by decide)
        have B84 : sf_B 0 4 (m75 17) := by rw [W80 17 (by decide)]; exact B2
        have ek85 : (m75 17).toInt = ((m 17)).toInt := by rw [W80 17 (by decide)]
        have B86 : sf_B 0 1 (m75 22) := by rw [W80 22 (by decide)]; exact B3
        have ek87 : (m75 22).toInt = ((m 22)).toInt := by rw [W80 22 (by decide)]
        have W88 : rf_W [10, 12, 13, 14, 16, 17, 18, 22] m m75 := (rf_W.refl [10, 12, 13, 14, 16, 17, 18, 22] m).trans W80 (by decide)
        have B89 : sf_B 0 600 (m75 10) := T78.2.2.1 10
        show pm_R _ 183 57 [.ref 41, .int 1, .int 5, .int a2] [] _ _
        have R90 : (m 10).toInt ≤ (m75 10).toInt := (sf_aux51 _ _ X81)
        refine pm_R_op pm_M183 (pc_q := 58) (st_q := [.int 1]) rfl rfl rfl ?_
        have e91 := (F79.cell (by decide) e14)
        exact pm_R_ret pm_M183 (r := some (.int 1)) rfl rfl (K1 m75 w76 h77 T78 F83 W88 (fun g eg => by rw [e5] at eg; cases eg; exact ⟨(m 14), B71, e91⟩) (sf_aux37 _ _ ek85) (sf_aux37 _ _ ek87) (X82.imp (fun q => (sf_aux55 _ _ q)) id) (sf_aux51 _ _ R90))
      · have B92 : sf_B 0 5 a2 := sf_eqR (Classical.not_not.mp c72) B71
        refine pm_R_lo pm_M183 (pc_q := 40) rfl rfl rfl ?_
        refine pm_R_op pm_M183 (pc_q := 41) (st_q := [.int 2, .ref 41]) rfl rfl rfl ?_
        refine pm_R_lo pm_M183 (pc_q := 42) rfl rfl rfl ?_
        have B93 : sf_B 0 600 (m 12) := T12.2.2.1 12
        refine rf_R_get pm_M183 T12 (pc_q := 45) (v := .int (m 12)) rfl rfl rfl rfl ?_
        refine pm_R_cv pm_M183 (pc_q := 48) (a := 41) (ra := [.int (m 12), .int 2]) (rest := []) (ls_q := [.ref 41, .int 2, .int (m 12)]) rfl rfl (Or.inl rfl) pm_M182 T12.2.1 rfl (by decide) (Nat.lt_of_lt_of_le (by decide) T12.1) rfl rfl (Nat.le_of_ble_eq_true rfl) rfl rfl ?_
        refine rf_c182 (d := d + 1) T12 (sf_weak sf_k2 (by decide) (by decide)) B93 (fun m96 w97 h98 T99 F100 W101 B102 => ?_)
        have F103 := F15.trans F100 (by decide)
        have B104 : sf_B 0 600 (m96 10) := by rw [W101 10 (by decide)]; exact B1
        have ek105 : (m96 10).toInt = ((m 10)).toInt := by rw [W101 10 (by decide)]
        have B106 : sf_B 0 1 (m96 22) := by rw [W101 22 (by decide)]; exact B3
        have ek107 : (m96 22).toInt = ((m 22)).toInt := by rw [W101 22 (by decide)]
        have B108 : sf_B 3 3 (m96 13) := by rw [W101 13 (by decide)]; exact B9
        have B109 : sf_B 0 5 (m96 14) := by rw [W101 14 (by decide)]; exact B71
        have W110 : rf_W [10, 12, 13, 14, 16, 17, 18, 22] m m96 := (rf_W.refl [10, 12, 13, 14, 16, 17, 18, 22] m).trans W101 (by decide)
        have B111 : sf_B 0 4 (m96 17) := T99.2.2.1 17
        show pm_R _ 183 48 [.ref 41, .int 1, .int 5, .int a2] [] _ _
        refine pm_R_lo pm_M183 (pc_q := 49) rfl rfl rfl ?_
        refine pm_R_op pm_M183 (pc_q := 50) (st_q := [.int 0, .ref 41]) rfl rfl rfl ?_
        refine rf_R_put pm_M183 T99 (pc_q := 53) rfl rfl rfl (by decide) rfl rfl (sf_weak sf_k0 (by decide) (by decide)) rfl rfl (fun h112 m115 em116 T113 F114 => ?_)
        have F117 := F103.trans F114 (by decide)
        have B118 : sf_B 0 600 (m115 10) := by rw [em116]; exact B104
        have ek119 : (m115 10).toInt = ((m 10)).toInt := by rw [em116]; exact ek105
        have B120 : sf_B 3 3 (m115 13) := by rw [em116]; exact B108
        have B121 : sf_B 0 5 (m115 14) := by rw [em116]; exact B109
        have B122 : sf_B 1 4 (m115 17) := by rw [em116]; exact B102
        have ek123 : (m115 17).toInt = ((m96 17)).toInt := by rw [em116]; rfl
        have B124 : sf_B 0 0 (m115 22) := by rw [em116]; exact sf_k0
        have W126 : rf_W [10, 12, 13, 14, 16, 17, 18, 22] m m115 := by rw [em116]; exact W110.put (by decide)
        refine pm_R_lo pm_M183 (pc_q := 54) rfl rfl rfl ?_
        refine pm_R_cv pm_M183 (pc_q := 57) (a := 41) (ra := []) (rest := []) (ls_q := [.ref 41, pm_no, pm_no]) rfl rfl (Or.inl rfl) pm_M179 T113.2.1 rfl (by decide) (Nat.lt_of_lt_of_le (by decide) T113.1) rfl rfl (Nat.le_of_ble_eq_true rfl) rfl rfl ?_
        refine rf_c179 (d := d + 0) T113  (fun m129 w130 h131 T132 F133 W134 X135 X136 => ?_)
        have F137 := F117.trans F133 (by decide)
        have B138 : sf_B 1 4 (m129 17) := by rw [W134 17 (by decide)]; exact B122
        have ek139 : (m129 17).toInt = ((m96 17)).toInt := by rw [W134 17 (by decide)]; exact ek123
        have B140 : sf_B 0 0 (m129 22) := by rw [W134 22 (by decide)]; exact B124
        have ek141 : (m129 22).toInt = ((m115 22)).toInt := by rw [W134 22 (by decide)]
        have W142 : rf_W [10, 12, 13, 14, 16, 17, 18, 22] m m129 := W126.trans W134 (by decide)
        have B143 : sf_B 0 600 (m129 10) := T132.2.2.1 10
        show pm_R _ 183 57 [.ref 41, .int 1, .int 5, .int a2] [] _ _
        have R144 : (m 10).toInt ≤ (m129 10).toInt := (sf_aux53 _ _ _ ek119 X135)
        refine pm_R_op pm_M183 (pc_q := 58) (st_q := [.int 1]) rfl rfl rfl ?_
        have e145 := (F133.cell (by decide) (F114.cell (by decide) (F100.cell (by decide) e14)))
        exact pm_R_ret pm_M183 (r := some (.int 1)) rfl rfl (K2 m129 w130 h131 T132 F137 W142 (fun g eg => by rw [e5] at eg; cases eg; exact ⟨(m 14), (sf_weak B71 (by decide) (by decide)), e145⟩) (X136.imp (fun q => (sf_aux54 _ _ _ ek119 q)) id) (sf_aux51 _ _ R144) B138 B140)
  · skip
    refine pm_R_lo pm_M183 (pc_q := 9) rfl rfl rfl ?_
    refine pm_R_cv pm_M183 (pc_q := 12) (a := 41) (ra := []) (rest := []) (ls_q := [.ref 41]) rfl rfl (Or.inl rfl) pm_M184 T.2.1 rfl (by decide) (Nat.lt_of_lt_of_le (by decide) T.1) rfl rfl (Nat.le_of_ble_eq_true rfl) rfl rfl ?_
    refine pm_R_lo pm_M184 (pc_q := 1) rfl rfl rfl ?_
    refine pm_R_lo pm_M184 (pc_q := 2) rfl rfl rfl ?_
    have B146 : sf_B 0 600 (m 12) := T.2.2.1 12
    refine rf_R_get pm_M184 T (pc_q := 5) (v := .int (m 12)) rfl rfl rfl rfl ?_
    refine rf_R_put pm_M184 T (pc_q := 8) rfl rfl rfl (by decide) rfl rfl B146 rfl rfl (fun h147 m150 em151 T148 F149 => ?_)
    have F152 := (rf_G.refl [41, 52] h).trans F149 (by decide)
    have B153 : sf_B 0 600 (m150 10) := by rw [em151]; exact B1
    have ek154 : (m150 10).toInt = ((m 10)).toInt := by rw [em151]; rfl
    have B155 : sf_B 0 4 (m150 17) := by rw [em151]; exact B2
    have ek156 : (m150 17).toInt = ((m 17)).toInt := by rw [em151]; rfl
    have B157 : sf_B 0 1 (m150 22) := by rw [em151]; exact B3
    have ek158 : (m150 22).toInt = ((m 22)).toInt := by rw [em151]; rfl
    have B159 : sf_B 0 600 (m150 16) := by rw [em151]; exact B146
    have ek160 : (m150 16).toInt = ((m 12)).toInt := by rw [em151]; rfl
    have W161 : rf_W [10, 12, 13, 14, 16, 17, 18, 22] m m150 := by rw [em151]; exact (rf_W.refl [10, 12, 13, 14, 16, 17, 18, 22] m).put (by decide)
    refine pm_R_op pm_M184 (pc_q := 9) (st_q := [.int 0]) rfl rfl rfl ?_
    refine pm_R_ret pm_M184 (r := some (.int 0)) rfl rfl ?_
    show pm_R _ 183 12 [.ref 41, .int 1, .int 5, .int a2] [.int 0] _ _
    exact pm_R_ret pm_M183 (r := some (.int 0)) rfl rfl (K0 m150 w h147 T148 F152 W161 (sf_aux52 _ _ ek154))

set_option maxRecDepth 100000 in
set_option maxHeartbeats 4000000 in
/-- SilentTableModel.take -/
theorem rf_c183_2_5 {d : Nat} {m : Nat → Int32} {w : Int64} {h : pm_H} {Q : Option Value → pm_H → Prop} {a2 : Int32} (T : rf_T m w h)  (K0 : ∀ (m_q : Nat → Int32) (w_q : Int64) (h_q : pm_H), rf_T m_q w_q h_q → rf_G [41, 52] h h_q → rf_W [10, 12, 13, 14, 16, 17, 18, 22] m m_q → (m 10).toInt ≤ (m_q 10).toInt → Q (some (.int 0)) h_q) (K1 : ∀ (m_q : Nat → Int32) (w_q : Int64) (h_q : pm_H), rf_T m_q w_q h_q → rf_G [41, 52] h h_q → rf_W [10, 12, 13, 14, 16, 17, 18, 22] m m_q → (∀ g : Nat → Int32, h.2.2 52 = .inl (0, 4, .inl g) → ∃ v, sf_B 0 5 v ∧ h_q.2.2 52 = .inl (0, 4, .inl (upd g (Int32.toNatClampNeg 2) v))) → (m_q 17).toInt = (m 17).toInt → (m_q 22).toInt = (m 22).toInt → ((m 10).toInt + 1 ≤ (m_q 10).toInt ∨ (m_q 13).toInt = 0) → (m 10).toInt ≤ (m_q 10).toInt → Q (some (.int 1)) h_q) (K2 : ∀ (m_q : Nat → Int32) (w_q : Int64) (h_q : pm_H), rf_T m_q w_q h_q → rf_G [41, 52] h h_q → rf_W [10, 12, 13, 14, 16, 17, 18, 22] m m_q → (∀ g : Nat → Int32, h.2.2 52 = .inl (0, 4, .inl g) → ∃ v, sf_B 0 99 v ∧ h_q.2.2 52 = .inl (0, 4, .inl (upd g (Int32.toNatClampNeg 2) v))) → ((m 10).toInt + 1 ≤ (m_q 10).toInt ∨ (m_q 13).toInt = 0) → (m 10).toInt ≤ (m_q 10).toInt → sf_B 1 4 (m_q 17) → sf_B 0 0 (m_q 22) → Q (some (.int 1)) h_q) : pm_R (d + 2) 183 0 [.ref 41, .int 2, .int 5, .int a2] [] h Q := by
  have B1 : sf_B 0 600 (m 10) := T.2.2.1 10
  have B2 : sf_B 0 4 (m 17) := T.2.2.1 17
  have B3 : sf_B 0 1 (m 22) := T.2.2.1 22
  obtain ⟨f4, e5, b6⟩ := T.2.2.2.1 52 (by decide) (by decide)
  refine pm_R_lo pm_M183 (pc_q := 1) rfl rfl rfl ?_
  have B7 : sf_B 0 4 (m 13) := T.2.2.1 13
  refine rf_R_get pm_M183 T (pc_q := 4) (v := .int (m 13)) rfl rfl rfl rfl ?_
  refine pm_R_op pm_M183 (pc_q := 5) (st_q := [.int 3, .int (m 13)]) rfl rfl rfl ?_
  refine pm_R_icmp pm_M183 (t := 13) (pc_q := 8) rfl rfl rfl (fun c8 => ?_) (fun c8 => ?_)
  · have B9 : sf_B 3 3 (m 13) := sf_eqL c8 sf_k3
    refine pm_R_lo pm_M183 (pc_q := 14) rfl rfl rfl ?_
    refine rf_R_get pm_M183 T (pc_q := 17) (v := .ref 52) rfl rfl rfl rfl ?_
    refine pm_R_lo pm_M183 (pc_q := 18) rfl rfl rfl ?_
    refine pm_R_lo pm_M183 (pc_q := 19) rfl rfl rfl ?_
    have B10 : sf_B 0 99 (m 14) := T.2.2.1 14
    refine rf_R_get pm_M183 T (pc_q := 22) (v := .int (m 14)) rfl rfl rfl rfl ?_
    refine rf_R_ist pm_M183 T (pc_q := 23) rfl e5 (by decide) (by decide) rfl ⟨_, rfl, sf_upd b6 (sf_weak B10 (by decide) (by decide)) _⟩ rfl (fun h11 T12 F13 e14 => ?_)
    have F15 := (rf_G.refl [41, 52] h).trans F13 (by decide)
    refine pm_R_lo pm_M183 (pc_q := 24) rfl rfl rfl ?_
    refine rf_R_get pm_M183 T12 (pc_q := 27) (v := .int (m 14)) rfl rfl rfl rfl ?_
    refine pm_R_lo pm_M183 (pc_q := 28) rfl rfl rfl ?_
    refine pm_R_icmp pm_M183 (t := 39) (pc_q := 31) rfl rfl rfl (fun c16 => ?_) (fun c16 => ?_)
    · have B17 : sf_B 6 99 (m 14) := sf_ltR c16 sf_k5 B10
      refine pm_R_lo pm_M183 (pc_q := 40) rfl rfl rfl ?_
      refine pm_R_op pm_M183 (pc_q := 41) (st_q := [.int 2, .ref 41]) rfl rfl rfl ?_
      refine pm_R_lo pm_M183 (pc_q := 42) rfl rfl rfl ?_
      have B18 : sf_B 0 600 (m 12) := T12.2.2.1 12
      refine rf_R_get pm_M183 T12 (pc_q := 45) (v := .int (m 12)) rfl rfl rfl rfl ?_
      refine pm_R_cv pm_M183 (pc_q := 48) (a := 41) (ra := [.int (m 12), .int 2]) (rest := []) (ls_q := [.ref 41, .int 2, .int (m 12)]) rfl rfl (Or.inl rfl) pm_M182 T12.2.1 rfl (by decide) (Nat.lt_of_lt_of_le (by decide) T12.1) rfl rfl (Nat.le_of_ble_eq_true rfl) rfl rfl ?_
      refine rf_c182 (d := d + 1) T12 (sf_weak sf_k2 (by decide) (by decide)) B18 (fun m21 w22 h23 T24 F25 W26 B27 => ?_)
      have F28 := F15.trans F25 (by decide)
      have B29 : sf_B 0 600 (m21 10) := by rw [W26 10 (by decide)]; exact B1
      have ek30 : (m21 10).toInt = ((m 10)).toInt := by rw [W26 10 (by decide)]
      have B31 : sf_B 0 1 (m21 22) := by rw [W26 22 (by decide)]; exact B3
      have ek32 : (m21 22).toInt = ((m 22)).toInt := by rw [W26 22 (by decide)]
      have B33 : sf_B 3 3 (m21 13) := by rw [W26 13 (by decide)]; exact B9
      have B34 : sf_B 6 99 (m21 14) := by rw [W26 14 (by decide)]; exact B17
      have W35 : rf_W [10, 12, 13, 14, 16, 17, 18, 22] m m21 := (rf_W.refl [10, 12, 13, 14, 16, 17, 18, 22] m).trans W26 (by decide)
      have B36 : sf_B 0 4 (m21 17) := T24.2.2.1 17
      show pm_R _ 183 48 [.ref 41, .int 2, .int 5, .int a2] [] _ _
      refine pm_R_lo pm_M183 (pc_q := 49) rfl rfl rfl ?_
      refine pm_R_op pm_M183 (pc_q := 50) (st_q := [.int 0, .ref 41]) rfl rfl rfl ?_
      refine rf_R_put pm_M183 T24 (pc_q := 53) rfl rfl rfl (by decide) rfl rfl (sf_weak sf_k0 (by decide) (by decide)) rfl rfl (fun h37 m40 em41 T38 F39 => ?_)
      have F42 := F28.trans F39 (by decide)
      have B43 : sf_B 0 600 (m40 10) := by rw [em41]; exact B29
      have ek44 : (m40 10).toInt = ((m 10)).toInt := by rw [em41]; exact ek30
      have B45 : sf_B 3 3 (m40 13) := by rw [em41]; exact B33
      have B46 : sf_B 6 99 (m40 14) := by rw [em41]; exact B34
      have B47 : sf_B 1 4 (m40 17) := by rw [em41]; exact B27
      have ek48 : (m40 17).toInt = ((m21 17)).toInt := by rw [em41]; rfl
      have B49 : sf_B 0 0 (m40 22) := by rw [em41]; exact sf_k0
      have W51 : rf_W [10, 12, 13, 14, 16, 17, 18, 22] m m40 := by rw [em41]; exact W35.put (by decide)
      refine pm_R_lo pm_M183 (pc_q := 54) rfl rfl rfl ?_
      refine pm_R_cv pm_M183 (pc_q := 57) (a := 41) (ra := []) (rest := []) (ls_q := [.ref 41, pm_no, pm_no]) rfl rfl (Or.inl rfl) pm_M179 T38.2.1 rfl (by decide) (Nat.lt_of_lt_of_le (by decide) T38.1) rfl rfl (Nat.le_of_ble_eq_true rfl) rfl rfl ?_
      refine rf_c179 (d := d + 0) T38  (fun m54 w55 h56 T57 F58 W59 X60 X61 => ?_)
      have F62 := F42.trans F58 (by decide)
      have B63 : sf_B 1 4 (m54 17) := by rw [W59 17 (by decide)]; exact B47
      have ek64 : (m54 17).toInt = ((m21 17)).toInt := by rw [W59 17 (by decide)]; exact ek48
      have B65 : sf_B 0 0 (m54 22) := by rw [W59 22 (by decide)]; exact B49
      have ek66 : (m54 22).toInt = ((m40 22)).toInt := by rw [W59 22 (by decide)]
      have W67 : rf_W [10, 12, 13, 14, 16, 17, 18, 22] m m54 := W51.trans W59 (by decide)
      have B68 : sf_B 0 600 (m54 10) := T57.2.2.1 10
      show pm_R _ 183 57 [.ref 41, .int 2, .int 5, .int a2] [] _ _
      have R69 : (m 10).toInt ≤ (m54 10).toInt := (sf_aux53 _ _ _ ek44 X60)
      refine pm_R_op pm_M183 (pc_q := 58) (st_q := [.int 1]) rfl rfl rfl ?_
      have e70 := (F58.cell (by decide) (F39.cell (by decide) (F25.cell (by decide) e14)))
      exact pm_R_ret pm_M183 (r := some (.int 1)) rfl rfl (K2 m54 w55 h56 T57 F62 W67 (fun g eg => by rw [e5] at eg; cases eg; exact ⟨(m 14), (sf_weak B17 (by decide) (by decide)), e70⟩) (X61.imp (fun q => (sf_aux54 _ _ _ ek44 q)) id) (sf_aux51 _ _ R69) B63 B65)
    · have B71 : sf_B 0 5 (m 14) := sf_leL (Int32.not_lt.mp c16) B10 sf_k5
      refine pm_R_lo pm_M183 (pc_q := 32) rfl rfl rfl ?_
      refine rf_R_get pm_M183 T12 (pc_q := 35) (v := .int (m 14)) rfl rfl rfl rfl ?_
      refine pm_R_lo pm_M183 (pc_q := 36) rfl rfl rfl ?_
      refine pm_R_icmp pm_M183 (t := 53) (pc_q := 39) rfl rfl rfl (fun c72 => ?_) (fun c72 => ?_)
      · skip
        refine pm_R_lo pm_M183 (pc_q := 54) rfl rfl rfl ?_
        refine pm_R_cv pm_M183 (pc_q := 57) (a := 41) (ra := []) (rest := []) (ls_q := [.ref 41, pm_no, pm_no]) rfl rfl (Or.inl rfl) pm_M179 T12.2.1 rfl (by decide) (Nat.lt_of_lt_of_le (by decide) T12.1) rfl rfl (Nat.le_of_ble_eq_true rfl) rfl rfl ?_
        refine rf_c179 (d := d + 0) T12  (fun m75 w76 h77 T78 F79 W80 X81 X82 => ?_)
        have F83 := F15.trans F79 (by decide)
        have B84 : sf_B 0 4 (m75 17) := by rw [W80 17 (by decide)]; exact B2
        have ek85 : (m75 17).toInt = ((m 17)).toInt := by rw [W80 17 (by decide)]
        have B86 : sf_B 0 1 (m75 22) := by rw [W80 22 (by decide)]; exact B3
        have ek87 : (m75 22).toInt = ((m 22)).toInt := by rw [W80 22 (by decide)]
        have W88 : rf_W [10, 12, 13, 14, 16, 17, 18, 22] m m75 := (rf_W.refl [10, 12, 13, 14, 16, 17, 18, 22] m).trans W80 (by decide)
        have B89 : sf_B 0 600 (m75 10) := T78.2.2.1 10
        show pm_R _ 183 57 [.ref 41, .int 2, .int 5, .int a2] [] _ _
        have R90 : (m 10).toInt ≤ (m75 10).toInt := (sf_aux51 _ _ X81)
        refine pm_R_op pm_M183 (pc_q := 58) (st_q := [.int 1]) rfl rfl rfl ?_
        have e91 := (F79.cell (by decide) e14)
        exact pm_R_ret pm_M183 (r := some (.int 1)) rfl rfl (K1 m75 w76 h77 T78 F83 W88 (fun g eg => by rw [e5] at eg; cases eg; exact ⟨(m 14), B71, e91⟩) (sf_aux37 _ _ ek85) (sf_aux37 _ _ ek87) (X82.imp (fun q => (sf_aux55 _ _ q)) id) (sf_aux51 _ _ R90))
      · have B92 : sf_B 0 5 a2 := sf_eqR (Classical.not_not.mp c72) B71
        refine pm_R_lo pm_M183 (pc_q := 40) rfl rfl rfl ?_
        refine pm_R_op pm_M183 (pc_q := 41) (st_q := [.int 2, .ref 41]) rfl rfl rfl ?_
        refine pm_R_lo pm_M183 (pc_q := 42) rfl rfl rfl ?_
        have B93 : sf_B 0 600 (m 12) := T12.2.2.1 12
        refine rf_R_get pm_M183 T12 (pc_q := 45) (v := .int (m 12)) rfl rfl rfl rfl ?_
        refine pm_R_cv pm_M183 (pc_q := 48) (a := 41) (ra := [.int (m 12), .int 2]) (rest := []) (ls_q := [.ref 41, .int 2, .int (m 12)]) rfl rfl (Or.inl rfl) pm_M182 T12.2.1 rfl (by decide) (Nat.lt_of_lt_of_le (by decide) T12.1) rfl rfl (Nat.le_of_ble_eq_true rfl) rfl rfl ?_
        refine rf_c182 (d := d + 1) T12 (sf_weak sf_k2 (by decide) (by decide)) B93 (fun m96 w97 h98 T99 F100 W101 B102 => ?_)
        have F103 := F15.trans F100 (by decide)
        have B104 : sf_B 0 600 (m96 10) := by rw [W101 10 (by decide)]; exact B1
        have ek105 : (m96 10).toInt = ((m 10)).toInt := by rw [W101 10 (by decide)]
        have B106 : sf_B 0 1 (m96 22) := by rw [W101 22 (by decide)]; exact B3
        have ek107 : (m96 22).toInt = ((m 22)).toInt := by rw [W101 22 (by decide)]
        have B108 : sf_B 3 3 (m96 13) := by rw [W101 13 (by decide)]; exact B9
        have B109 : sf_B 0 5 (m96 14) := by rw [W101 14 (by decide)]; exact B71
        have W110 : rf_W [10, 12, 13, 14, 16, 17, 18, 22] m m96 := (rf_W.refl [10, 12, 13, 14, 16, 17, 18, 22] m).trans W101 (by decide)
        have B111 : sf_B 0 4 (m96 17) := T99.2.2.1 17
        show pm_R _ 183 48 [.ref 41, .int 2, .int 5, .int a2] [] _ _
        refine pm_R_lo pm_M183 (pc_q := 49) rfl rfl rfl ?_
        refine pm_R_op pm_M183 (pc_q := 50) (st_q := [.int 0, .ref 41]) rfl rfl rfl ?_
        refine rf_R_put pm_M183 T99 (pc_q := 53) rfl rfl rfl (by decide) rfl rfl (sf_weak sf_k0 (by decide) (by decide)) rfl rfl (fun h112 m115 em116 T113 F114 => ?_)
        have F117 := F103.trans F114 (by decide)
        have B118 : sf_B 0 600 (m115 10) := by rw [em116]; exact B104
        have ek119 : (m115 10).toInt = ((m 10)).toInt := by rw [em116]; exact ek105
        have B120 : sf_B 3 3 (m115 13) := by rw [em116]; exact B108
        have B121 : sf_B 0 5 (m115 14) := by rw [em116]; exact B109
        have B122 : sf_B 1 4 (m115 17) := by rw [em116]; exact B102
        have ek123 : (m115 17).toInt = ((m96 17)).toInt := by rw [em116]; rfl
        have B124 : sf_B 0 0 (m115 22) := by rw [em116]; exact sf_k0
        have W126 : rf_W [10, 12, 13, 14, 16, 17, 18, 22] m m115 := by rw [em116]; exact W110.put (by decide)
        refine pm_R_lo pm_M183 (pc_q := 54) rfl rfl rfl ?_
        refine pm_R_cv pm_M183 (pc_q := 57) (a := 41) (ra := []) (rest := []) (ls_q := [.ref 41, pm_no, pm_no]) rfl rfl (Or.inl rfl) pm_M179 T113.2.1 rfl (by decide) (Nat.lt_of_lt_of_le (by decide) T113.1) rfl rfl (Nat.le_of_ble_eq_true rfl) rfl rfl ?_
        refine rf_c179 (d := d + 0) T113  (fun m129 w130 h131 T132 F133 W134 X135 X136 => ?_)
        have F137 := F117.trans F133 (by decide)
        have B138 : sf_B 1 4 (m129 17) := by rw [W134 17 (by decide)]; exact B122
        have ek139 : (m129 17).toInt = ((m96 17)).toInt := by rw [W134 17 (by decide)]; exact ek123
        have B140 : sf_B 0 0 (m129 22) := by rw [W134 22 (by decide)]; exact B124
        have ek141 : (m129 22).toInt = ((m115 22)).toInt := by rw [W134 22 (by decide)]
        have W142 : rf_W [10, 12, 13, 14, 16, 17, 18, 22] m m129 := W126.trans W134 (by decide)
        have B143 : sf_B 0 600 (m129 10) := T132.2.2.1 10
        show pm_R _ 183 57 [.ref 41, .int 2, .int 5, .int a2] [] _ _
        have R144 : (m 10).toInt ≤ (m129 10).toInt := (sf_aux53 _ _ _ ek119 X135)
        refine pm_R_op pm_M183 (pc_q := 58) (st_q := [.int 1]) rfl rfl rfl ?_
        have e145 := (F133.cell (by decide) (F114.cell (by decide) (F100.cell (by decide) e14)))
        exact pm_R_ret pm_M183 (r := some (.int 1)) rfl rfl (K2 m129 w130 h131 T132 F137 W142 (fun g eg => by rw [e5] at eg; cases eg; exact ⟨(m 14), (sf_weak B71 (by decide) (by decide)), e145⟩) (X136.imp (fun q => (sf_aux54 _ _ _ ek119 q)) id) (sf_aux51 _ _ R144) B138 B140)
  · skip
    refine pm_R_lo pm_M183 (pc_q := 9) rfl rfl rfl ?_
    refine pm_R_cv pm_M183 (pc_q := 12) (a := 41) (ra := []) (rest := []) (ls_q := [.ref 41]) rfl rfl (Or.inl rfl) pm_M184 T.2.1 rfl (by decide) (Nat.lt_of_lt_of_le (by decide) T.1) rfl rfl (Nat.le_of_ble_eq_true rfl) rfl rfl ?_
    refine pm_R_lo pm_M184 (pc_q := 1) rfl rfl rfl ?_
    refine pm_R_lo pm_M184 (pc_q := 2) rfl rfl rfl ?_
    have B146 : sf_B 0 600 (m 12) := T.2.2.1 12
    refine rf_R_get pm_M184 T (pc_q := 5) (v := .int (m 12)) rfl rfl rfl rfl ?_
    refine rf_R_put pm_M184 T (pc_q := 8) rfl rfl rfl (by decide) rfl rfl B146 rfl rfl (fun h147 m150 em151 T148 F149 => ?_)
    have F152 := (rf_G.refl [41, 52] h).trans F149 (by decide)
    have B153 : sf_B 0 600 (m150 10) := by rw [em151]; exact B1
    have ek154 : (m150 10).toInt = ((m 10)).toInt := by rw [em151]; rfl
    have B155 : sf_B 0 4 (m150 17) := by rw [em151]; exact B2
    have ek156 : (m150 17).toInt = ((m 17)).toInt := by rw [em151]; rfl
    have B157 : sf_B 0 1 (m150 22) := by rw [em151]; exact B3
    have ek158 : (m150 22).toInt = ((m 22)).toInt := by rw [em151]; rfl
    have B159 : sf_B 0 600 (m150 16) := by rw [em151]; exact B146
    have ek160 : (m150 16).toInt = ((m 12)).toInt := by rw [em151]; rfl
    have W161 : rf_W [10, 12, 13, 14, 16, 17, 18, 22] m m150 := by rw [em151]; exact (rf_W.refl [10, 12, 13, 14, 16, 17, 18, 22] m).put (by decide)
    refine pm_R_op pm_M184 (pc_q := 9) (st_q := [.int 0]) rfl rfl rfl ?_
    refine pm_R_ret pm_M184 (r := some (.int 0)) rfl rfl ?_
    show pm_R _ 183 12 [.ref 41, .int 2, .int 5, .int a2] [.int 0] _ _
    exact pm_R_ret pm_M183 (r := some (.int 0)) rfl rfl (K0 m150 w h147 T148 F152 W161 (sf_aux52 _ _ ek154))

set_option maxRecDepth 100000 in
set_option maxHeartbeats 4000000 in
/-- SilentTableModel.take -/
theorem rf_c183_0_9 {d : Nat} {m : Nat → Int32} {w : Int64} {h : pm_H} {Q : Option Value → pm_H → Prop} {a2 : Int32} (T : rf_T m w h)  (K0 : ∀ (m_q : Nat → Int32) (w_q : Int64) (h_q : pm_H), rf_T m_q w_q h_q → rf_G [41, 52] h h_q → rf_W [10, 12, 13, 14, 16, 17, 18, 22] m m_q → (m 10).toInt ≤ (m_q 10).toInt → Q (some (.int 0)) h_q) (K1 : ∀ (m_q : Nat → Int32) (w_q : Int64) (h_q : pm_H), rf_T m_q w_q h_q → rf_G [41, 52] h h_q → rf_W [10, 12, 13, 14, 16, 17, 18, 22] m m_q → (∀ g : Nat → Int32, h.2.2 52 = .inl (0, 4, .inl g) → ∃ v, sf_B 0 9 v ∧ h_q.2.2 52 = .inl (0, 4, .inl (upd g (Int32.toNatClampNeg 0) v))) → (m_q 17).toInt = (m 17).toInt → (m_q 22).toInt = (m 22).toInt → ((m 10).toInt + 1 ≤ (m_q 10).toInt ∨ (m_q 13).toInt = 0) → (m 10).toInt ≤ (m_q 10).toInt → Q (some (.int 1)) h_q) (K2 : ∀ (m_q : Nat → Int32) (w_q : Int64) (h_q : pm_H), rf_T m_q w_q h_q → rf_G [41, 52] h h_q → rf_W [10, 12, 13, 14, 16, 17, 18, 22] m m_q → (∀ g : Nat → Int32, h.2.2 52 = .inl (0, 4, .inl g) → ∃ v, sf_B 0 99 v ∧ h_q.2.2 52 = .inl (0, 4, .inl (upd g (Int32.toNatClampNeg 0) v))) → ((m 10).toInt + 1 ≤ (m_q 10).toInt ∨ (m_q 13).toInt = 0) → (m 10).toInt ≤ (m_q 10).toInt → sf_B 1 4 (m_q 17) → sf_B 0 0 (m_q 22) → Q (some (.int 1)) h_q) : pm_R (d + 2) 183 0 [.ref 41, .int 0, .int 9, .int a2] [] h Q := by
  have B1 : sf_B 0 600 (m 10) := T.2.2.1 10
  have B2 : sf_B 0 4 (m 17) := T.2.2.1 17
  have B3 : sf_B 0 1 (m 22) := T.2.2.1 22
  obtain ⟨f4, e5, b6⟩ := T.2.2.2.1 52 (by decide) (by decide)
  refine pm_R_lo pm_M183 (pc_q := 1) rfl rfl rfl ?_
  have B7 : sf_B 0 4 (m 13) := T.2.2.1 13
  refine rf_R_get pm_M183 T (pc_q := 4) (v := .int (m 13)) rfl rfl rfl rfl ?_
  refine pm_R_op pm_M183 (pc_q := 5) (st_q := [.int 3, .int (m 13)]) rfl rfl rfl ?_
  refine pm_R_icmp pm_M183 (t := 13) (pc_q := 8) rfl rfl rfl (fun c8 => ?_) (fun c8 => ?_)
  · have B9 : sf_B 3 3 (m 13) := sf_eqL c8 sf_k3
    refine pm_R_lo pm_M183 (pc_q := 14) rfl rfl rfl ?_
    refine rf_R_get pm_M183 T (pc_q := 17) (v := .ref 52) rfl rfl rfl rfl ?_
    refine pm_R_lo pm_M183 (pc_q := 18) rfl rfl rfl ?_
    refine pm_R_lo pm_M183 (pc_q := 19) rfl rfl rfl ?_
    have B10 : sf_B 0 99 (m 14) := T.2.2.1 14
    refine rf_R_get pm_M183 T (pc_q := 22) (v := .int (m 14)) rfl rfl rfl rfl ?_
    refine rf_R_ist pm_M183 T (pc_q := 23) rfl e5 (by decide) (by decide) rfl ⟨_, rfl, sf_upd b6 (sf_weak B10 (by decide) (by decide)) _⟩ rfl (fun h11 T12 F13 e14 => ?_)
    have F15 := (rf_G.refl [41, 52] h).trans F13 (by decide)
    refine pm_R_lo pm_M183 (pc_q := 24) rfl rfl rfl ?_
    refine rf_R_get pm_M183 T12 (pc_q := 27) (v := .int (m 14)) rfl rfl rfl rfl ?_
    refine pm_R_lo pm_M183 (pc_q := 28) rfl rfl rfl ?_
    refine pm_R_icmp pm_M183 (t := 39) (pc_q := 31) rfl rfl rfl (fun c16 => ?_) (fun c16 => ?_)
    · have B17 : sf_B 10 99 (m 14) := sf_ltR c16 sf_k9 B10
      refine pm_R_lo pm_M183 (pc_q := 40) rfl rfl rfl ?_
      refine pm_R_op pm_M183 (pc_q := 41) (st_q := [.int 2, .ref 41]) rfl rfl rfl ?_
      refine pm_R_lo pm_M183 (pc_q := 42) rfl rfl rfl ?_
      have B18 : sf_B 0 600 (m 12) := T12.2.2.1 12
      refine rf_R_get pm_M183 T12 (pc_q := 45) (v := .int (m 12)) rfl rfl rfl rfl ?_
      refine pm_R_cv pm_M183 (pc_q := 48) (a := 41) (ra := [.int (m 12), .int 2]) (rest := []) (ls_q := [.ref 41, .int 2, .int (m 12)]) rfl rfl (Or.inl rfl) pm_M182 T12.2.1 rfl (by decide) (Nat.lt_of_lt_of_le (by decide) T12.1) rfl rfl (Nat.le_of_ble_eq_true rfl) rfl rfl ?_
      refine rf_c182 (d := d + 1) T12 (sf_weak sf_k2 (by decide) (by decide)) B18 (fun m21 w22 h23 T24 F25 W26 B27 => ?_)
      have F28 := F15.trans F25 (by decide)
      have B29 : sf_B 0 600 (m21 10) := by rw [W26 10 (by decide)]; exact B1
      have ek30 : (m21 10).toInt = ((m 10)).toInt := by rw [W26 10 (by decide)]
      have B31 : sf_B 0 1 (m21 22) := by rw [W26 22 (by decide)]; exact B3
      have ek32 : (m21 22).toInt = ((m 22)).toInt := by rw [W26 22 (by decide)]
      have B33 : sf_B 3 3 (m21 13) := by rw [W26 13 (by decide)]; exact B9
      have B34 : sf_B 10 99 (m21 14) := by rw [W26 14 (by decide)]; exact B17
      have W35 : rf_W [10, 12, 13, 14, 16, 17, 18, 22] m m21 := (rf_W.refl [10, 12, 13, 14, 16, 17, 18, 22] m).trans W26 (by decide)
      have B36 : sf_B 0 4 (m21 17) := T24.2.2.1 17
      show pm_R _ 183 48 [.ref 41, .int 0, .int 9, .int a2] [] _ _
      refine pm_R_lo pm_M183 (pc_q := 49) rfl rfl rfl ?_
      refine pm_R_op pm_M183 (pc_q := 50) (st_q := [.int 0, .ref 41]) rfl rfl rfl ?_
      refine rf_R_put pm_M183 T24 (pc_q := 53) rfl rfl rfl (by decide) rfl rfl (sf_weak sf_k0 (by decide) (by decide)) rfl rfl (fun h37 m40 em41 T38 F39 => ?_)
      have F42 := F28.trans F39 (by decide)
      have B43 : sf_B 0 600 (m40 10) := by rw [em41]; exact B29
      have ek44 : (m40 10).toInt = ((m 10)).toInt := by rw [em41]; exact ek30
      have B45 : sf_B 3 3 (m40 13) := by rw [em41]; exact B33
      have B46 : sf_B 10 99 (m40 14) := by rw [em41]; exact B34
      have B47 : sf_B 1 4 (m40 17) := by rw [em41]; exact B27
      have ek48 : (m40 17).toInt = ((m21 17)).toInt := by rw [em41]; rfl
      have B49 : sf_B 0 0 (m40 22) := by rw [em41]; exact sf_k0
      have W51 : rf_W [10, 12, 13, 14, 16, 17, 18, 22] m m40 := by rw [em41]; exact W35.put (by decide)
      refine pm_R_lo pm_M183 (pc_q := 54) rfl rfl rfl ?_
      refine pm_R_cv pm_M183 (pc_q := 57) (a := 41) (ra := []) (rest := []) (ls_q := [.ref 41, pm_no, pm_no]) rfl rfl (Or.inl rfl) pm_M179 T38.2.1 rfl (by decide) (Nat.lt_of_lt_of_le (by decide) T38.1) rfl rfl (Nat.le_of_ble_eq_true rfl) rfl rfl ?_
      refine rf_c179 (d := d + 0) T38  (fun m54 w55 h56 T57 F58 W59 X60 X61 => ?_)
      have F62 := F42.trans F58 (by decide)
      have B63 : sf_B 1 4 (m54 17) := by rw [W59 17 (by decide)]; exact B47
      have ek64 : (m54 17).toInt = ((m21 17)).toInt := by rw [W59 17 (by decide)]; exact ek48
      have B65 : sf_B 0 0 (m54 22) := by rw [W59 22 (by decide)]; exact B49
      have ek66 : (m54 22).toInt = ((m40 22)).toInt := by rw [W59 22 (by decide)]
      have W67 : rf_W [10, 12, 13, 14, 16, 17, 18, 22] m m54 := W51.trans W59 (by decide)
      have B68 : sf_B 0 600 (m54 10) := T57.2.2.1 10
      show pm_R _ 183 57 [.ref 41, .int 0, .int 9, .int a2] [] _ _
      have R69 : (m 10).toInt ≤ (m54 10).toInt := (sf_aux53 _ _ _ ek44 X60)
      refine pm_R_op pm_M183 (pc_q := 58) (st_q := [.int 1]) rfl rfl rfl ?_
      have e70 := (F58.cell (by decide) (F39.cell (by decide) (F25.cell (by decide) e14)))
      exact pm_R_ret pm_M183 (r := some (.int 1)) rfl rfl (K2 m54 w55 h56 T57 F62 W67 (fun g eg => by rw [e5] at eg; cases eg; exact ⟨(m 14), (sf_weak B17 (by decide) (by decide)), e70⟩) (X61.imp (fun q => (sf_aux54 _ _ _ ek44 q)) id) (sf_aux51 _ _ R69) B63 B65)
    · have B71 : sf_B 0 9 (m 14) := sf_leL (Int32.not_lt.mp c16) B10 sf_k9
      refine pm_R_lo pm_M183 (pc_q := 32) rfl rfl rfl ?_
      refine rf_R_get pm_M183 T12 (pc_q := 35) (v := .int (m 14)) rfl rfl rfl rfl ?_
      refine pm_R_lo pm_M183 (pc_q := 36) rfl rfl rfl ?_
      refine pm_R_icmp pm_M183 (t := 53) (pc_q := 39) rfl rfl rfl (fun c72 => ?_) (fun c72 => ?_)
      · skip
        refine pm_R_lo pm_M183 (pc_q := 54) rfl rfl rfl ?_
        refine pm_R_cv pm_M183 (pc_q := 57) (a := 41) (ra := []) (rest := []) (ls_q := [.ref 41, pm_no, pm_no]) rfl rfl (Or.inl rfl) pm_M179 T12.2.1 rfl (by decide) (Nat.lt_of_lt_of_le (by decide) T12.1) rfl rfl (Nat.le_of_ble_eq_true rfl) rfl rfl ?_
        refine rf_c179 (d := d + 0) T12  (fun m75 w76 h77 T78 F79 W80 X81 X82 => ?_)
        have F83 := F15.trans F79 (by decide)
        have B84 : sf_B 0 4 (m75 17) := by rw [W80 17 (by decide)]; exact B2
        have ek85 : (m75 17).toInt = ((m 17)).toInt := by rw [W80 17 (by decide)]
        have B86 : sf_B 0 1 (m75 22) := by rw [W80 22 (by decide)]; exact B3
        have ek87 : (m75 22).toInt = ((m 22)).toInt := by rw [W80 22 (by decide)]
        have W88 : rf_W [10, 12, 13, 14, 16, 17, 18, 22] m m75 := (rf_W.refl [10, 12, 13, 14, 16, 17, 18, 22] m).trans W80 (by decide)
        have B89 : sf_B 0 600 (m75 10) := T78.2.2.1 10
        show pm_R _ 183 57 [.ref 41, .int 0, .int 9, .int a2] [] _ _
        have R90 : (m 10).toInt ≤ (m75 10).toInt := (sf_aux51 _ _ X81)
        refine pm_R_op pm_M183 (pc_q := 58) (st_q := [.int 1]) rfl rfl rfl ?_
        have e91 := (F79.cell (by decide) e14)
        exact pm_R_ret pm_M183 (r := some (.int 1)) rfl rfl (K1 m75 w76 h77 T78 F83 W88 (fun g eg => by rw [e5] at eg; cases eg; exact ⟨(m 14), B71, e91⟩) (sf_aux37 _ _ ek85) (sf_aux37 _ _ ek87) (X82.imp (fun q => (sf_aux55 _ _ q)) id) (sf_aux51 _ _ R90))
      · have B92 : sf_B 0 9 a2 := sf_eqR (Classical.not_not.mp c72) B71
        refine pm_R_lo pm_M183 (pc_q := 40) rfl rfl rfl ?_
        refine pm_R_op pm_M183 (pc_q := 41) (st_q := [.int 2, .ref 41]) rfl rfl rfl ?_
        refine pm_R_lo pm_M183 (pc_q := 42) rfl rfl rfl ?_
        have B93 : sf_B 0 600 (m 12) := T12.2.2.1 12
        refine rf_R_get pm_M183 T12 (pc_q := 45) (v := .int (m 12)) rfl rfl rfl rfl ?_
        refine pm_R_cv pm_M183 (pc_q := 48) (a := 41) (ra := [.int (m 12), .int 2]) (rest := []) (ls_q := [.ref 41, .int 2, .int (m 12)]) rfl rfl (Or.inl rfl) pm_M182 T12.2.1 rfl (by decide) (Nat.lt_of_lt_of_le (by decide) T12.1) rfl rfl (Nat.le_of_ble_eq_true rfl) rfl rfl ?_
        refine rf_c182 (d := d + 1) T12 (sf_weak sf_k2 (by decide) (by decide)) B93 (fun m96 w97 h98 T99 F100 W101 B102 => ?_)
        have F103 := F15.trans F100 (by decide)
        have B104 : sf_B 0 600 (m96 10) := by rw [W101 10 (by decide)]; exact B1
        have ek105 : (m96 10).toInt = ((m 10)).toInt := by rw [W101 10 (by decide)]
        have B106 : sf_B 0 1 (m96 22) := by rw [W101 22 (by decide)]; exact B3
        have ek107 : (m96 22).toInt = ((m 22)).toInt := by rw [W101 22 (by decide)]
        have B108 : sf_B 3 3 (m96 13) := by rw [W101 13 (by decide)]; exact B9
        have B109 : sf_B 0 9 (m96 14) := by rw [W101 14 (by decide)]; exact B71
        have W110 : rf_W [10, 12, 13, 14, 16, 17, 18, 22] m m96 := (rf_W.refl [10, 12, 13, 14, 16, 17, 18, 22] m).trans W101 (by decide)
        have B111 : sf_B 0 4 (m96 17) := T99.2.2.1 17
        show pm_R _ 183 48 [.ref 41, .int 0, .int 9, .int a2] [] _ _
        refine pm_R_lo pm_M183 (pc_q := 49) rfl rfl rfl ?_
        refine pm_R_op pm_M183 (pc_q := 50) (st_q := [.int 0, .ref 41]) rfl rfl rfl ?_
        refine rf_R_put pm_M183 T99 (pc_q := 53) rfl rfl rfl (by decide) rfl rfl (sf_weak sf_k0 (by decide) (by decide)) rfl rfl (fun h112 m115 em116 T113 F114 => ?_)
        have F117 := F103.trans F114 (by decide)
        have B118 : sf_B 0 600 (m115 10) := by rw [em116]; exact B104
        have ek119 : (m115 10).toInt = ((m 10)).toInt := by rw [em116]; exact ek105
        have B120 : sf_B 3 3 (m115 13) := by rw [em116]; exact B108
        have B121 : sf_B 0 9 (m115 14) := by rw [em116]; exact B109
        have B122 : sf_B 1 4 (m115 17) := by rw [em116]; exact B102
        have ek123 : (m115 17).toInt = ((m96 17)).toInt := by rw [em116]; rfl
        have B124 : sf_B 0 0 (m115 22) := by rw [em116]; exact sf_k0
        have W126 : rf_W [10, 12, 13, 14, 16, 17, 18, 22] m m115 := by rw [em116]; exact W110.put (by decide)
        refine pm_R_lo pm_M183 (pc_q := 54) rfl rfl rfl ?_
        refine pm_R_cv pm_M183 (pc_q := 57) (a := 41) (ra := []) (rest := []) (ls_q := [.ref 41, pm_no, pm_no]) rfl rfl (Or.inl rfl) pm_M179 T113.2.1 rfl (by decide) (Nat.lt_of_lt_of_le (by decide) T113.1) rfl rfl (Nat.le_of_ble_eq_true rfl) rfl rfl ?_
        refine rf_c179 (d := d + 0) T113  (fun m129 w130 h131 T132 F133 W134 X135 X136 => ?_)
        have F137 := F117.trans F133 (by decide)
        have B138 : sf_B 1 4 (m129 17) := by rw [W134 17 (by decide)]; exact B122
        have ek139 : (m129 17).toInt = ((m96 17)).toInt := by rw [W134 17 (by decide)]; exact ek123
        have B140 : sf_B 0 0 (m129 22) := by rw [W134 22 (by decide)]; exact B124
        have ek141 : (m129 22).toInt = ((m115 22)).toInt := by rw [W134 22 (by decide)]
        have W142 : rf_W [10, 12, 13, 14, 16, 17, 18, 22] m m129 := W126.trans W134 (by decide)
        have B143 : sf_B 0 600 (m129 10) := T132.2.2.1 10
        show pm_R _ 183 57 [.ref 41, .int 0, .int 9, .int a2] [] _ _
        have R144 : (m 10).toInt ≤ (m129 10).toInt := (sf_aux53 _ _ _ ek119 X135)
        refine pm_R_op pm_M183 (pc_q := 58) (st_q := [.int 1]) rfl rfl rfl ?_
        have e145 := (F133.cell (by decide) (F114.cell (by decide) (F100.cell (by decide) e14)))
        exact pm_R_ret pm_M183 (r := some (.int 1)) rfl rfl (K2 m129 w130 h131 T132 F137 W142 (fun g eg => by rw [e5] at eg; cases eg; exact ⟨(m 14), (sf_weak B71 (by decide) (by decide)), e145⟩) (X136.imp (fun q => (sf_aux54 _ _ _ ek119 q)) id) (sf_aux51 _ _ R144) B138 B140)
  · skip
    refine pm_R_lo pm_M183 (pc_q := 9) rfl rfl rfl ?_
    refine pm_R_cv pm_M183 (pc_q := 12) (a := 41) (ra := []) (rest := []) (ls_q := [.ref 41]) rfl rfl (Or.inl rfl) pm_M184 T.2.1 rfl (by decide) (Nat.lt_of_lt_of_le (by decide) T.1) rfl rfl (Nat.le_of_ble_eq_true rfl) rfl rfl ?_
    refine pm_R_lo pm_M184 (pc_q := 1) rfl rfl rfl ?_
    refine pm_R_lo pm_M184 (pc_q := 2) rfl rfl rfl ?_
    have B146 : sf_B 0 600 (m 12) := T.2.2.1 12
    refine rf_R_get pm_M184 T (pc_q := 5) (v := .int (m 12)) rfl rfl rfl rfl ?_
    refine rf_R_put pm_M184 T (pc_q := 8) rfl rfl rfl (by decide) rfl rfl B146 rfl rfl (fun h147 m150 em151 T148 F149 => ?_)
    have F152 := (rf_G.refl [41, 52] h).trans F149 (by decide)
    have B153 : sf_B 0 600 (m150 10) := by rw [em151]; exact B1
    have ek154 : (m150 10).toInt = ((m 10)).toInt := by rw [em151]; rfl
    have B155 : sf_B 0 4 (m150 17) := by rw [em151]; exact B2
    have ek156 : (m150 17).toInt = ((m 17)).toInt := by rw [em151]; rfl
    have B157 : sf_B 0 1 (m150 22) := by rw [em151]; exact B3
    have ek158 : (m150 22).toInt = ((m 22)).toInt := by rw [em151]; rfl
    have B159 : sf_B 0 600 (m150 16) := by rw [em151]; exact B146
    have ek160 : (m150 16).toInt = ((m 12)).toInt := by rw [em151]; rfl
    have W161 : rf_W [10, 12, 13, 14, 16, 17, 18, 22] m m150 := by rw [em151]; exact (rf_W.refl [10, 12, 13, 14, 16, 17, 18, 22] m).put (by decide)
    refine pm_R_op pm_M184 (pc_q := 9) (st_q := [.int 0]) rfl rfl rfl ?_
    refine pm_R_ret pm_M184 (r := some (.int 0)) rfl rfl ?_
    show pm_R _ 183 12 [.ref 41, .int 0, .int 9, .int a2] [.int 0] _ _
    exact pm_R_ret pm_M183 (r := some (.int 0)) rfl rfl (K0 m150 w h147 T148 F152 W161 (sf_aux52 _ _ ek154))

set_option maxRecDepth 100000 in
set_option maxHeartbeats 4000000 in
/-- SilentTableModel.take -/
theorem rf_c183_2_49 {d : Nat} {m : Nat → Int32} {w : Int64} {h : pm_H} {Q : Option Value → pm_H → Prop} {a2 : Int32} (T : rf_T m w h)  (K0 : ∀ (m_q : Nat → Int32) (w_q : Int64) (h_q : pm_H), rf_T m_q w_q h_q → rf_G [41, 52] h h_q → rf_W [10, 12, 13, 14, 16, 17, 18, 22] m m_q → (m 10).toInt ≤ (m_q 10).toInt → Q (some (.int 0)) h_q) (K1 : ∀ (m_q : Nat → Int32) (w_q : Int64) (h_q : pm_H), rf_T m_q w_q h_q → rf_G [41, 52] h h_q → rf_W [10, 12, 13, 14, 16, 17, 18, 22] m m_q → (∀ g : Nat → Int32, h.2.2 52 = .inl (0, 4, .inl g) → ∃ v, sf_B 0 49 v ∧ h_q.2.2 52 = .inl (0, 4, .inl (upd g (Int32.toNatClampNeg 2) v))) → (m_q 17).toInt = (m 17).toInt → (m_q 22).toInt = (m 22).toInt → ((m 10).toInt + 1 ≤ (m_q 10).toInt ∨ (m_q 13).toInt = 0) → (m 10).toInt ≤ (m_q 10).toInt → Q (some (.int 1)) h_q) (K2 : ∀ (m_q : Nat → Int32) (w_q : Int64) (h_q : pm_H), rf_T m_q w_q h_q → rf_G [41, 52] h h_q → rf_W [10, 12, 13, 14, 16, 17, 18, 22] m m_q → (∀ g : Nat → Int32, h.2.2 52 = .inl (0, 4, .inl g) → ∃ v, sf_B 0 99 v ∧ h_q.2.2 52 = .inl (0, 4, .inl (upd g (Int32.toNatClampNeg 2) v))) → ((m 10).toInt + 1 ≤ (m_q 10).toInt ∨ (m_q 13).toInt = 0) → (m 10).toInt ≤ (m_q 10).toInt → sf_B 1 4 (m_q 17) → sf_B 0 0 (m_q 22) → Q (some (.int 1)) h_q) : pm_R (d + 2) 183 0 [.ref 41, .int 2, .int 49, .int a2] [] h Q := by
  have B1 : sf_B 0 600 (m 10) := T.2.2.1 10
  have B2 : sf_B 0 4 (m 17) := T.2.2.1 17
  have B3 : sf_B 0 1 (m 22) := T.2.2.1 22
  obtain ⟨f4, e5, b6⟩ := T.2.2.2.1 52 (by decide) (by decide)
  refine pm_R_lo pm_M183 (pc_q := 1) rfl rfl rfl ?_
  have B7 : sf_B 0 4 (m 13) := T.2.2.1 13
  refine rf_R_get pm_M183 T (pc_q := 4) (v := .int (m 13)) rfl rfl rfl rfl ?_
  refine pm_R_op pm_M183 (pc_q := 5) (st_q := [.int 3, .int (m 13)]) rfl rfl rfl ?_
  refine pm_R_icmp pm_M183 (t := 13) (pc_q := 8) rfl rfl rfl (fun c8 => ?_) (fun c8 => ?_)
  · have B9 : sf_B 3 3 (m 13) := sf_eqL c8 sf_k3
    refine pm_R_lo pm_M183 (pc_q := 14) rfl rfl rfl ?_
    refine rf_R_get pm_M183 T (pc_q := 17) (v := .ref 52) rfl rfl rfl rfl ?_
    refine pm_R_lo pm_M183 (pc_q := 18) rfl rfl rfl ?_
    refine pm_R_lo pm_M183 (pc_q := 19) rfl rfl rfl ?_
    have B10 : sf_B 0 99 (m 14) := T.2.2.1 14
    refine rf_R_get pm_M183 T (pc_q := 22) (v := .int (m 14)) rfl rfl rfl rfl ?_
    refine rf_R_ist pm_M183 T (pc_q := 23) rfl e5 (by decide) (by decide) rfl ⟨_, rfl, sf_upd b6 (sf_weak B10 (by decide) (by decide)) _⟩ rfl (fun h11 T12 F13 e14 => ?_)
    have F15 := (rf_G.refl [41, 52] h).trans F13 (by decide)
    refine pm_R_lo pm_M183 (pc_q := 24) rfl rfl rfl ?_
    refine rf_R_get pm_M183 T12 (pc_q := 27) (v := .int (m 14)) rfl rfl rfl rfl ?_
    refine pm_R_lo pm_M183 (pc_q := 28) rfl rfl rfl ?_
    refine pm_R_icmp pm_M183 (t := 39) (pc_q := 31) rfl rfl rfl (fun c16 => ?_) (fun c16 => ?_)
    · have B17 : sf_B 50 99 (m 14) := sf_ltR c16 sf_k49 B10
      refine pm_R_lo pm_M183 (pc_q := 40) rfl rfl rfl ?_
      refine pm_R_op pm_M183 (pc_q := 41) (st_q := [.int 2, .ref 41]) rfl rfl rfl ?_
      refine pm_R_lo pm_M183 (pc_q := 42) rfl rfl rfl ?_
      have B18 : sf_B 0 600 (m 12) := T12.2.2.1 12
      refine rf_R_get pm_M183 T12 (pc_q := 45) (v := .int (m 12)) rfl rfl rfl rfl ?_
      refine pm_R_cv pm_M183 (pc_q := 48) (a := 41) (ra := [.int (m 12), .int 2]) (rest := []) (ls_q := [.ref 41, .int 2, .int (m 12)]) rfl rfl (Or.inl rfl) pm_M182 T12.2.1 rfl (by decide) (Nat.lt_of_lt_of_le (by decide) T12.1) rfl rfl (Nat.le_of_ble_eq_true rfl) rfl rfl ?_
      refine rf_c182 (d := d + 1) T12 (sf_weak sf_k2 (by decide) (by decide)) B18 (fun m21 w22 h23 T24 F25 W26 B27 => ?_)
      have F28 := F15.trans F25 (by decide)
      have B29 : sf_B 0 600 (m21 10) := by rw [W26 10 (by decide)]; exact B1
      have ek30 : (m21 10).toInt = ((m 10)).toInt := by rw [W26 10 (by decide)]
      have B31 : sf_B 0 1 (m21 22) := by rw [W26 22 (by decide)]; exact B3
      have ek32 : (m21 22).toInt = ((m 22)).toInt := by rw [W26 22 (by decide)]
      have B33 : sf_B 3 3 (m21 13) := by rw [W26 13 (by decide)]; exact B9
      have B34 : sf_B 50 99 (m21 14) := by rw [W26 14 (by decide)]; exact B17
      have W35 : rf_W [10, 12, 13, 14, 16, 17, 18, 22] m m21 := (rf_W.refl [10, 12, 13, 14, 16, 17, 18, 22] m).trans W26 (by decide)
      have B36 : sf_B 0 4 (m21 17) := T24.2.2.1 17
      show pm_R _ 183 48 [.ref 41, .int 2, .int 49, .int a2] [] _ _
      refine pm_R_lo pm_M183 (pc_q := 49) rfl rfl rfl ?_
      refine pm_R_op pm_M183 (pc_q := 50) (st_q := [.int 0, .ref 41]) rfl rfl rfl ?_
      refine rf_R_put pm_M183 T24 (pc_q := 53) rfl rfl rfl (by decide) rfl rfl (sf_weak sf_k0 (by decide) (by decide)) rfl rfl (fun h37 m40 em41 T38 F39 => ?_)
      have F42 := F28.trans F39 (by decide)
      have B43 : sf_B 0 600 (m40 10) := by rw [em41]; exact B29
      have ek44 : (m40 10).toInt = ((m 10)).toInt := by rw [em41]; exact ek30
      have B45 : sf_B 3 3 (m40 13) := by rw [em41]; exact B33
      have B46 : sf_B 50 99 (m40 14) := by rw [em41]; exact B34
      have B47 : sf_B 1 4 (m40 17) := by rw [em41]; exact B27
      have ek48 : (m40 17).toInt = ((m21 17)).toInt := by rw [em41]; rfl
      have B49 : sf_B 0 0 (m40 22) := by rw [em41]; exact sf_k0
      have W51 : rf_W [10, 12, 13, 14, 16, 17, 18, 22] m m40 := by rw [em41]; exact W35.put (by decide)
      refine pm_R_lo pm_M183 (pc_q := 54) rfl rfl rfl ?_
      refine pm_R_cv pm_M183 (pc_q := 57) (a := 41) (ra := []) (rest := []) (ls_q := [.ref 41, pm_no, pm_no]) rfl rfl (Or.inl rfl) pm_M179 T38.2.1 rfl (by decide) (Nat.lt_of_lt_of_le (by decide) T38.1) rfl rfl (Nat.le_of_ble_eq_true rfl) rfl rfl ?_
      refine rf_c179 (d := d + 0) T38  (fun m54 w55 h56 T57 F58 W59 X60 X61 => ?_)
      have F62 := F42.trans F58 (by decide)
      have B63 : sf_B 1 4 (m54 17) := by rw [W59 17 (by decide)]; exact B47
      have ek64 : (m54 17).toInt = ((m21 17)).toInt := by rw [W59 17 (by decide)]; exact ek48
      have B65 : sf_B 0 0 (m54 22) := by rw [W59 22 (by decide)]; exact B49
      have ek66 : (m54 22).toInt = ((m40 22)).toInt := by rw [W59 22 (by decide)]
      have W67 : rf_W [10, 12, 13, 14, 16, 17, 18, 22] m m54 := W51.trans W59 (by decide)
      have B68 : sf_B 0 600 (m54 10) := T57.2.2.1 10
      show pm_R _ 183 57 [.ref 41, .int 2, .int 49, .int a2] [] _ _
      have R69 : (m 10).toInt ≤ (m54 10).toInt := (sf_aux53 _ _ _ ek44 X60)
      refine pm_R_op pm_M183 (pc_q := 58) (st_q := [.int 1]) rfl rfl rfl ?_
      have e70 := (F58.cell (by decide) (F39.cell (by decide) (F25.cell (by decide) e14)))
      exact pm_R_ret pm_M183 (r := some (.int 1)) rfl rfl (K2 m54 w55 h56 T57 F62 W67 (fun g eg => by rw [e5] at eg; cases eg; exact ⟨(m 14), (sf_weak B17 (by decide) (by decide)), e70⟩) (X61.imp (fun q => (sf_aux54 _ _ _ ek44 q)) id) (sf_aux51 _ _ R69) B63 B65)
    · have B71 : sf_B 0 49 (m 14) := sf_leL (Int32.not_lt.mp c16) B10 sf_k49
      refine pm_R_lo pm_M183 (pc_q := 32) rfl rfl rfl ?_
      refine rf_R_get pm_M183 T12 (pc_q := 35) (v := .int (m 14)) rfl rfl rfl rfl ?_
      refine pm_R_lo pm_M183 (pc_q := 36) rfl rfl rfl ?_
      refine pm_R_icmp pm_M183 (t := 53) (pc_q := 39) rfl rfl rfl (fun c72 => ?_) (fun c72 => ?_)
      · skip
        refine pm_R_lo pm_M183 (pc_q := 54) rfl rfl rfl ?_
        refine pm_R_cv pm_M183 (pc_q := 57) (a := 41) (ra := []) (rest := []) (ls_q := [.ref 41, pm_no, pm_no]) rfl rfl (Or.inl rfl) pm_M179 T12.2.1 rfl (by decide) (Nat.lt_of_lt_of_le (by decide) T12.1) rfl rfl (Nat.le_of_ble_eq_true rfl) rfl rfl ?_
        refine rf_c179 (d := d + 0) T12  (fun m75 w76 h77 T78 F79 W80 X81 X82 => ?_)
        have F83 := F15.trans F79 (by decide)
        have B84 : sf_B 0 4 (m75 17) := by rw [W80 17 (by decide)]; exact B2
        have ek85 : (m75 17).toInt = ((m 17)).toInt := by rw [W80 17 (by decide)]
        have B86 : sf_B 0 1 (m75 22) := by rw [W80 22 (by decide)]; exact B3
        have ek87 : (m75 22).toInt = ((m 22)).toInt := by rw [W80 22 (by decide)]
        have W88 : rf_W [10, 12, 13, 14, 16, 17, 18, 22] m m75 := (rf_W.refl [10, 12, 13, 14, 16, 17, 18, 22] m).trans W80 (by decide)
        have B89 : sf_B 0 600 (m75 10) := T78.2.2.1 10
        show pm_R _ 183 57 [.ref 41, .int 2, .int 49, .int a2] [] _ _
        have R90 : (m 10).toInt ≤ (m75 10).toInt := (sf_aux51 _ _ X81)
        refine pm_R_op pm_M183 (pc_q := 58) (st_q := [.int 1]) rfl rfl rfl ?_
        have e91 := (F79.cell (by decide) e14)
        exact pm_R_ret pm_M183 (r := some (.int 1)) rfl rfl (K1 m75 w76 h77 T78 F83 W88 (fun g eg => by rw [e5] at eg; cases eg; exact ⟨(m 14), B71, e91⟩) (sf_aux37 _ _ ek85) (sf_aux37 _ _ ek87) (X82.imp (fun q => (sf_aux55 _ _ q)) id) (sf_aux51 _ _ R90))
      · have B92 : sf_B 0 49 a2 := sf_eqR (Classical.not_not.mp c72) B71
        refine pm_R_lo pm_M183 (pc_q := 40) rfl rfl rfl ?_
        refine pm_R_op pm_M183 (pc_q := 41) (st_q := [.int 2, .ref 41]) rfl rfl rfl ?_
        refine pm_R_lo pm_M183 (pc_q := 42) rfl rfl rfl ?_
        have B93 : sf_B 0 600 (m 12) := T12.2.2.1 12
        refine rf_R_get pm_M183 T12 (pc_q := 45) (v := .int (m 12)) rfl rfl rfl rfl ?_
        refine pm_R_cv pm_M183 (pc_q := 48) (a := 41) (ra := [.int (m 12), .int 2]) (rest := []) (ls_q := [.ref 41, .int 2, .int (m 12)]) rfl rfl (Or.inl rfl) pm_M182 T12.2.1 rfl (by decide) (Nat.lt_of_lt_of_le (by decide) T12.1) rfl rfl (Nat.le_of_ble_eq_true rfl) rfl rfl ?_
        refine rf_c182 (d := d + 1) T12 (sf_weak sf_k2 (by decide) (by decide)) B93 (fun m96 w97 h98 T99 F100 W101 B102 => ?_)
        have F103 := F15.trans F100 (by decide)
        have B104 : sf_B 0 600 (m96 10) := by rw [W101 10 (by decide)]; exact B1
        have ek105 : (m96 10).toInt = ((m 10)).toInt := by rw [W101 10 (by decide)]
        have B106 : sf_B 0 1 (m96 22) := by rw [W101 22 (by decide)]; exact B3
        have ek107 : (m96 22).toInt = ((m 22)).toInt := by rw [W101 22 (by decide)]
        have B108 : sf_B 3 3 (m96 13) := by rw [W101 13 (by decide)]; exact B9
        have B109 : sf_B 0 49 (m96 14) := by rw [W101 14 (by decide)]; exact B71
        have W110 : rf_W [10, 12, 13, 14, 16, 17, 18, 22] m m96 := (rf_W.refl [10, 12, 13, 14, 16, 17, 18, 22] m).trans W101 (by decide)
        have B111 : sf_B 0 4 (m96 17) := T99.2.2.1 17
        show pm_R _ 183 48 [.ref 41, .int 2, .int 49, .int a2] [] _ _
        refine pm_R_lo pm_M183 (pc_q := 49) rfl rfl rfl ?_
        refine pm_R_op pm_M183 (pc_q := 50) (st_q := [.int 0, .ref 41]) rfl rfl rfl ?_
        refine rf_R_put pm_M183 T99 (pc_q := 53) rfl rfl rfl (by decide) rfl rfl (sf_weak sf_k0 (by decide) (by decide)) rfl rfl (fun h112 m115 em116 T113 F114 => ?_)
        have F117 := F103.trans F114 (by decide)
        have B118 : sf_B 0 600 (m115 10) := by rw [em116]; exact B104
        have ek119 : (m115 10).toInt = ((m 10)).toInt := by rw [em116]; exact ek105
        have B120 : sf_B 3 3 (m115 13) := by rw [em116]; exact B108
        have B121 : sf_B 0 49 (m115 14) := by rw [em116]; exact B109
        have B122 : sf_B 1 4 (m115 17) := by rw [em116]; exact B102
        have ek123 : (m115 17).toInt = ((m96 17)).toInt := by rw [em116]; rfl
        have B124 : sf_B 0 0 (m115 22) := by rw [em116]; exact sf_k0
        have W126 : rf_W [10, 12, 13, 14, 16, 17, 18, 22] m m115 := by rw [em116]; exact W110.put (by decide)
        refine pm_R_lo pm_M183 (pc_q := 54) rfl rfl rfl ?_
        refine pm_R_cv pm_M183 (pc_q := 57) (a := 41) (ra := []) (rest := []) (ls_q := [.ref 41, pm_no, pm_no]) rfl rfl (Or.inl rfl) pm_M179 T113.2.1 rfl (by decide) (Nat.lt_of_lt_of_le (by decide) T113.1) rfl rfl (Nat.le_of_ble_eq_true rfl) rfl rfl ?_
        refine rf_c179 (d := d + 0) T113  (fun m129 w130 h131 T132 F133 W134 X135 X136 => ?_)
        have F137 := F117.trans F133 (by decide)
        have B138 : sf_B 1 4 (m129 17) := by rw [W134 17 (by decide)]; exact B122
        have ek139 : (m129 17).toInt = ((m96 17)).toInt := by rw [W134 17 (by decide)]; exact ek123
        have B140 : sf_B 0 0 (m129 22) := by rw [W134 22 (by decide)]; exact B124
        have ek141 : (m129 22).toInt = ((m115 22)).toInt := by rw [W134 22 (by decide)]
        have W142 : rf_W [10, 12, 13, 14, 16, 17, 18, 22] m m129 := W126.trans W134 (by decide)
        have B143 : sf_B 0 600 (m129 10) := T132.2.2.1 10
        show pm_R _ 183 57 [.ref 41, .int 2, .int 49, .int a2] [] _ _
        have R144 : (m 10).toInt ≤ (m129 10).toInt := (sf_aux53 _ _ _ ek119 X135)
        refine pm_R_op pm_M183 (pc_q := 58) (st_q := [.int 1]) rfl rfl rfl ?_
        have e145 := (F133.cell (by decide) (F114.cell (by decide) (F100.cell (by decide) e14)))
        exact pm_R_ret pm_M183 (r := some (.int 1)) rfl rfl (K2 m129 w130 h131 T132 F137 W142 (fun g eg => by rw [e5] at eg; cases eg; exact ⟨(m 14), (sf_weak B71 (by decide) (by decide)), e145⟩) (X136.imp (fun q => (sf_aux54 _ _ _ ek119 q)) id) (sf_aux51 _ _ R144) B138 B140)
  · skip
    refine pm_R_lo pm_M183 (pc_q := 9) rfl rfl rfl ?_
    refine pm_R_cv pm_M183 (pc_q := 12) (a := 41) (ra := []) (rest := []) (ls_q := [.ref 41]) rfl rfl (Or.inl rfl) pm_M184 T.2.1 rfl (by decide) (Nat.lt_of_lt_of_le (by decide) T.1) rfl rfl (Nat.le_of_ble_eq_true rfl) rfl rfl ?_
    refine pm_R_lo pm_M184 (pc_q := 1) rfl rfl rfl ?_
    refine pm_R_lo pm_M184 (pc_q := 2) rfl rfl rfl ?_
    have B146 : sf_B 0 600 (m 12) := T.2.2.1 12
    refine rf_R_get pm_M184 T (pc_q := 5) (v := .int (m 12)) rfl rfl rfl rfl ?_
    refine rf_R_put pm_M184 T (pc_q := 8) rfl rfl rfl (by decide) rfl rfl B146 rfl rfl (fun h147 m150 em151 T148 F149 => ?_)
    have F152 := (rf_G.refl [41, 52] h).trans F149 (by decide)
    have B153 : sf_B 0 600 (m150 10) := by rw [em151]; exact B1
    have ek154 : (m150 10).toInt = ((m 10)).toInt := by rw [em151]; rfl
    have B155 : sf_B 0 4 (m150 17) := by rw [em151]; exact B2
    have ek156 : (m150 17).toInt = ((m 17)).toInt := by rw [em151]; rfl
    have B157 : sf_B 0 1 (m150 22) := by rw [em151]; exact B3
    have ek158 : (m150 22).toInt = ((m 22)).toInt := by rw [em151]; rfl
    have B159 : sf_B 0 600 (m150 16) := by rw [em151]; exact B146
    have ek160 : (m150 16).toInt = ((m 12)).toInt := by rw [em151]; rfl
    have W161 : rf_W [10, 12, 13, 14, 16, 17, 18, 22] m m150 := by rw [em151]; exact (rf_W.refl [10, 12, 13, 14, 16, 17, 18, 22] m).put (by decide)
    refine pm_R_op pm_M184 (pc_q := 9) (st_q := [.int 0]) rfl rfl rfl ?_
    refine pm_R_ret pm_M184 (r := some (.int 0)) rfl rfl ?_
    show pm_R _ 183 12 [.ref 41, .int 2, .int 49, .int a2] [.int 0] _ _
    exact pm_R_ret pm_M183 (r := some (.int 0)) rfl rfl (K0 m150 w h147 T148 F152 W161 (sf_aux52 _ _ ek154))
