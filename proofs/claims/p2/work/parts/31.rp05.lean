set_option maxRecDepth 100000 in
set_option maxHeartbeats 4000000 in
/-- SilentTableModel.houseLine -/
theorem rf_c192 {d : Nat} {m : Nat → Int32} {w : Int64} {h : pm_H} {Q : Option Value → pm_H → Prop} {a0 : Int64} {a1 : Int32} (T : rf_T m w h) (Ba1 : sf_B 0 600 a1) (X : rf_I 3 (m 17) h) (K0 : ∀ (m' : Nat → Int32) (w' : Int64) (h' : pm_H), rf_T m' w' h' → rf_G [41, 51, 52] h h' → rf_W [10, 12, 13, 14, 16, 17, 18, 22] m m' → (m 10).toInt ≤ (m' 10).toInt → Q (some (.int 0)) h') (K1 : ∀ (m' : Nat → Int32) (w' : Int64) (h' : pm_H), rf_T m' w' h' → rf_G [41, 51, 52] h h' → rf_W [10, 12, 13, 14, 16, 17, 18, 22] m m' → rf_I 3 (m' 17) h' → (m 10).toInt ≤ (m' 10).toInt → Q (some (.int 1)) h') : pm_R (d + 3) 192 0 [.ref 41, .long a0, pm_no, .int a1, pm_no] [] h Q := by
  have B1 : sf_B 0 600 (m 10) := T.2.2.1 10
  obtain ⟨f2, e3, ct4, bd5⟩ := X
  have B6 : sf_B 0 4 (m 17) := T.2.2.1 17
  refine pm_R_lo pm_M192 (pc' := 1) rfl rfl rfl ?_
  refine pm_R_ldc2 pm_M192 (pc' := 4) rfl rfl rfl ?_
  refine sf_R_lcmp pm_M192 (pc' := 5) rfl rfl (fun z7 e8 => ?_)
  refine pm_R_ifc pm_M192 (t := 12) (pc' := 8) rfl rfl rfl (fun c9 => ?_) (fun c9 => ?_)
  · have k10 := sf_lneC e8 c9
    refine pm_R_lo pm_M192 (pc' := 13) rfl rfl rfl ?_
    refine pm_R_ldc2 pm_M192 (pc' := 16) rfl rfl rfl ?_
    refine sf_R_lcmp pm_M192 (pc' := 17) rfl rfl (fun z11 e12 => ?_)
    refine pm_R_ifc pm_M192 (t := 24) (pc' := 20) rfl rfl rfl (fun c13 => ?_) (fun c13 => ?_)
    · have k14 := sf_lneC e12 c13
      refine pm_R_lo pm_M192 (pc' := 25) rfl rfl rfl ?_
      refine pm_R_ldc2 pm_M192 (pc' := 28) rfl rfl rfl ?_
      refine sf_R_lcmp pm_M192 (pc' := 29) rfl rfl (fun z15 e16 => ?_)
      refine pm_R_ifc pm_M192 (t := 36) (pc' := 32) rfl rfl rfl (fun c17 => ?_) (fun c17 => ?_)
      · have k18 := sf_lneC e16 c17
        refine pm_R_lo pm_M192 (pc' := 37) rfl rfl rfl ?_
        refine pm_R_ldc2 pm_M192 (pc' := 40) rfl rfl rfl ?_
        refine sf_R_lcmp pm_M192 (pc' := 41) rfl rfl (fun z19 e20 => ?_)
        refine pm_R_ifc pm_M192 (t := 48) (pc' := 44) rfl rfl rfl (fun c21 => ?_) (fun c21 => ?_)
        · have k22 := sf_lneC e20 c21
          refine pm_R_lo pm_M192 (pc' := 49) rfl rfl rfl ?_
          refine pm_R_ldc2 pm_M192 (pc' := 52) rfl rfl rfl ?_
          refine sf_R_lcmp pm_M192 (pc' := 53) rfl rfl (fun z23 e24 => ?_)
          refine pm_R_ifc pm_M192 (t := 60) (pc' := 56) rfl rfl rfl (fun c25 => ?_) (fun c25 => ?_)
          · have k26 := sf_lneC e24 c25
            refine pm_R_lo pm_M192 (pc' := 61) rfl rfl rfl ?_
            refine pm_R_ldc2 pm_M192 (pc' := 64) rfl rfl rfl ?_
            refine sf_R_lcmp pm_M192 (pc' := 65) rfl rfl (fun z27 e28 => ?_)
            refine pm_R_ifc pm_M192 (t := 72) (pc' := 68) rfl rfl rfl (fun c29 => ?_) (fun c29 => ?_)
            · have k30 := sf_lneC e28 c29
              refine pm_R_op pm_M192 (pc' := 73) (st' := [.int (-1)]) rfl rfl rfl ?_
              refine pm_R_lo pm_M192 (pc' := 75) (ls' := [.ref 41, .long a0, pm_no, .int a1, .int (-1)]) (st' := []) rfl rfl rfl ?_
              refine pm_R_lo pm_M192 (pc' := 77) rfl rfl rfl ?_
              refine pm_R_op pm_M192 (pc' := 78) (st' := [.int (-1), .int (-1)]) rfl rfl rfl ?_
              refine pm_R_br pm_M192 (pc' := 81) (st' := []) rfl rfl ?_
              refine pm_R_lo pm_M192 (pc' := 82) rfl rfl rfl ?_
              refine pm_R_cv pm_M192 (pc' := 85) (a := 41) (ra := []) (rest := []) (ls' := [.ref 41]) rfl rfl (Or.inl rfl) pm_M184 T.2.1 rfl (by decide) (Nat.lt_of_lt_of_le (by decide) T.1) rfl rfl (Nat.le_of_ble_eq_true rfl) rfl rfl ?_
              refine pm_R_lo pm_M184 (pc' := 1) rfl rfl rfl ?_
              refine pm_R_lo pm_M184 (pc' := 2) rfl rfl rfl ?_
              have B31 : sf_B 0 600 (m 12) := T.2.2.1 12
              refine rf_R_get pm_M184 T (pc' := 5) (v := .int (m 12)) rfl rfl rfl rfl ?_
              refine rf_R_put pm_M184 T (pc' := 8) rfl rfl rfl (by decide) rfl rfl B31 rfl rfl (fun h32 m35 em36 T33 F34 => ?_)
              have F37 := (rf_G.refl [41, 51, 52] h).trans F34 (by decide)
              have B38 : sf_B 0 600 (m35 10) := by rw [em36]; exact B1
              have ek39 : (m35 10).toInt = ((m 10)).toInt := by rw [em36]; rfl
              have B40 : sf_B 0 4 (m35 17) := by rw [em36]; exact B6
              have ek41 : (m35 17).toInt = ((m 17)).toInt := by rw [em36]; rfl
              have B42 : sf_B 0 600 (m35 16) := by rw [em36]; exact B31
              have ek43 : (m35 16).toInt = ((m 12)).toInt := by rw [em36]; rfl
              have W44 : rf_W [10, 12, 13, 14, 16, 17, 18, 22] m m35 := by rw [em36]; exact (rf_W.refl [10, 12, 13, 14, 16, 17, 18, 22] m).put (by decide)
              have B45 : sf_B 0 1 (m35 22) := T33.2.2.1 22
              refine pm_R_op pm_M184 (pc' := 9) (st' := [.int 0]) rfl rfl rfl ?_
              refine pm_R_ret pm_M184 (r := some (.int 0)) rfl rfl ?_
              show pm_R _ 192 85 [.ref 41, .long a0, pm_no, .int a1, .int (-1)] [.int 0] _ _
              exact pm_R_ret pm_M192 (r := some (.int 0)) rfl rfl (K0 m35 w h32 T33 F37 W44 (sf_aux52 _ _ ek39))
            · have B46 : sf_B 0 0 z27 := sf_eqL (Classical.not_not.mp c29) sf_k0
              have B47 : lf_B 1936024942 1936024942 a0 := lf_eqB e28 B46 (⟨by decide, by decide⟩ : lf_B 1936024942 1936024942 1936024942)
              refine pm_R_op pm_M192 (pc' := 69) (st' := [.int 5]) rfl rfl rfl ?_
              refine pm_R_br pm_M192 (pc' := 73) rfl rfl ?_
              refine pm_R_lo pm_M192 (pc' := 75) (ls' := [.ref 41, .long a0, pm_no, .int a1, .int 5]) (st' := []) rfl rfl rfl ?_
              refine pm_R_lo pm_M192 (pc' := 77) rfl rfl rfl ?_
              refine pm_R_op pm_M192 (pc' := 78) (st' := [.int (-1), .int 5]) rfl rfl rfl ?_
              refine pm_R_br pm_M192 (pc' := 86) (st' := []) rfl rfl ?_
              refine pm_R_lo pm_M192 (pc' := 87) rfl rfl rfl ?_
              refine rf_R_get pm_M192 T (pc' := 90) (v := .ref 51) rfl rfl rfl rfl ?_
              refine pm_R_op pm_M192 (pc' := 91) (st' := [.int 0, .ref 51]) rfl rfl rfl ?_
              refine pm_R_iald pm_M192 (pc' := 92) (v := (f2 0)) rfl e3 (Nat.lt_of_lt_of_le (by decide) T.1) rfl rfl rfl ?_
              refine pm_R_op pm_M192 (pc' := 94) (st' := [.int 8, .int (f2 0)]) rfl rfl rfl ?_
              refine pm_R_icmp pm_M192 (t := 103) (pc' := 97) rfl rfl rfl (fun c50 => ?_) (fun c50 => ?_)
              · have B51 : sf_B 0 7 (f2 0) := sf_neH0 c50 sf_k8 ct4
                refine pm_R_lo pm_M192 (pc' := 104) rfl rfl rfl ?_
                refine pm_R_cv pm_M192 (pc' := 107) (a := 41) (ra := []) (rest := []) (ls' := [.ref 41, pm_no, pm_no]) rfl rfl (Or.inl rfl) pm_M179 T.2.1 rfl (by decide) (Nat.lt_of_lt_of_le (by decide) T.1) rfl rfl (Nat.le_of_ble_eq_true rfl) rfl rfl ?_
                refine rf_c179 (d := d + 1) T  (fun m54 w55 h56 T57 F58 W59 X60 X61 => ?_)
                have F62 := (rf_G.refl [41, 51, 52] h).trans F58 (by decide)
                have B63 : sf_B 0 4 (m54 17) := by rw [W59 17 (by decide)]; exact B6
                have ek64 : (m54 17).toInt = ((m 17)).toInt := by rw [W59 17 (by decide)]
                have W65 : rf_W [10, 12, 13, 14, 16, 17, 18, 22] m m54 := (rf_W.refl [10, 12, 13, 14, 16, 17, 18, 22] m).trans W59 (by decide)
                have B66 : sf_B 0 600 (m54 10) := T57.2.2.1 10
                have B67 : sf_B 0 1 (m54 22) := T57.2.2.1 22
                show pm_R _ 192 107 [.ref 41, .long a0, pm_no, .int a1, .int 5] [] _ _
                have R68 : (m 10).toInt ≤ (m54 10).toInt := (sf_aux51 _ _ X60)
                refine pm_R_lo pm_M192 (pc' := 108) rfl rfl rfl ?_
                refine pm_R_cv pm_M192 (pc' := 111) (a := 41) (ra := []) (rest := []) (ls' := [.ref 41, pm_no]) rfl rfl (Or.inl rfl) pm_M190 T57.2.1 rfl (by decide) (Nat.lt_of_lt_of_le (by decide) T57.1) rfl rfl (Nat.le_of_ble_eq_true rfl) rfl rfl ?_
                refine pm_R_op pm_M190 (pc' := 1) (st' := [.int 0]) rfl rfl rfl ?_
                refine pm_R_lo pm_M190 (pc' := 2) (ls' := [.ref 41, .int 0]) (st' := []) rfl rfl rfl ?_
                refine pm_R_lo pm_M190 (pc' := 3) rfl rfl rfl ?_
                refine pm_R_op pm_M190 (pc' := 4) (st' := [.int 4, .int 0]) rfl rfl rfl ?_
                refine pm_R_br pm_M190 (pc' := 7) (st' := []) rfl rfl ?_
                refine pm_R_lo pm_M190 (pc' := 8) rfl rfl rfl ?_
                refine rf_R_get pm_M190 T57 (pc' := 11) (v := .ref 52) rfl rfl rfl rfl ?_
                refine pm_R_lo pm_M190 (pc' := 12) rfl rfl rfl ?_
                refine pm_R_op pm_M190 (pc' := 13) (st' := [.int (-1), .int 0, .ref 52]) rfl rfl rfl ?_
                obtain ⟨f69, e70, b71⟩ := T57.2.2.2.1 52 (by decide) (by decide)
                refine rf_R_ist pm_M190 T57 (pc' := 14) rfl e70 (by decide) (by decide) rfl ⟨_, rfl, sf_upd b71 (sf_weak sf_kn1 (by decide) (by decide)) _⟩ rfl (fun h72 T73 F74 e75 => ?_)
                have F76 := F62.trans F74 (by decide)
                refine pm_R_lo pm_M190 (pc' := 17) (ls' := [.ref 41, .int 1]) (st' := []) rfl rfl rfl ?_
                refine pm_R_br pm_M190 (pc' := 2) rfl rfl ?_
                refine pm_R_lo pm_M190 (pc' := 3) rfl rfl rfl ?_
                refine pm_R_op pm_M190 (pc' := 4) (st' := [.int 4, .int 1]) rfl rfl rfl ?_
                refine pm_R_br pm_M190 (pc' := 7) (st' := []) rfl rfl ?_
                refine pm_R_lo pm_M190 (pc' := 8) rfl rfl rfl ?_
                refine rf_R_get pm_M190 T73 (pc' := 11) (v := .ref 52) rfl rfl rfl rfl ?_
                refine pm_R_lo pm_M190 (pc' := 12) rfl rfl rfl ?_
                refine pm_R_op pm_M190 (pc' := 13) (st' := [.int (-1), .int 1, .ref 52]) rfl rfl rfl ?_
                refine rf_R_ist pm_M190 T73 (pc' := 14) rfl e75 (by decide) (by decide) rfl ⟨_, rfl, sf_upd (sf_upd b71 (sf_weak sf_kn1 (by decide) (by decide)) _) (sf_weak sf_kn1 (by decide) (by decide)) _⟩ rfl (fun h77 T78 F79 e80 => ?_)
                have F81 := F76.trans F79 (by decide)
                refine pm_R_lo pm_M190 (pc' := 17) (ls' := [.ref 41, .int 2]) (st' := []) rfl rfl rfl ?_
                refine pm_R_br pm_M190 (pc' := 2) rfl rfl ?_
                refine pm_R_lo pm_M190 (pc' := 3) rfl rfl rfl ?_
                refine pm_R_op pm_M190 (pc' := 4) (st' := [.int 4, .int 2]) rfl rfl rfl ?_
                refine pm_R_br pm_M190 (pc' := 7) (st' := []) rfl rfl ?_
                refine pm_R_lo pm_M190 (pc' := 8) rfl rfl rfl ?_
                refine rf_R_get pm_M190 T78 (pc' := 11) (v := .ref 52) rfl rfl rfl rfl ?_
                refine pm_R_lo pm_M190 (pc' := 12) rfl rfl rfl ?_
                refine pm_R_op pm_M190 (pc' := 13) (st' := [.int (-1), .int 2, .ref 52]) rfl rfl rfl ?_
                refine rf_R_ist pm_M190 T78 (pc' := 14) rfl e80 (by decide) (by decide) rfl ⟨_, rfl, sf_upd (sf_upd (sf_upd b71 (sf_weak sf_kn1 (by decide) (by decide)) _) (sf_weak sf_kn1 (by decide) (by decide)) _) (sf_weak sf_kn1 (by decide) (by decide)) _⟩ rfl (fun h82 T83 F84 e85 => ?_)
                have F86 := F81.trans F84 (by decide)
                refine pm_R_lo pm_M190 (pc' := 17) (ls' := [.ref 41, .int 3]) (st' := []) rfl rfl rfl ?_
                refine pm_R_br pm_M190 (pc' := 2) rfl rfl ?_
                refine pm_R_lo pm_M190 (pc' := 3) rfl rfl rfl ?_
                refine pm_R_op pm_M190 (pc' := 4) (st' := [.int 4, .int 3]) rfl rfl rfl ?_
                refine pm_R_br pm_M190 (pc' := 7) (st' := []) rfl rfl ?_
                refine pm_R_lo pm_M190 (pc' := 8) rfl rfl rfl ?_
                refine rf_R_get pm_M190 T83 (pc' := 11) (v := .ref 52) rfl rfl rfl rfl ?_
                refine pm_R_lo pm_M190 (pc' := 12) rfl rfl rfl ?_
                refine pm_R_op pm_M190 (pc' := 13) (st' := [.int (-1), .int 3, .ref 52]) rfl rfl rfl ?_
                refine rf_R_ist pm_M190 T83 (pc' := 14) rfl e85 (by decide) (by decide) rfl ⟨_, rfl, sf_upd (sf_upd (sf_upd (sf_upd b71 (sf_weak sf_kn1 (by decide) (by decide)) _) (sf_weak sf_kn1 (by decide) (by decide)) _) (sf_weak sf_kn1 (by decide) (by decide)) _) (sf_weak sf_kn1 (by decide) (by decide)) _⟩ rfl (fun h87 T88 F89 e90 => ?_)
                have F91 := F86.trans F89 (by decide)
                refine pm_R_lo pm_M190 (pc' := 17) (ls' := [.ref 41, .int 4]) (st' := []) rfl rfl rfl ?_
                refine pm_R_br pm_M190 (pc' := 2) rfl rfl ?_
                refine pm_R_lo pm_M190 (pc' := 3) rfl rfl rfl ?_
                refine pm_R_op pm_M190 (pc' := 4) (st' := [.int 4, .int 4]) rfl rfl rfl ?_
                refine pm_R_br pm_M190 (pc' := 20) (st' := []) rfl rfl ?_
                refine pm_R_ret pm_M190 (r := none) rfl rfl ?_
                show pm_R _ 192 111 [.ref 41, .long a0, pm_no, .int a1, .int 5] [] _ _
                refine pm_R_lo pm_M192 (pc' := 112) rfl rfl rfl ?_
                refine rf_R_get pm_M192 T88 (pc' := 115) (v := .ref 52) rfl rfl rfl rfl ?_
                refine pm_R_op pm_M192 (pc' := 116) (st' := [.int 0, .ref 52]) (pm_q192_1 (Nat.le_of_ble_eq_true rfl)) rfl rfl ?_
                refine pm_R_lo pm_M192 (pc' := 118) (pm_q192_1 (Nat.le_of_ble_eq_true rfl)) rfl rfl ?_
                refine rf_R_ist pm_M192 T88 (pc' := 119) (pm_q192_1 (Nat.le_of_ble_eq_true rfl)) e90 (by decide) (by decide) rfl ⟨_, rfl, sf_upd (sf_upd (sf_upd (sf_upd (sf_upd b71 (sf_weak sf_kn1 (by decide) (by decide)) _) (sf_weak sf_kn1 (by decide) (by decide)) _) (sf_weak sf_kn1 (by decide) (by decide)) _) (sf_weak sf_kn1 (by decide) (by decide)) _) (sf_weak sf_k5 (by decide) (by decide)) _⟩ rfl (fun h92 T93 F94 e95 => ?_)
                have F96 := F91.trans F94 (by decide)
                refine pm_R_lo pm_M192 (pc' := 120) (pm_q192_1 (Nat.le_of_ble_eq_true rfl)) rfl rfl ?_
                refine pm_R_op pm_M192 (pc' := 121) (st' := [.int 1, .ref 41]) (pm_q192_1 (Nat.le_of_ble_eq_true rfl)) rfl rfl ?_
                refine pm_R_op pm_M192 (pc' := 123) (st' := [.int 9, .int 1, .ref 41]) (pm_q192_1 (Nat.le_of_ble_eq_true rfl)) rfl rfl ?_
                refine pm_R_op pm_M192 (pc' := 124) (st' := [.int (-1), .int 9, .int 1, .ref 41]) (pm_q192_1 (Nat.le_of_ble_eq_true rfl)) rfl rfl ?_
                refine pm_R_cv pm_M192 (pc' := 127) (a := 41) (ra := [.int (-1), .int 9, .int 1]) (rest := []) (ls' := [.ref 41, .int 1, .int 9, .int (-1)]) (pm_q192_1 (Nat.le_of_ble_eq_true rfl)) rfl (Or.inl rfl) pm_M183 T93.2.1 rfl (by decide) (Nat.lt_of_lt_of_le (by decide) T93.1) rfl rfl (Nat.le_of_ble_eq_true rfl) rfl rfl ?_
                refine rf_c183_1_9 (d := d + 0) T93  (fun m99 w100 h101 T102 F103 W104 X105 => ?_) (fun m108 w109 h110 T111 F112 W113 X114 X115 X116 X117 X118 => ?_) (fun m121 w122 h123 T124 F125 W126 X127 X128 X129 B130 B131 => ?_)
                · have F132 := F96.trans F103 (by decide)
                  have W133 : rf_W [10, 12, 13, 14, 16, 17, 18, 22] m m99 := W65.trans W104 (by decide)
                  have B134 : sf_B 0 600 (m99 10) := T102.2.2.1 10
                  have B135 : sf_B 0 4 (m99 17) := T102.2.2.1 17
                  have B136 : sf_B 0 1 (m99 22) := T102.2.2.1 22
                  show pm_R _ 192 127 [.ref 41, .long a0, pm_no, .int a1, .int 5] [.int 0] _ _
                  have R137 : (m 10).toInt ≤ (m99 10).toInt := (sf_aux70 _ _ _ R68 X105)
                  refine pm_R_br pm_M192 (pc' := 130) (st' := []) (pm_q192_1 (Nat.le_of_ble_eq_true rfl)) rfl ?_
                  refine pm_R_op pm_M192 (pc' := 131) (st' := [.int 0]) (pm_q192_1 (Nat.le_of_ble_eq_true rfl)) rfl rfl ?_
                  exact pm_R_ret pm_M192 (r := some (.int 0)) (pm_q192_1 (Nat.le_of_ble_eq_true rfl)) rfl (K0 m99 w100 h101 T102 F132 W133 (sf_aux51 _ _ R137))
                · have F138 := F96.trans F112 (by decide)
                  have W139 : rf_W [10, 12, 13, 14, 16, 17, 18, 22] m m108 := W65.trans W113 (by decide)
                  have B140 : sf_B 0 600 (m108 10) := T111.2.2.1 10
                  have B141 : sf_B 0 4 (m108 17) := T111.2.2.1 17
                  have B142 : sf_B 0 1 (m108 22) := T111.2.2.1 22
                  show pm_R _ 192 127 [.ref 41, .long a0, pm_no, .int a1, .int 5] [.int 1] _ _
                  have R143 : (m 10).toInt ≤ (m108 10).toInt := (sf_aux70 _ _ _ R68 X118)
                  obtain ⟨v144, B145, e146⟩ := X114 _ e95
                  refine pm_R_br pm_M192 (pc' := 132) (st' := []) (pm_q192_1 (Nat.le_of_ble_eq_true rfl)) rfl ?_
                  refine pm_R_lo pm_M192 (pc' := 134) (pm_q192_1 (Nat.le_of_ble_eq_true rfl)) rfl rfl ?_
                  refine pm_R_op pm_M192 (pc' := 135) (st' := [.int 1, .int 5]) (pm_q192_1 (Nat.le_of_ble_eq_true rfl)) rfl rfl ?_
                  refine pm_R_br pm_M192 (pc' := 138) (st' := []) (pm_q192_1 (Nat.le_of_ble_eq_true rfl)) rfl ?_
                  refine pm_R_lo pm_M192 (pc' := 140) (pm_q192_1 (Nat.le_of_ble_eq_true rfl)) rfl rfl ?_
                  refine pm_R_op pm_M192 (pc' := 141) (st' := [.int 2, .int 5]) (pm_q192_1 (Nat.le_of_ble_eq_true rfl)) rfl rfl ?_
                  refine pm_R_br pm_M192 (pc' := 144) (st' := []) (pm_q192_1 (Nat.le_of_ble_eq_true rfl)) rfl ?_
                  refine pm_R_lo pm_M192 (pc' := 146) (pm_q192_1 (Nat.le_of_ble_eq_true rfl)) rfl rfl ?_
                  refine pm_R_op pm_M192 (pc' := 147) (st' := [.int 3, .int 5]) (pm_q192_1 (Nat.le_of_ble_eq_true rfl)) rfl rfl ?_
                  refine pm_R_br pm_M192 (pc' := 163) (st' := []) (pm_q192_1 (Nat.le_of_ble_eq_true rfl)) rfl ?_
                  refine pm_R_lo pm_M192 (pc' := 164) (pm_q192_1 (Nat.le_of_ble_eq_true rfl)) rfl rfl ?_
                  refine pm_R_op pm_M192 (pc' := 165) (st' := [.int 0, .ref 41]) (pm_q192_1 (Nat.le_of_ble_eq_true rfl)) rfl rfl ?_
                  refine pm_R_op pm_M192 (pc' := 166) (st' := [.int 1, .int 0, .ref 41]) (pm_q192_1 (Nat.le_of_ble_eq_true rfl)) rfl rfl ?_
                  refine pm_R_op pm_M192 (pc' := 167) (st' := [.int 3, .int 1, .int 0, .ref 41]) (pm_q192_1 (Nat.le_of_ble_eq_true rfl)) rfl rfl ?_
                  refine pm_R_op pm_M192 (pc' := 169) (st' := [.int 8, .int 3, .int 1, .int 0, .ref 41]) (pm_q192_1 (Nat.le_of_ble_eq_true rfl)) rfl rfl ?_
                  refine pm_R_op pm_M192 (pc' := 170) (st' := [.int 0, .int 8, .int 3, .int 1, .int 0, .ref 41]) (pm_q192_1 (Nat.le_of_ble_eq_true rfl)) rfl rfl ?_
                  refine pm_R_cv pm_M192 (pc' := 173) (a := 41) (ra := [.int 0, .int 8, .int 3, .int 1, .int 0]) (rest := []) (ls' := [.ref 41, .int 0, .int 1, .int 3, .int 8, .int 0, pm_no, pm_no]) (pm_q192_1 (Nat.le_of_ble_eq_true rfl)) rfl (Or.inl rfl) pm_M185 T111.2.1 rfl (by decide) (Nat.lt_of_lt_of_le (by decide) T111.1) rfl rfl (Nat.le_of_ble_eq_true rfl) rfl rfl ?_
                  have e147 := (F112.cell (by decide) (F94.cell (by decide) (F89.cell (by decide) (F84.cell (by decide) (F79.cell (by decide) (F74.cell (by decide) (F58.cell (by decide) e3)))))))
                  refine rf_c185_l (d := d + 2) T111 (⟨f2, e147, ct4, fun z => (bd5 (sf_aux76 _ _ _ ek64 X115 z))⟩) (fun _ g eg => by rw [e146] at eg; cases eg; exact ⟨sf_eqL (Eq.trans (sf_upd_nec (k := Int32.toNatClampNeg 1) (j := Int32.toNatClampNeg 0) (by decide)) sf_upd_eq) (sf_weak sf_k5 (by decide) (by decide)), sf_eqL sf_upd_eq B145, sf_eqL (Eq.trans (sf_upd_nec (k := Int32.toNatClampNeg 1) (j := Int32.toNatClampNeg 2) (by decide)) (Eq.trans (sf_upd_nec (k := Int32.toNatClampNeg 0) (j := Int32.toNatClampNeg 2) (by decide)) (Eq.trans (sf_upd_nec (k := Int32.toNatClampNeg 3) (j := Int32.toNatClampNeg 2) (by decide)) sf_upd_eq))) (sf_weak sf_kn1 (by decide) (by decide))⟩) (fun m150 w151 h152 T153 F154 W155 X156 => ?_)
                  have F157 := F138.trans F154 (by decide)
                  have B158 : sf_B 0 600 (m150 10) := by rw [W155 10 (by decide)]; exact B140
                  have ek159 : (m150 10).toInt = ((m108 10)).toInt := by rw [W155 10 (by decide)]
                  have B160 : sf_B 0 4 (m150 17) := by rw [W155 17 (by decide)]; exact (sf_eqT X115 B63)
                  have ek161 : (m150 17).toInt = ((m54 17)).toInt := by rw [W155 17 (by decide)]; exact X115
                  have B162 : sf_B 0 1 (m150 22) := by rw [W155 22 (by decide)]; exact (sf_eqT X116 B67)
                  have ek163 : (m150 22).toInt = ((m54 22)).toInt := by rw [W155 22 (by decide)]; exact X116
                  have W164 : rf_W [10, 12, 13, 14, 16, 17, 18, 22] m m150 := W139.trans W155 (by decide)
                  show pm_R _ 192 173 [.ref 41, .long a0, pm_no, .int a1, .int 5] [] _ _
                  obtain ⟨f165, e166, ct167, bd168⟩ := X156
                  refine pm_R_op pm_M192 (pc' := 174) (st' := [.int 1]) (pm_q192_1 (Nat.le_of_ble_eq_true rfl)) rfl rfl ?_
                  exact pm_R_ret pm_M192 (r := some (.int 1)) (pm_q192_1 (Nat.le_of_ble_eq_true rfl)) rfl (K1 m150 w151 h152 T153 F157 W164 (⟨f165, e166, ct167, fun z => (bd168 z)⟩) (sf_aux39 _ _ _ ek159 R143))
                · have F169 := F96.trans F125 (by decide)
                  have W170 : rf_W [10, 12, 13, 14, 16, 17, 18, 22] m m121 := W65.trans W126 (by decide)
                  have B171 : sf_B 0 600 (m121 10) := T124.2.2.1 10
                  have B172 : sf_B 0 4 (m121 17) := T124.2.2.1 17
                  have B173 : sf_B 0 1 (m121 22) := T124.2.2.1 22
                  show pm_R _ 192 127 [.ref 41, .long a0, pm_no, .int a1, .int 5] [.int 1] _ _
                  have R174 : (m 10).toInt ≤ (m121 10).toInt := (sf_aux70 _ _ _ R68 X129)
                  obtain ⟨v175, B176, e177⟩ := X127 _ e95
                  refine pm_R_br pm_M192 (pc' := 132) (st' := []) (pm_q192_1 (Nat.le_of_ble_eq_true rfl)) rfl ?_
                  refine pm_R_lo pm_M192 (pc' := 134) (pm_q192_1 (Nat.le_of_ble_eq_true rfl)) rfl rfl ?_
                  refine pm_R_op pm_M192 (pc' := 135) (st' := [.int 1, .int 5]) (pm_q192_1 (Nat.le_of_ble_eq_true rfl)) rfl rfl ?_
                  refine pm_R_br pm_M192 (pc' := 138) (st' := []) (pm_q192_1 (Nat.le_of_ble_eq_true rfl)) rfl ?_
                  refine pm_R_lo pm_M192 (pc' := 140) (pm_q192_1 (Nat.le_of_ble_eq_true rfl)) rfl rfl ?_
                  refine pm_R_op pm_M192 (pc' := 141) (st' := [.int 2, .int 5]) (pm_q192_1 (Nat.le_of_ble_eq_true rfl)) rfl rfl ?_
                  refine pm_R_br pm_M192 (pc' := 144) (st' := []) (pm_q192_1 (Nat.le_of_ble_eq_true rfl)) rfl ?_
                  refine pm_R_lo pm_M192 (pc' := 146) (pm_q192_1 (Nat.le_of_ble_eq_true rfl)) rfl rfl ?_
                  refine pm_R_op pm_M192 (pc' := 147) (st' := [.int 3, .int 5]) (pm_q192_1 (Nat.le_of_ble_eq_true rfl)) rfl rfl ?_
                  refine pm_R_br pm_M192 (pc' := 163) (st' := []) (pm_q192_1 (Nat.le_of_ble_eq_true rfl)) rfl ?_
                  refine pm_R_lo pm_M192 (pc' := 164) (pm_q192_1 (Nat.le_of_ble_eq_true rfl)) rfl rfl ?_
                  refine pm_R_op pm_M192 (pc' := 165) (st' := [.int 0, .ref 41]) (pm_q192_1 (Nat.le_of_ble_eq_true rfl)) rfl rfl ?_
                  refine pm_R_op pm_M192 (pc' := 166) (st' := [.int 1, .int 0, .ref 41]) (pm_q192_1 (Nat.le_of_ble_eq_true rfl)) rfl rfl ?_
                  refine pm_R_op pm_M192 (pc' := 167) (st' := [.int 3, .int 1, .int 0, .ref 41]) (pm_q192_1 (Nat.le_of_ble_eq_true rfl)) rfl rfl ?_
                  refine pm_R_op pm_M192 (pc' := 169) (st' := [.int 8, .int 3, .int 1, .int 0, .ref 41]) (pm_q192_1 (Nat.le_of_ble_eq_true rfl)) rfl rfl ?_
                  refine pm_R_op pm_M192 (pc' := 170) (st' := [.int 0, .int 8, .int 3, .int 1, .int 0, .ref 41]) (pm_q192_1 (Nat.le_of_ble_eq_true rfl)) rfl rfl ?_
                  refine pm_R_cv pm_M192 (pc' := 173) (a := 41) (ra := [.int 0, .int 8, .int 3, .int 1, .int 0]) (rest := []) (ls' := [.ref 41, .int 0, .int 1, .int 3, .int 8, .int 0, pm_no, pm_no]) (pm_q192_1 (Nat.le_of_ble_eq_true rfl)) rfl (Or.inl rfl) pm_M185 T124.2.1 rfl (by decide) (Nat.lt_of_lt_of_le (by decide) T124.1) rfl rfl (Nat.le_of_ble_eq_true rfl) rfl rfl ?_
                  have e178 := (F125.cell (by decide) (F94.cell (by decide) (F89.cell (by decide) (F84.cell (by decide) (F79.cell (by decide) (F74.cell (by decide) (F58.cell (by decide) e3)))))))
                  refine rf_c185_l (d := d + 2) T124 (⟨f2, e178, ct4, fun z => (sf_pos B130 (by decide) z)⟩) (fun z => sf_pos B130 (by decide) z) (fun m181 w182 h183 T184 F185 W186 X187 => ?_)
                  have F188 := F169.trans F185 (by decide)
                  have B189 : sf_B 0 600 (m181 10) := by rw [W186 10 (by decide)]; exact B171
                  have ek190 : (m181 10).toInt = ((m121 10)).toInt := by rw [W186 10 (by decide)]
                  have B191 : sf_B 1 4 (m181 17) := by rw [W186 17 (by decide)]; exact B130
                  have ek192 : (m181 17).toInt = ((m121 17)).toInt := by rw [W186 17 (by decide)]
                  have B193 : sf_B 0 0 (m181 22) := by rw [W186 22 (by decide)]; exact B131
                  have ek194 : (m181 22).toInt = ((m121 22)).toInt := by rw [W186 22 (by decide)]
                  have W195 : rf_W [10, 12, 13, 14, 16, 17, 18, 22] m m181 := W170.trans W186 (by decide)
                  show pm_R _ 192 173 [.ref 41, .long a0, pm_no, .int a1, .int 5] [] _ _
                  obtain ⟨f196, e197, ct198, bd199⟩ := X187
                  refine pm_R_op pm_M192 (pc' := 174) (st' := [.int 1]) (pm_q192_1 (Nat.le_of_ble_eq_true rfl)) rfl rfl ?_
                  exact pm_R_ret pm_M192 (r := some (.int 1)) (pm_q192_1 (Nat.le_of_ble_eq_true rfl)) rfl (K1 m181 w182 h183 T184 F188 W195 (⟨f196, e197, ct198, fun z => (sf_pos B191 (by decide) z)⟩) (sf_aux39 _ _ _ ek190 R174))
              · have B200 : sf_B 8 8 (f2 0) := sf_eqL (Classical.not_not.mp c50) sf_k8
                refine pm_R_lo pm_M192 (pc' := 98) rfl rfl rfl ?_
                refine pm_R_op pm_M192 (pc' := 99) (st' := [.int 3, .ref 41]) rfl rfl rfl ?_
                refine pm_R_lo pm_M192 (pc' := 100) rfl rfl rfl ?_
                refine pm_R_cv pm_M192 (pc' := 103) (a := 41) (ra := [.int a1, .int 3]) (rest := []) (ls' := [.ref 41, .int 3, .int a1]) rfl rfl (Or.inl rfl) pm_M182 T.2.1 rfl (by decide) (Nat.lt_of_lt_of_le (by decide) T.1) rfl rfl (Nat.le_of_ble_eq_true rfl) rfl rfl ?_
                refine rf_c182 (d := d + 2) T (sf_weak sf_k3 (by decide) (by decide)) Ba1 (fun m203 w204 h205 T206 F207 W208 B209 => ?_)
                have F210 := (rf_G.refl [41, 51, 52] h).trans F207 (by decide)
                have B211 : sf_B 0 600 (m203 10) := by rw [W208 10 (by decide)]; exact B1
                have ek212 : (m203 10).toInt = ((m 10)).toInt := by rw [W208 10 (by decide)]
                have W213 : rf_W [10, 12, 13, 14, 16, 17, 18, 22] m m203 := (rf_W.refl [10, 12, 13, 14, 16, 17, 18, 22] m).trans W208 (by decide)
                have B214 : sf_B 0 4 (m203 17) := T206.2.2.1 17
                have B215 : sf_B 0 1 (m203 22) := T206.2.2.1 22
                show pm_R _ 192 103 [.ref 41, .long a0, pm_no, .int a1, .int 5] [] _ _
                refine pm_R_lo pm_M192 (pc' := 104) rfl rfl rfl ?_
                refine pm_R_cv pm_M192 (pc' := 107) (a := 41) (ra := []) (rest := []) (ls' := [.ref 41, pm_no, pm_no]) rfl rfl (Or.inl rfl) pm_M179 T206.2.1 rfl (by decide) (Nat.lt_of_lt_of_le (by decide) T206.1) rfl rfl (Nat.le_of_ble_eq_true rfl) rfl rfl ?_
                refine rf_c179 (d := d + 1) T206  (fun m218 w219 h220 T221 F222 W223 X224 X225 => ?_)
                have F226 := F210.trans F222 (by decide)
                have B227 : sf_B 1 4 (m218 17) := by rw [W223 17 (by decide)]; exact B209
                have ek228 : (m218 17).toInt = ((m203 17)).toInt := by rw [W223 17 (by decide)]
                have B229 : sf_B 0 1 (m218 22) := by rw [W223 22 (by decide)]; exact B215
                have ek230 : (m218 22).toInt = ((m203 22)).toInt := by rw [W223 22 (by decide)]
                have W231 : rf_W [10, 12, 13, 14, 16, 17, 18, 22] m m218 := W213.trans W223 (by decide)
                have B232 : sf_B 0 600 (m218 10) := T221.2.2.1 10
                show pm_R _ 192 107 [.ref 41, .long a0, pm_no, .int a1, .int 5] [] _ _
                have R233 : (m 10).toInt ≤ (m218 10).toInt := (sf_aux53 _ _ _ ek212 X224)
                refine pm_R_lo pm_M192 (pc' := 108) rfl rfl rfl ?_
                refine pm_R_cv pm_M192 (pc' := 111) (a := 41) (ra := []) (rest := []) (ls' := [.ref 41, pm_no]) rfl rfl (Or.inl rfl) pm_M190 T221.2.1 rfl (by decide) (Nat.lt_of_lt_of_le (by decide) T221.1) rfl rfl (Nat.le_of_ble_eq_true rfl) rfl rfl ?_
                refine pm_R_op pm_M190 (pc' := 1) (st' := [.int 0]) rfl rfl rfl ?_
                refine pm_R_lo pm_M190 (pc' := 2) (ls' := [.ref 41, .int 0]) (st' := []) rfl rfl rfl ?_
                refine pm_R_lo pm_M190 (pc' := 3) rfl rfl rfl ?_
                refine pm_R_op pm_M190 (pc' := 4) (st' := [.int 4, .int 0]) rfl rfl rfl ?_
                refine pm_R_br pm_M190 (pc' := 7) (st' := []) rfl rfl ?_
                refine pm_R_lo pm_M190 (pc' := 8) rfl rfl rfl ?_
                refine rf_R_get pm_M190 T221 (pc' := 11) (v := .ref 52) rfl rfl rfl rfl ?_
                refine pm_R_lo pm_M190 (pc' := 12) rfl rfl rfl ?_
                refine pm_R_op pm_M190 (pc' := 13) (st' := [.int (-1), .int 0, .ref 52]) rfl rfl rfl ?_
                obtain ⟨f234, e235, b236⟩ := T221.2.2.2.1 52 (by decide) (by decide)
                refine rf_R_ist pm_M190 T221 (pc' := 14) rfl e235 (by decide) (by decide) rfl ⟨_, rfl, sf_upd b236 (sf_weak sf_kn1 (by decide) (by decide)) _⟩ rfl (fun h237 T238 F239 e240 => ?_)
                have F241 := F226.trans F239 (by decide)
                refine pm_R_lo pm_M190 (pc' := 17) (ls' := [.ref 41, .int 1]) (st' := []) rfl rfl rfl ?_
                refine pm_R_br pm_M190 (pc' := 2) rfl rfl ?_
                refine pm_R_lo pm_M190 (pc' := 3) rfl rfl rfl ?_
                refine pm_R_op pm_M190 (pc' := 4) (st' := [.int 4, .int 1]) rfl rfl rfl ?_
                refine pm_R_br pm_M190 (pc' := 7) (st' := []) rfl rfl ?_
                refine pm_R_lo pm_M190 (pc' := 8) rfl rfl rfl ?_
                refine rf_R_get pm_M190 T238 (pc' := 11) (v := .ref 52) rfl rfl rfl rfl ?_
                refine pm_R_lo pm_M190 (pc' := 12) rfl rfl rfl ?_
                refine pm_R_op pm_M190 (pc' := 13) (st' := [.int (-1), .int 1, .ref 52]) rfl rfl rfl ?_
                refine rf_R_ist pm_M190 T238 (pc' := 14) rfl e240 (by decide) (by decide) rfl ⟨_, rfl, sf_upd (sf_upd b236 (sf_weak sf_kn1 (by decide) (by decide)) _) (sf_weak sf_kn1 (by decide) (by decide)) _⟩ rfl (fun h242 T243 F244 e245 => ?_)
                have F246 := F241.trans F244 (by decide)
                refine pm_R_lo pm_M190 (pc' := 17) (ls' := [.ref 41, .int 2]) (st' := []) rfl rfl rfl ?_
                refine pm_R_br pm_M190 (pc' := 2) rfl rfl ?_
                refine pm_R_lo pm_M190 (pc' := 3) rfl rfl rfl ?_
                refine pm_R_op pm_M190 (pc' := 4) (st' := [.int 4, .int 2]) rfl rfl rfl ?_
                refine pm_R_br pm_M190 (pc' := 7) (st' := []) rfl rfl ?_
                refine pm_R_lo pm_M190 (pc' := 8) rfl rfl rfl ?_
                refine rf_R_get pm_M190 T243 (pc' := 11) (v := .ref 52) rfl rfl rfl rfl ?_
                refine pm_R_lo pm_M190 (pc' := 12) rfl rfl rfl ?_
                refine pm_R_op pm_M190 (pc' := 13) (st' := [.int (-1), .int 2, .ref 52]) rfl rfl rfl ?_
                refine rf_R_ist pm_M190 T243 (pc' := 14) rfl e245 (by decide) (by decide) rfl ⟨_, rfl, sf_upd (sf_upd (sf_upd b236 (sf_weak sf_kn1 (by decide) (by decide)) _) (sf_weak sf_kn1 (by decide) (by decide)) _) (sf_weak sf_kn1 (by decide) (by decide)) _⟩ rfl (fun h247 T248 F249 e250 => ?_)
                have F251 := F246.trans F249 (by decide)
                refine pm_R_lo pm_M190 (pc' := 17) (ls' := [.ref 41, .int 3]) (st' := []) rfl rfl rfl ?_
                refine pm_R_br pm_M190 (pc' := 2) rfl rfl ?_
                refine pm_R_lo pm_M190 (pc' := 3) rfl rfl rfl ?_
                refine pm_R_op pm_M190 (pc' := 4) (st' := [.int 4, .int 3]) rfl rfl rfl ?_
                refine pm_R_br pm_M190 (pc' := 7) (st' := []) rfl rfl ?_
                refine pm_R_lo pm_M190 (pc' := 8) rfl rfl rfl ?_
                refine rf_R_get pm_M190 T248 (pc' := 11) (v := .ref 52) rfl rfl rfl rfl ?_
                refine pm_R_lo pm_M190 (pc' := 12) rfl rfl rfl ?_
                refine pm_R_op pm_M190 (pc' := 13) (st' := [.int (-1), .int 3, .ref 52]) rfl rfl rfl ?_
                refine rf_R_ist pm_M190 T248 (pc' := 14) rfl e250 (by decide) (by decide) rfl ⟨_, rfl, sf_upd (sf_upd (sf_upd (sf_upd b236 (sf_weak sf_kn1 (by decide) (by decide)) _) (sf_weak sf_kn1 (by decide) (by decide)) _) (sf_weak sf_kn1 (by decide) (by decide)) _) (sf_weak sf_kn1 (by decide) (by decide)) _⟩ rfl (fun h252 T253 F254 e255 => ?_)
                have F256 := F251.trans F254 (by decide)
                refine pm_R_lo pm_M190 (pc' := 17) (ls' := [.ref 41, .int 4]) (st' := []) rfl rfl rfl ?_
                refine pm_R_br pm_M190 (pc' := 2) rfl rfl ?_
                refine pm_R_lo pm_M190 (pc' := 3) rfl rfl rfl ?_
                refine pm_R_op pm_M190 (pc' := 4) (st' := [.int 4, .int 4]) rfl rfl rfl ?_
                refine pm_R_br pm_M190 (pc' := 20) (st' := []) rfl rfl ?_
                refine pm_R_ret pm_M190 (r := none) rfl rfl ?_
                show pm_R _ 192 111 [.ref 41, .long a0, pm_no, .int a1, .int 5] [] _ _
                refine pm_R_lo pm_M192 (pc' := 112) rfl rfl rfl ?_
                refine rf_R_get pm_M192 T253 (pc' := 115) (v := .ref 52) rfl rfl rfl rfl ?_
                refine pm_R_op pm_M192 (pc' := 116) (st' := [.int 0, .ref 52]) (pm_q192_1 (Nat.le_of_ble_eq_true rfl)) rfl rfl ?_
                refine pm_R_lo pm_M192 (pc' := 118) (pm_q192_1 (Nat.le_of_ble_eq_true rfl)) rfl rfl ?_
                refine rf_R_ist pm_M192 T253 (pc' := 119) (pm_q192_1 (Nat.le_of_ble_eq_true rfl)) e255 (by decide) (by decide) rfl ⟨_, rfl, sf_upd (sf_upd (sf_upd (sf_upd (sf_upd b236 (sf_weak sf_kn1 (by decide) (by decide)) _) (sf_weak sf_kn1 (by decide) (by decide)) _) (sf_weak sf_kn1 (by decide) (by decide)) _) (sf_weak sf_kn1 (by decide) (by decide)) _) (sf_weak sf_k5 (by decide) (by decide)) _⟩ rfl (fun h257 T258 F259 e260 => ?_)
                have F261 := F256.trans F259 (by decide)
                refine pm_R_lo pm_M192 (pc' := 120) (pm_q192_1 (Nat.le_of_ble_eq_true rfl)) rfl rfl ?_
                refine pm_R_op pm_M192 (pc' := 121) (st' := [.int 1, .ref 41]) (pm_q192_1 (Nat.le_of_ble_eq_true rfl)) rfl rfl ?_
                refine pm_R_op pm_M192 (pc' := 123) (st' := [.int 9, .int 1, .ref 41]) (pm_q192_1 (Nat.le_of_ble_eq_true rfl)) rfl rfl ?_
                refine pm_R_op pm_M192 (pc' := 124) (st' := [.int (-1), .int 9, .int 1, .ref 41]) (pm_q192_1 (Nat.le_of_ble_eq_true rfl)) rfl rfl ?_
                refine pm_R_cv pm_M192 (pc' := 127) (a := 41) (ra := [.int (-1), .int 9, .int 1]) (rest := []) (ls' := [.ref 41, .int 1, .int 9, .int (-1)]) (pm_q192_1 (Nat.le_of_ble_eq_true rfl)) rfl (Or.inl rfl) pm_M183 T258.2.1 rfl (by decide) (Nat.lt_of_lt_of_le (by decide) T258.1) rfl rfl (Nat.le_of_ble_eq_true rfl) rfl rfl ?_
                refine rf_c183_1_9 (d := d + 0) T258  (fun m264 w265 h266 T267 F268 W269 X270 => ?_) (fun m273 w274 h275 T276 F277 W278 X279 X280 X281 X282 X283 => ?_) (fun m286 w287 h288 T289 F290 W291 X292 X293 X294 B295 B296 => ?_)
                · have F297 := F261.trans F268 (by decide)
                  have W298 : rf_W [10, 12, 13, 14, 16, 17, 18, 22] m m264 := W231.trans W269 (by decide)
                  have B299 : sf_B 0 600 (m264 10) := T267.2.2.1 10
                  have B300 : sf_B 0 4 (m264 17) := T267.2.2.1 17
                  have B301 : sf_B 0 1 (m264 22) := T267.2.2.1 22
                  show pm_R _ 192 127 [.ref 41, .long a0, pm_no, .int a1, .int 5] [.int 0] _ _
                  have R302 : (m 10).toInt ≤ (m264 10).toInt := (sf_aux70 _ _ _ R233 X270)
                  refine pm_R_br pm_M192 (pc' := 130) (st' := []) (pm_q192_1 (Nat.le_of_ble_eq_true rfl)) rfl ?_
                  refine pm_R_op pm_M192 (pc' := 131) (st' := [.int 0]) (pm_q192_1 (Nat.le_of_ble_eq_true rfl)) rfl rfl ?_
                  exact pm_R_ret pm_M192 (r := some (.int 0)) (pm_q192_1 (Nat.le_of_ble_eq_true rfl)) rfl (K0 m264 w265 h266 T267 F297 W298 (sf_aux51 _ _ R302))
                · have F303 := F261.trans F277 (by decide)
                  have W304 : rf_W [10, 12, 13, 14, 16, 17, 18, 22] m m273 := W231.trans W278 (by decide)
                  have B305 : sf_B 0 600 (m273 10) := T276.2.2.1 10
                  have B306 : sf_B 0 4 (m273 17) := T276.2.2.1 17
                  have B307 : sf_B 0 1 (m273 22) := T276.2.2.1 22
                  show pm_R _ 192 127 [.ref 41, .long a0, pm_no, .int a1, .int 5] [.int 1] _ _
                  have R308 : (m 10).toInt ≤ (m273 10).toInt := (sf_aux70 _ _ _ R233 X283)
                  obtain ⟨v309, B310, e311⟩ := X279 _ e260
                  refine pm_R_br pm_M192 (pc' := 132) (st' := []) (pm_q192_1 (Nat.le_of_ble_eq_true rfl)) rfl ?_
                  refine pm_R_lo pm_M192 (pc' := 134) (pm_q192_1 (Nat.le_of_ble_eq_true rfl)) rfl rfl ?_
                  refine pm_R_op pm_M192 (pc' := 135) (st' := [.int 1, .int 5]) (pm_q192_1 (Nat.le_of_ble_eq_true rfl)) rfl rfl ?_
                  refine pm_R_br pm_M192 (pc' := 138) (st' := []) (pm_q192_1 (Nat.le_of_ble_eq_true rfl)) rfl ?_
                  refine pm_R_lo pm_M192 (pc' := 140) (pm_q192_1 (Nat.le_of_ble_eq_true rfl)) rfl rfl ?_
                  refine pm_R_op pm_M192 (pc' := 141) (st' := [.int 2, .int 5]) (pm_q192_1 (Nat.le_of_ble_eq_true rfl)) rfl rfl ?_
                  refine pm_R_br pm_M192 (pc' := 144) (st' := []) (pm_q192_1 (Nat.le_of_ble_eq_true rfl)) rfl ?_
                  refine pm_R_lo pm_M192 (pc' := 146) (pm_q192_1 (Nat.le_of_ble_eq_true rfl)) rfl rfl ?_
                  refine pm_R_op pm_M192 (pc' := 147) (st' := [.int 3, .int 5]) (pm_q192_1 (Nat.le_of_ble_eq_true rfl)) rfl rfl ?_
                  refine pm_R_br pm_M192 (pc' := 163) (st' := []) (pm_q192_1 (Nat.le_of_ble_eq_true rfl)) rfl ?_
                  refine pm_R_lo pm_M192 (pc' := 164) (pm_q192_1 (Nat.le_of_ble_eq_true rfl)) rfl rfl ?_
                  refine pm_R_op pm_M192 (pc' := 165) (st' := [.int 0, .ref 41]) (pm_q192_1 (Nat.le_of_ble_eq_true rfl)) rfl rfl ?_
                  refine pm_R_op pm_M192 (pc' := 166) (st' := [.int 1, .int 0, .ref 41]) (pm_q192_1 (Nat.le_of_ble_eq_true rfl)) rfl rfl ?_
                  refine pm_R_op pm_M192 (pc' := 167) (st' := [.int 3, .int 1, .int 0, .ref 41]) (pm_q192_1 (Nat.le_of_ble_eq_true rfl)) rfl rfl ?_
                  refine pm_R_op pm_M192 (pc' := 169) (st' := [.int 8, .int 3, .int 1, .int 0, .ref 41]) (pm_q192_1 (Nat.le_of_ble_eq_true rfl)) rfl rfl ?_
                  refine pm_R_op pm_M192 (pc' := 170) (st' := [.int 0, .int 8, .int 3, .int 1, .int 0, .ref 41]) (pm_q192_1 (Nat.le_of_ble_eq_true rfl)) rfl rfl ?_
                  refine pm_R_cv pm_M192 (pc' := 173) (a := 41) (ra := [.int 0, .int 8, .int 3, .int 1, .int 0]) (rest := []) (ls' := [.ref 41, .int 0, .int 1, .int 3, .int 8, .int 0, pm_no, pm_no]) (pm_q192_1 (Nat.le_of_ble_eq_true rfl)) rfl (Or.inl rfl) pm_M185 T276.2.1 rfl (by decide) (Nat.lt_of_lt_of_le (by decide) T276.1) rfl rfl (Nat.le_of_ble_eq_true rfl) rfl rfl ?_
                  have e312 := (F277.cell (by decide) (F259.cell (by decide) (F254.cell (by decide) (F249.cell (by decide) (F244.cell (by decide) (F239.cell (by decide) (F222.cell (by decide) (F207.cell (by decide) e3))))))))
                  refine rf_c185_l (d := d + 2) T276 (⟨f2, e312, ct4, fun z => (sf_pos (sf_eqT X280 B227) (by decide) z)⟩) (fun z => sf_pos (sf_eqT X280 B227) (by decide) z) (fun m315 w316 h317 T318 F319 W320 X321 => ?_)
                  have F322 := F303.trans F319 (by decide)
                  have B323 : sf_B 0 600 (m315 10) := by rw [W320 10 (by decide)]; exact B305
                  have ek324 : (m315 10).toInt = ((m273 10)).toInt := by rw [W320 10 (by decide)]
                  have B325 : sf_B 1 4 (m315 17) := by rw [W320 17 (by decide)]; exact (sf_eqT X280 B227)
                  have ek326 : (m315 17).toInt = ((m218 17)).toInt := by rw [W320 17 (by decide)]; exact X280
                  have B327 : sf_B 0 1 (m315 22) := by rw [W320 22 (by decide)]; exact (sf_eqT X281 B229)
                  have ek328 : (m315 22).toInt = ((m218 22)).toInt := by rw [W320 22 (by decide)]; exact X281
                  have W329 : rf_W [10, 12, 13, 14, 16, 17, 18, 22] m m315 := W304.trans W320 (by decide)
                  show pm_R _ 192 173 [.ref 41, .long a0, pm_no, .int a1, .int 5] [] _ _
                  obtain ⟨f330, e331, ct332, bd333⟩ := X321
                  refine pm_R_op pm_M192 (pc' := 174) (st' := [.int 1]) (pm_q192_1 (Nat.le_of_ble_eq_true rfl)) rfl rfl ?_
                  exact pm_R_ret pm_M192 (r := some (.int 1)) (pm_q192_1 (Nat.le_of_ble_eq_true rfl)) rfl (K1 m315 w316 h317 T318 F322 W329 (⟨f330, e331, ct332, fun z => (sf_pos B325 (by decide) z)⟩) (sf_aux39 _ _ _ ek324 R308))
                · have F334 := F261.trans F290 (by decide)
                  have W335 : rf_W [10, 12, 13, 14, 16, 17, 18, 22] m m286 := W231.trans W291 (by decide)
                  have B336 : sf_B 0 600 (m286 10) := T289.2.2.1 10
                  have B337 : sf_B 0 4 (m286 17) := T289.2.2.1 17
                  have B338 : sf_B 0 1 (m286 22) := T289.2.2.1 22
                  show pm_R _ 192 127 [.ref 41, .long a0, pm_no, .int a1, .int 5] [.int 1] _ _
                  have R339 : (m 10).toInt ≤ (m286 10).toInt := (sf_aux70 _ _ _ R233 X294)
                  obtain ⟨v340, B341, e342⟩ := X292 _ e260
                  refine pm_R_br pm_M192 (pc' := 132) (st' := []) (pm_q192_1 (Nat.le_of_ble_eq_true rfl)) rfl ?_
                  refine pm_R_lo pm_M192 (pc' := 134) (pm_q192_1 (Nat.le_of_ble_eq_true rfl)) rfl rfl ?_
                  refine pm_R_op pm_M192 (pc' := 135) (st' := [.int 1, .int 5]) (pm_q192_1 (Nat.le_of_ble_eq_true rfl)) rfl rfl ?_
                  refine pm_R_br pm_M192 (pc' := 138) (st' := []) (pm_q192_1 (Nat.le_of_ble_eq_true rfl)) rfl ?_
                  refine pm_R_lo pm_M192 (pc' := 140) (pm_q192_1 (Nat.le_of_ble_eq_true rfl)) rfl rfl ?_
                  refine pm_R_op pm_M192 (pc' := 141) (st' := [.int 2, .int 5]) (pm_q192_1 (Nat.le_of_ble_eq_true rfl)) rfl rfl ?_
                  refine pm_R_br pm_M192 (pc' := 144) (st' := []) (pm_q192_1 (Nat.le_of_ble_eq_true rfl)) rfl ?_
                  refine pm_R_lo pm_M192 (pc' := 146) (pm_q192_1 (Nat.le_of_ble_eq_true rfl)) rfl rfl ?_
                  refine pm_R_op pm_M192 (pc' := 147) (st' := [.int 3, .int 5]) (pm_q192_1 (Nat.le_of_ble_eq_true rfl)) rfl rfl ?_
                  refine pm_R_br pm_M192 (pc' := 163) (st' := []) (pm_q192_1 (Nat.le_of_ble_eq_true rfl)) rfl ?_
                  refine pm_R_lo pm_M192 (pc' := 164) (pm_q192_1 (Nat.le_of_ble_eq_true rfl)) rfl rfl ?_
                  refine pm_R_op pm_M192 (pc' := 165) (st' := [.int 0, .ref 41]) (pm_q192_1 (Nat.le_of_ble_eq_true rfl)) rfl rfl ?_
                  refine pm_R_op pm_M192 (pc' := 166) (st' := [.int 1, .int 0, .ref 41]) (pm_q192_1 (Nat.le_of_ble_eq_true rfl)) rfl rfl ?_
                  refine pm_R_op pm_M192 (pc' := 167) (st' := [.int 3, .int 1, .int 0, .ref 41]) (pm_q192_1 (Nat.le_of_ble_eq_true rfl)) rfl rfl ?_
                  refine pm_R_op pm_M192 (pc' := 169) (st' := [.int 8, .int 3, .int 1, .int 0, .ref 41]) (pm_q192_1 (Nat.le_of_ble_eq_true rfl)) rfl rfl ?_
                  refine pm_R_op pm_M192 (pc' := 170) (st' := [.int 0, .int 8, .int 3, .int 1, .int 0, .ref 41]) (pm_q192_1 (Nat.le_of_ble_eq_true rfl)) rfl rfl ?_
                  refine pm_R_cv pm_M192 (pc' := 173) (a := 41) (ra := [.int 0, .int 8, .int 3, .int 1, .int 0]) (rest := []) (ls' := [.ref 41, .int 0, .int 1, .int 3, .int 8, .int 0, pm_no, pm_no]) (pm_q192_1 (Nat.le_of_ble_eq_true rfl)) rfl (Or.inl rfl) pm_M185 T289.2.1 rfl (by decide) (Nat.lt_of_lt_of_le (by decide) T289.1) rfl rfl (Nat.le_of_ble_eq_true rfl) rfl rfl ?_
                  have e343 := (F290.cell (by decide) (F259.cell (by decide) (F254.cell (by decide) (F249.cell (by decide) (F244.cell (by decide) (F239.cell (by decide) (F222.cell (by decide) (F207.cell (by decide) e3))))))))
                  refine rf_c185_l (d := d + 2) T289 (⟨f2, e343, ct4, fun z => (sf_pos B295 (by decide) z)⟩) (fun z => sf_pos B295 (by decide) z) (fun m346 w347 h348 T349 F350 W351 X352 => ?_)
                  have F353 := F334.trans F350 (by decide)
                  have B354 : sf_B 0 600 (m346 10) := by rw [W351 10 (by decide)]; exact B336
                  have ek355 : (m346 10).toInt = ((m286 10)).toInt := by rw [W351 10 (by decide)]
                  have B356 : sf_B 1 4 (m346 17) := by rw [W351 17 (by decide)]; exact B295
                  have ek357 : (m346 17).toInt = ((m286 17)).toInt := by rw [W351 17 (by decide)]
                  have B358 : sf_B 0 0 (m346 22) := by rw [W351 22 (by decide)]; exact B296
                  have ek359 : (m346 22).toInt = ((m286 22)).toInt := by rw [W351 22 (by decide)]
                  have W360 : rf_W [10, 12, 13, 14, 16, 17, 18, 22] m m346 := W335.trans W351 (by decide)
                  show pm_R _ 192 173 [.ref 41, .long a0, pm_no, .int a1, .int 5] [] _ _
                  obtain ⟨f361, e362, ct363, bd364⟩ := X352
                  refine pm_R_op pm_M192 (pc' := 174) (st' := [.int 1]) (pm_q192_1 (Nat.le_of_ble_eq_true rfl)) rfl rfl ?_
                  exact pm_R_ret pm_M192 (r := some (.int 1)) (pm_q192_1 (Nat.le_of_ble_eq_true rfl)) rfl (K1 m346 w347 h348 T349 F353 W360 (⟨f361, e362, ct363, fun z => (sf_pos B356 (by decide) z)⟩) (sf_aux39 _ _ _ ek355 R339))
          · have B365 : sf_B 0 0 z23 := sf_eqL (Classical.not_not.mp c25) sf_k0
            have B366 : lf_B 114801865155950 114801865155950 a0 := lf_eqB e24 B365 (⟨by decide, by decide⟩ : lf_B 114801865155950 114801865155950 114801865155950)
            refine pm_R_op pm_M192 (pc' := 57) (st' := [.int 4]) rfl rfl rfl ?_
            refine pm_R_br pm_M192 (pc' := 73) rfl rfl ?_
            refine pm_R_lo pm_M192 (pc' := 75) (ls' := [.ref 41, .long a0, pm_no, .int a1, .int 4]) (st' := []) rfl rfl rfl ?_
            refine pm_R_lo pm_M192 (pc' := 77) rfl rfl rfl ?_
            refine pm_R_op pm_M192 (pc' := 78) (st' := [.int (-1), .int 4]) rfl rfl rfl ?_
            refine pm_R_br pm_M192 (pc' := 86) (st' := []) rfl rfl ?_
            refine pm_R_lo pm_M192 (pc' := 87) rfl rfl rfl ?_
            refine rf_R_get pm_M192 T (pc' := 90) (v := .ref 51) rfl rfl rfl rfl ?_
            refine pm_R_op pm_M192 (pc' := 91) (st' := [.int 0, .ref 51]) rfl rfl rfl ?_
            refine pm_R_iald pm_M192 (pc' := 92) (v := (f2 0)) rfl e3 (Nat.lt_of_lt_of_le (by decide) T.1) rfl rfl rfl ?_
            refine pm_R_op pm_M192 (pc' := 94) (st' := [.int 8, .int (f2 0)]) rfl rfl rfl ?_
            refine pm_R_icmp pm_M192 (t := 103) (pc' := 97) rfl rfl rfl (fun c369 => ?_) (fun c369 => ?_)
            · have B370 : sf_B 0 7 (f2 0) := sf_neH0 c369 sf_k8 ct4
              refine pm_R_lo pm_M192 (pc' := 104) rfl rfl rfl ?_
              refine pm_R_cv pm_M192 (pc' := 107) (a := 41) (ra := []) (rest := []) (ls' := [.ref 41, pm_no, pm_no]) rfl rfl (Or.inl rfl) pm_M179 T.2.1 rfl (by decide) (Nat.lt_of_lt_of_le (by decide) T.1) rfl rfl (Nat.le_of_ble_eq_true rfl) rfl rfl ?_
              refine rf_c179 (d := d + 1) T  (fun m373 w374 h375 T376 F377 W378 X379 X380 => ?_)
              have F381 := (rf_G.refl [41, 51, 52] h).trans F377 (by decide)
              have B382 : sf_B 0 4 (m373 17) := by rw [W378 17 (by decide)]; exact B6
              have ek383 : (m373 17).toInt = ((m 17)).toInt := by rw [W378 17 (by decide)]
              have W384 : rf_W [10, 12, 13, 14, 16, 17, 18, 22] m m373 := (rf_W.refl [10, 12, 13, 14, 16, 17, 18, 22] m).trans W378 (by decide)
              have B385 : sf_B 0 600 (m373 10) := T376.2.2.1 10
              have B386 : sf_B 0 1 (m373 22) := T376.2.2.1 22
              show pm_R _ 192 107 [.ref 41, .long a0, pm_no, .int a1, .int 4] [] _ _
              have R387 : (m 10).toInt ≤ (m373 10).toInt := (sf_aux51 _ _ X379)
              refine pm_R_lo pm_M192 (pc' := 108) rfl rfl rfl ?_
              refine pm_R_cv pm_M192 (pc' := 111) (a := 41) (ra := []) (rest := []) (ls' := [.ref 41, pm_no]) rfl rfl (Or.inl rfl) pm_M190 T376.2.1 rfl (by decide) (Nat.lt_of_lt_of_le (by decide) T376.1) rfl rfl (Nat.le_of_ble_eq_true rfl) rfl rfl ?_
              refine pm_R_op pm_M190 (pc' := 1) (st' := [.int 0]) rfl rfl rfl ?_
              refine pm_R_lo pm_M190 (pc' := 2) (ls' := [.ref 41, .int 0]) (st' := []) rfl rfl rfl ?_
              refine pm_R_lo pm_M190 (pc' := 3) rfl rfl rfl ?_
              refine pm_R_op pm_M190 (pc' := 4) (st' := [.int 4, .int 0]) rfl rfl rfl ?_
              refine pm_R_br pm_M190 (pc' := 7) (st' := []) rfl rfl ?_
              refine pm_R_lo pm_M190 (pc' := 8) rfl rfl rfl ?_
              refine rf_R_get pm_M190 T376 (pc' := 11) (v := .ref 52) rfl rfl rfl rfl ?_
              refine pm_R_lo pm_M190 (pc' := 12) rfl rfl rfl ?_
              refine pm_R_op pm_M190 (pc' := 13) (st' := [.int (-1), .int 0, .ref 52]) rfl rfl rfl ?_
              obtain ⟨f388, e389, b390⟩ := T376.2.2.2.1 52 (by decide) (by decide)
              refine rf_R_ist pm_M190 T376 (pc' := 14) rfl e389 (by decide) (by decide) rfl ⟨_, rfl, sf_upd b390 (sf_weak sf_kn1 (by decide) (by decide)) _⟩ rfl (fun h391 T392 F393 e394 => ?_)
              have F395 := F381.trans F393 (by decide)
              refine pm_R_lo pm_M190 (pc' := 17) (ls' := [.ref 41, .int 1]) (st' := []) rfl rfl rfl ?_
              refine pm_R_br pm_M190 (pc' := 2) rfl rfl ?_
              refine pm_R_lo pm_M190 (pc' := 3) rfl rfl rfl ?_
              refine pm_R_op pm_M190 (pc' := 4) (st' := [.int 4, .int 1]) rfl rfl rfl ?_
              refine pm_R_br pm_M190 (pc' := 7) (st' := []) rfl rfl ?_
              refine pm_R_lo pm_M190 (pc' := 8) rfl rfl rfl ?_
              refine rf_R_get pm_M190 T392 (pc' := 11) (v := .ref 52) rfl rfl rfl rfl ?_
              refine pm_R_lo pm_M190 (pc' := 12) rfl rfl rfl ?_
              refine pm_R_op pm_M190 (pc' := 13) (st' := [.int (-1), .int 1, .ref 52]) rfl rfl rfl ?_
              refine rf_R_ist pm_M190 T392 (pc' := 14) rfl e394 (by decide) (by decide) rfl ⟨_, rfl, sf_upd (sf_upd b390 (sf_weak sf_kn1 (by decide) (by decide)) _) (sf_weak sf_kn1 (by decide) (by decide)) _⟩ rfl (fun h396 T397 F398 e399 => ?_)
              have F400 := F395.trans F398 (by decide)
              refine pm_R_lo pm_M190 (pc' := 17) (ls' := [.ref 41, .int 2]) (st' := []) rfl rfl rfl ?_
              refine pm_R_br pm_M190 (pc' := 2) rfl rfl ?_
              refine pm_R_lo pm_M190 (pc' := 3) rfl rfl rfl ?_
              refine pm_R_op pm_M190 (pc' := 4) (st' := [.int 4, .int 2]) rfl rfl rfl ?_
              refine pm_R_br pm_M190 (pc' := 7) (st' := []) rfl rfl ?_
              refine pm_R_lo pm_M190 (pc' := 8) rfl rfl rfl ?_
              refine rf_R_get pm_M190 T397 (pc' := 11) (v := .ref 52) rfl rfl rfl rfl ?_
              refine pm_R_lo pm_M190 (pc' := 12) rfl rfl rfl ?_
              refine pm_R_op pm_M190 (pc' := 13) (st' := [.int (-1), .int 2, .ref 52]) rfl rfl rfl ?_
              refine rf_R_ist pm_M190 T397 (pc' := 14) rfl e399 (by decide) (by decide) rfl ⟨_, rfl, sf_upd (sf_upd (sf_upd b390 (sf_weak sf_kn1 (by decide) (by decide)) _) (sf_weak sf_kn1 (by decide) (by decide)) _) (sf_weak sf_kn1 (by decide) (by decide)) _⟩ rfl (fun h401 T402 F403 e404 => ?_)
              have F405 := F400.trans F403 (by decide)
              refine pm_R_lo pm_M190 (pc' := 17) (ls' := [.ref 41, .int 3]) (st' := []) rfl rfl rfl ?_
              refine pm_R_br pm_M190 (pc' := 2) rfl rfl ?_
              refine pm_R_lo pm_M190 (pc' := 3) rfl rfl rfl ?_
              refine pm_R_op pm_M190 (pc' := 4) (st' := [.int 4, .int 3]) rfl rfl rfl ?_
              refine pm_R_br pm_M190 (pc' := 7) (st' := []) rfl rfl ?_
              refine pm_R_lo pm_M190 (pc' := 8) rfl rfl rfl ?_
              refine rf_R_get pm_M190 T402 (pc' := 11) (v := .ref 52) rfl rfl rfl rfl ?_
              refine pm_R_lo pm_M190 (pc' := 12) rfl rfl rfl ?_
              refine pm_R_op pm_M190 (pc' := 13) (st' := [.int (-1), .int 3, .ref 52]) rfl rfl rfl ?_
              refine rf_R_ist pm_M190 T402 (pc' := 14) rfl e404 (by decide) (by decide) rfl ⟨_, rfl, sf_upd (sf_upd (sf_upd (sf_upd b390 (sf_weak sf_kn1 (by decide) (by decide)) _) (sf_weak sf_kn1 (by decide) (by decide)) _) (sf_weak sf_kn1 (by decide) (by decide)) _) (sf_weak sf_kn1 (by decide) (by decide)) _⟩ rfl (fun h406 T407 F408 e409 => ?_)
              have F410 := F405.trans F408 (by decide)
              refine pm_R_lo pm_M190 (pc' := 17) (ls' := [.ref 41, .int 4]) (st' := []) rfl rfl rfl ?_
              refine pm_R_br pm_M190 (pc' := 2) rfl rfl ?_
              refine pm_R_lo pm_M190 (pc' := 3) rfl rfl rfl ?_
              refine pm_R_op pm_M190 (pc' := 4) (st' := [.int 4, .int 4]) rfl rfl rfl ?_
              refine pm_R_br pm_M190 (pc' := 20) (st' := []) rfl rfl ?_
              refine pm_R_ret pm_M190 (r := none) rfl rfl ?_
              show pm_R _ 192 111 [.ref 41, .long a0, pm_no, .int a1, .int 4] [] _ _
              refine pm_R_lo pm_M192 (pc' := 112) rfl rfl rfl ?_
              refine rf_R_get pm_M192 T407 (pc' := 115) (v := .ref 52) rfl rfl rfl rfl ?_
              refine pm_R_op pm_M192 (pc' := 116) (st' := [.int 0, .ref 52]) (pm_q192_1 (Nat.le_of_ble_eq_true rfl)) rfl rfl ?_
              refine pm_R_lo pm_M192 (pc' := 118) (pm_q192_1 (Nat.le_of_ble_eq_true rfl)) rfl rfl ?_
              refine rf_R_ist pm_M192 T407 (pc' := 119) (pm_q192_1 (Nat.le_of_ble_eq_true rfl)) e409 (by decide) (by decide) rfl ⟨_, rfl, sf_upd (sf_upd (sf_upd (sf_upd (sf_upd b390 (sf_weak sf_kn1 (by decide) (by decide)) _) (sf_weak sf_kn1 (by decide) (by decide)) _) (sf_weak sf_kn1 (by decide) (by decide)) _) (sf_weak sf_kn1 (by decide) (by decide)) _) (sf_weak sf_k4 (by decide) (by decide)) _⟩ rfl (fun h411 T412 F413 e414 => ?_)
              have F415 := F410.trans F413 (by decide)
              refine pm_R_lo pm_M192 (pc' := 120) (pm_q192_1 (Nat.le_of_ble_eq_true rfl)) rfl rfl ?_
              refine pm_R_op pm_M192 (pc' := 121) (st' := [.int 1, .ref 41]) (pm_q192_1 (Nat.le_of_ble_eq_true rfl)) rfl rfl ?_
              refine pm_R_op pm_M192 (pc' := 123) (st' := [.int 9, .int 1, .ref 41]) (pm_q192_1 (Nat.le_of_ble_eq_true rfl)) rfl rfl ?_
              refine pm_R_op pm_M192 (pc' := 124) (st' := [.int (-1), .int 9, .int 1, .ref 41]) (pm_q192_1 (Nat.le_of_ble_eq_true rfl)) rfl rfl ?_
              refine pm_R_cv pm_M192 (pc' := 127) (a := 41) (ra := [.int (-1), .int 9, .int 1]) (rest := []) (ls' := [.ref 41, .int 1, .int 9, .int (-1)]) (pm_q192_1 (Nat.le_of_ble_eq_true rfl)) rfl (Or.inl rfl) pm_M183 T412.2.1 rfl (by decide) (Nat.lt_of_lt_of_le (by decide) T412.1) rfl rfl (Nat.le_of_ble_eq_true rfl) rfl rfl ?_
              refine rf_c183_1_9 (d := d + 0) T412  (fun m418 w419 h420 T421 F422 W423 X424 => ?_) (fun m427 w428 h429 T430 F431 W432 X433 X434 X435 X436 X437 => ?_) (fun m440 w441 h442 T443 F444 W445 X446 X447 X448 B449 B450 => ?_)
              · have F451 := F415.trans F422 (by decide)
                have W452 : rf_W [10, 12, 13, 14, 16, 17, 18, 22] m m418 := W384.trans W423 (by decide)
                have B453 : sf_B 0 600 (m418 10) := T421.2.2.1 10
                have B454 : sf_B 0 4 (m418 17) := T421.2.2.1 17
                have B455 : sf_B 0 1 (m418 22) := T421.2.2.1 22
                show pm_R _ 192 127 [.ref 41, .long a0, pm_no, .int a1, .int 4] [.int 0] _ _
                have R456 : (m 10).toInt ≤ (m418 10).toInt := (sf_aux70 _ _ _ R387 X424)
                refine pm_R_br pm_M192 (pc' := 130) (st' := []) (pm_q192_1 (Nat.le_of_ble_eq_true rfl)) rfl ?_
                refine pm_R_op pm_M192 (pc' := 131) (st' := [.int 0]) (pm_q192_1 (Nat.le_of_ble_eq_true rfl)) rfl rfl ?_
                exact pm_R_ret pm_M192 (r := some (.int 0)) (pm_q192_1 (Nat.le_of_ble_eq_true rfl)) rfl (K0 m418 w419 h420 T421 F451 W452 (sf_aux51 _ _ R456))
              · have F457 := F415.trans F431 (by decide)
                have W458 : rf_W [10, 12, 13, 14, 16, 17, 18, 22] m m427 := W384.trans W432 (by decide)
                have B459 : sf_B 0 600 (m427 10) := T430.2.2.1 10
                have B460 : sf_B 0 4 (m427 17) := T430.2.2.1 17
                have B461 : sf_B 0 1 (m427 22) := T430.2.2.1 22
                show pm_R _ 192 127 [.ref 41, .long a0, pm_no, .int a1, .int 4] [.int 1] _ _
                have R462 : (m 10).toInt ≤ (m427 10).toInt := (sf_aux70 _ _ _ R387 X437)
                obtain ⟨v463, B464, e465⟩ := X433 _ e414
                refine pm_R_br pm_M192 (pc' := 132) (st' := []) (pm_q192_1 (Nat.le_of_ble_eq_true rfl)) rfl ?_
                refine pm_R_lo pm_M192 (pc' := 134) (pm_q192_1 (Nat.le_of_ble_eq_true rfl)) rfl rfl ?_
                refine pm_R_op pm_M192 (pc' := 135) (st' := [.int 1, .int 4]) (pm_q192_1 (Nat.le_of_ble_eq_true rfl)) rfl rfl ?_
                refine pm_R_br pm_M192 (pc' := 138) (st' := []) (pm_q192_1 (Nat.le_of_ble_eq_true rfl)) rfl ?_
                refine pm_R_lo pm_M192 (pc' := 140) (pm_q192_1 (Nat.le_of_ble_eq_true rfl)) rfl rfl ?_
                refine pm_R_op pm_M192 (pc' := 141) (st' := [.int 2, .int 4]) (pm_q192_1 (Nat.le_of_ble_eq_true rfl)) rfl rfl ?_
                refine pm_R_br pm_M192 (pc' := 144) (st' := []) (pm_q192_1 (Nat.le_of_ble_eq_true rfl)) rfl ?_
                refine pm_R_lo pm_M192 (pc' := 146) (pm_q192_1 (Nat.le_of_ble_eq_true rfl)) rfl rfl ?_
                refine pm_R_op pm_M192 (pc' := 147) (st' := [.int 3, .int 4]) (pm_q192_1 (Nat.le_of_ble_eq_true rfl)) rfl rfl ?_
                refine pm_R_br pm_M192 (pc' := 163) (st' := []) (pm_q192_1 (Nat.le_of_ble_eq_true rfl)) rfl ?_
                refine pm_R_lo pm_M192 (pc' := 164) (pm_q192_1 (Nat.le_of_ble_eq_true rfl)) rfl rfl ?_
                refine pm_R_op pm_M192 (pc' := 165) (st' := [.int 0, .ref 41]) (pm_q192_1 (Nat.le_of_ble_eq_true rfl)) rfl rfl ?_
                refine pm_R_op pm_M192 (pc' := 166) (st' := [.int 1, .int 0, .ref 41]) (pm_q192_1 (Nat.le_of_ble_eq_true rfl)) rfl rfl ?_
                refine pm_R_op pm_M192 (pc' := 167) (st' := [.int 3, .int 1, .int 0, .ref 41]) (pm_q192_1 (Nat.le_of_ble_eq_true rfl)) rfl rfl ?_
                refine pm_R_op pm_M192 (pc' := 169) (st' := [.int 8, .int 3, .int 1, .int 0, .ref 41]) (pm_q192_1 (Nat.le_of_ble_eq_true rfl)) rfl rfl ?_
                refine pm_R_op pm_M192 (pc' := 170) (st' := [.int 0, .int 8, .int 3, .int 1, .int 0, .ref 41]) (pm_q192_1 (Nat.le_of_ble_eq_true rfl)) rfl rfl ?_
                refine pm_R_cv pm_M192 (pc' := 173) (a := 41) (ra := [.int 0, .int 8, .int 3, .int 1, .int 0]) (rest := []) (ls' := [.ref 41, .int 0, .int 1, .int 3, .int 8, .int 0, pm_no, pm_no]) (pm_q192_1 (Nat.le_of_ble_eq_true rfl)) rfl (Or.inl rfl) pm_M185 T430.2.1 rfl (by decide) (Nat.lt_of_lt_of_le (by decide) T430.1) rfl rfl (Nat.le_of_ble_eq_true rfl) rfl rfl ?_
                have e466 := (F431.cell (by decide) (F413.cell (by decide) (F408.cell (by decide) (F403.cell (by decide) (F398.cell (by decide) (F393.cell (by decide) (F377.cell (by decide) e3)))))))
                refine rf_c185_l (d := d + 2) T430 (⟨f2, e466, ct4, fun z => (bd5 (sf_aux76 _ _ _ ek383 X434 z))⟩) (fun _ g eg => by rw [e465] at eg; cases eg; exact ⟨sf_eqL (Eq.trans (sf_upd_nec (k := Int32.toNatClampNeg 1) (j := Int32.toNatClampNeg 0) (by decide)) sf_upd_eq) (sf_weak sf_k4 (by decide) (by decide)), sf_eqL sf_upd_eq B464, sf_eqL (Eq.trans (sf_upd_nec (k := Int32.toNatClampNeg 1) (j := Int32.toNatClampNeg 2) (by decide)) (Eq.trans (sf_upd_nec (k := Int32.toNatClampNeg 0) (j := Int32.toNatClampNeg 2) (by decide)) (Eq.trans (sf_upd_nec (k := Int32.toNatClampNeg 3) (j := Int32.toNatClampNeg 2) (by decide)) sf_upd_eq))) (sf_weak sf_kn1 (by decide) (by decide))⟩) (fun m469 w470 h471 T472 F473 W474 X475 => ?_)
                have F476 := F457.trans F473 (by decide)
                have B477 : sf_B 0 600 (m469 10) := by rw [W474 10 (by decide)]; exact B459
                have ek478 : (m469 10).toInt = ((m427 10)).toInt := by rw [W474 10 (by decide)]
                have B479 : sf_B 0 4 (m469 17) := by rw [W474 17 (by decide)]; exact (sf_eqT X434 B382)
                have ek480 : (m469 17).toInt = ((m373 17)).toInt := by rw [W474 17 (by decide)]; exact X434
                have B481 : sf_B 0 1 (m469 22) := by rw [W474 22 (by decide)]; exact (sf_eqT X435 B386)
                have ek482 : (m469 22).toInt = ((m373 22)).toInt := by rw [W474 22 (by decide)]; exact X435
                have W483 : rf_W [10, 12, 13, 14, 16, 17, 18, 22] m m469 := W458.trans W474 (by decide)
                show pm_R _ 192 173 [.ref 41, .long a0, pm_no, .int a1, .int 4] [] _ _
                obtain ⟨f484, e485, ct486, bd487⟩ := X475
                refine pm_R_op pm_M192 (pc' := 174) (st' := [.int 1]) (pm_q192_1 (Nat.le_of_ble_eq_true rfl)) rfl rfl ?_
                exact pm_R_ret pm_M192 (r := some (.int 1)) (pm_q192_1 (Nat.le_of_ble_eq_true rfl)) rfl (K1 m469 w470 h471 T472 F476 W483 (⟨f484, e485, ct486, fun z => (bd487 z)⟩) (sf_aux39 _ _ _ ek478 R462))
              · have F488 := F415.trans F444 (by decide)
                have W489 : rf_W [10, 12, 13, 14, 16, 17, 18, 22] m m440 := W384.trans W445 (by decide)
                have B490 : sf_B 0 600 (m440 10) := T443.2.2.1 10
                have B491 : sf_B 0 4 (m440 17) := T443.2.2.1 17
                have B492 : sf_B 0 1 (m440 22) := T443.2.2.1 22
                show pm_R _ 192 127 [.ref 41, .long a0, pm_no, .int a1, .int 4] [.int 1] _ _
                have R493 : (m 10).toInt ≤ (m440 10).toInt := (sf_aux70 _ _ _ R387 X448)
                obtain ⟨v494, B495, e496⟩ := X446 _ e414
                refine pm_R_br pm_M192 (pc' := 132) (st' := []) (pm_q192_1 (Nat.le_of_ble_eq_true rfl)) rfl ?_
                refine pm_R_lo pm_M192 (pc' := 134) (pm_q192_1 (Nat.le_of_ble_eq_true rfl)) rfl rfl ?_
                refine pm_R_op pm_M192 (pc' := 135) (st' := [.int 1, .int 4]) (pm_q192_1 (Nat.le_of_ble_eq_true rfl)) rfl rfl ?_
                refine pm_R_br pm_M192 (pc' := 138) (st' := []) (pm_q192_1 (Nat.le_of_ble_eq_true rfl)) rfl ?_
                refine pm_R_lo pm_M192 (pc' := 140) (pm_q192_1 (Nat.le_of_ble_eq_true rfl)) rfl rfl ?_
                refine pm_R_op pm_M192 (pc' := 141) (st' := [.int 2, .int 4]) (pm_q192_1 (Nat.le_of_ble_eq_true rfl)) rfl rfl ?_
                refine pm_R_br pm_M192 (pc' := 144) (st' := []) (pm_q192_1 (Nat.le_of_ble_eq_true rfl)) rfl ?_
                refine pm_R_lo pm_M192 (pc' := 146) (pm_q192_1 (Nat.le_of_ble_eq_true rfl)) rfl rfl ?_
                refine pm_R_op pm_M192 (pc' := 147) (st' := [.int 3, .int 4]) (pm_q192_1 (Nat.le_of_ble_eq_true rfl)) rfl rfl ?_
                refine pm_R_br pm_M192 (pc' := 163) (st' := []) (pm_q192_1 (Nat.le_of_ble_eq_true rfl)) rfl ?_
                refine pm_R_lo pm_M192 (pc' := 164) (pm_q192_1 (Nat.le_of_ble_eq_true rfl)) rfl rfl ?_
                refine pm_R_op pm_M192 (pc' := 165) (st' := [.int 0, .ref 41]) (pm_q192_1 (Nat.le_of_ble_eq_true rfl)) rfl rfl ?_
                refine pm_R_op pm_M192 (pc' := 166) (st' := [.int 1, .int 0, .ref 41]) (pm_q192_1 (Nat.le_of_ble_eq_true rfl)) rfl rfl ?_
                refine pm_R_op pm_M192 (pc' := 167) (st' := [.int 3, .int 1, .int 0, .ref 41]) (pm_q192_1 (Nat.le_of_ble_eq_true rfl)) rfl rfl ?_
                refine pm_R_op pm_M192 (pc' := 169) (st' := [.int 8, .int 3, .int 1, .int 0, .ref 41]) (pm_q192_1 (Nat.le_of_ble_eq_true rfl)) rfl rfl ?_
                refine pm_R_op pm_M192 (pc' := 170) (st' := [.int 0, .int 8, .int 3, .int 1, .int 0, .ref 41]) (pm_q192_1 (Nat.le_of_ble_eq_true rfl)) rfl rfl ?_
                refine pm_R_cv pm_M192 (pc' := 173) (a := 41) (ra := [.int 0, .int 8, .int 3, .int 1, .int 0]) (rest := []) (ls' := [.ref 41, .int 0, .int 1, .int 3, .int 8, .int 0, pm_no, pm_no]) (pm_q192_1 (Nat.le_of_ble_eq_true rfl)) rfl (Or.inl rfl) pm_M185 T443.2.1 rfl (by decide) (Nat.lt_of_lt_of_le (by decide) T443.1) rfl rfl (Nat.le_of_ble_eq_true rfl) rfl rfl ?_
                have e497 := (F444.cell (by decide) (F413.cell (by decide) (F408.cell (by decide) (F403.cell (by decide) (F398.cell (by decide) (F393.cell (by decide) (F377.cell (by decide) e3)))))))
                refine rf_c185_l (d := d + 2) T443 (⟨f2, e497, ct4, fun z => (sf_pos B449 (by decide) z)⟩) (fun z => sf_pos B449 (by decide) z) (fun m500 w501 h502 T503 F504 W505 X506 => ?_)
                have F507 := F488.trans F504 (by decide)
                have B508 : sf_B 0 600 (m500 10) := by rw [W505 10 (by decide)]; exact B490
                have ek509 : (m500 10).toInt = ((m440 10)).toInt := by rw [W505 10 (by decide)]
                have B510 : sf_B 1 4 (m500 17) := by rw [W505 17 (by decide)]; exact B449
                have ek511 : (m500 17).toInt = ((m440 17)).toInt := by rw [W505 17 (by decide)]
                have B512 : sf_B 0 0 (m500 22) := by rw [W505 22 (by decide)]; exact B450
                have ek513 : (m500 22).toInt = ((m440 22)).toInt := by rw [W505 22 (by decide)]
                have W514 : rf_W [10, 12, 13, 14, 16, 17, 18, 22] m m500 := W489.trans W505 (by decide)
                show pm_R _ 192 173 [.ref 41, .long a0, pm_no, .int a1, .int 4] [] _ _
                obtain ⟨f515, e516, ct517, bd518⟩ := X506
                refine pm_R_op pm_M192 (pc' := 174) (st' := [.int 1]) (pm_q192_1 (Nat.le_of_ble_eq_true rfl)) rfl rfl ?_
                exact pm_R_ret pm_M192 (r := some (.int 1)) (pm_q192_1 (Nat.le_of_ble_eq_true rfl)) rfl (K1 m500 w501 h502 T503 F507 W514 (⟨f515, e516, ct517, fun z => (sf_pos B510 (by decide) z)⟩) (sf_aux39 _ _ _ ek509 R493))
            · have B519 : sf_B 8 8 (f2 0) := sf_eqL (Classical.not_not.mp c369) sf_k8
              refine pm_R_lo pm_M192 (pc' := 98) rfl rfl rfl ?_
              refine pm_R_op pm_M192 (pc' := 99) (st' := [.int 3, .ref 41]) rfl rfl rfl ?_
              refine pm_R_lo pm_M192 (pc' := 100) rfl rfl rfl ?_
              refine pm_R_cv pm_M192 (pc' := 103) (a := 41) (ra := [.int a1, .int 3]) (rest := []) (ls' := [.ref 41, .int 3, .int a1]) rfl rfl (Or.inl rfl) pm_M182 T.2.1 rfl (by decide) (Nat.lt_of_lt_of_le (by decide) T.1) rfl rfl (Nat.le_of_ble_eq_true rfl) rfl rfl ?_
              refine rf_c182 (d := d + 2) T (sf_weak sf_k3 (by decide) (by decide)) Ba1 (fun m522 w523 h524 T525 F526 W527 B528 => ?_)
              have F529 := (rf_G.refl [41, 51, 52] h).trans F526 (by decide)
              have B530 : sf_B 0 600 (m522 10) := by rw [W527 10 (by decide)]; exact B1
              have ek531 : (m522 10).toInt = ((m 10)).toInt := by rw [W527 10 (by decide)]
              have W532 : rf_W [10, 12, 13, 14, 16, 17, 18, 22] m m522 := (rf_W.refl [10, 12, 13, 14, 16, 17, 18, 22] m).trans W527 (by decide)
              have B533 : sf_B 0 4 (m522 17) := T525.2.2.1 17
              have B534 : sf_B 0 1 (m522 22) := T525.2.2.1 22
              show pm_R _ 192 103 [.ref 41, .long a0, pm_no, .int a1, .int 4] [] _ _
              refine pm_R_lo pm_M192 (pc' := 104) rfl rfl rfl ?_
              refine pm_R_cv pm_M192 (pc' := 107) (a := 41) (ra := []) (rest := []) (ls' := [.ref 41, pm_no, pm_no]) rfl rfl (Or.inl rfl) pm_M179 T525.2.1 rfl (by decide) (Nat.lt_of_lt_of_le (by decide) T525.1) rfl rfl (Nat.le_of_ble_eq_true rfl) rfl rfl ?_
              refine rf_c179 (d := d + 1) T525  (fun m537 w538 h539 T540 F541 W542 X543 X544 => ?_)
              have F545 := F529.trans F541 (by decide)
              have B546 : sf_B 1 4 (m537 17) := by rw [W542 17 (by decide)]; exact B528
              have ek547 : (m537 17).toInt = ((m522 17)).toInt := by rw [W542 17 (by decide)]
              have B548 : sf_B 0 1 (m537 22) := by rw [W542 22 (by decide)]; exact B534
              have ek549 : (m537 22).toInt = ((m522 22)).toInt := by rw [W542 22 (by decide)]
              have W550 : rf_W [10, 12, 13, 14, 16, 17, 18, 22] m m537 := W532.trans W542 (by decide)
              have B551 : sf_B 0 600 (m537 10) := T540.2.2.1 10
              show pm_R _ 192 107 [.ref 41, .long a0, pm_no, .int a1, .int 4] [] _ _
              have R552 : (m 10).toInt ≤ (m537 10).toInt := (sf_aux53 _ _ _ ek531 X543)
              refine pm_R_lo pm_M192 (pc' := 108) rfl rfl rfl ?_
              refine pm_R_cv pm_M192 (pc' := 111) (a := 41) (ra := []) (rest := []) (ls' := [.ref 41, pm_no]) rfl rfl (Or.inl rfl) pm_M190 T540.2.1 rfl (by decide) (Nat.lt_of_lt_of_le (by decide) T540.1) rfl rfl (Nat.le_of_ble_eq_true rfl) rfl rfl ?_
              refine pm_R_op pm_M190 (pc' := 1) (st' := [.int 0]) rfl rfl rfl ?_
              refine pm_R_lo pm_M190 (pc' := 2) (ls' := [.ref 41, .int 0]) (st' := []) rfl rfl rfl ?_
              refine pm_R_lo pm_M190 (pc' := 3) rfl rfl rfl ?_
              refine pm_R_op pm_M190 (pc' := 4) (st' := [.int 4, .int 0]) rfl rfl rfl ?_
              refine pm_R_br pm_M190 (pc' := 7) (st' := []) rfl rfl ?_
              refine pm_R_lo pm_M190 (pc' := 8) rfl rfl rfl ?_
              refine rf_R_get pm_M190 T540 (pc' := 11) (v := .ref 52) rfl rfl rfl rfl ?_
              refine pm_R_lo pm_M190 (pc' := 12) rfl rfl rfl ?_
              refine pm_R_op pm_M190 (pc' := 13) (st' := [.int (-1), .int 0, .ref 52]) rfl rfl rfl ?_
              obtain ⟨f553, e554, b555⟩ := T540.2.2.2.1 52 (by decide) (by decide)
              refine rf_R_ist pm_M190 T540 (pc' := 14) rfl e554 (by decide) (by decide) rfl ⟨_, rfl, sf_upd b555 (sf_weak sf_kn1 (by decide) (by decide)) _⟩ rfl (fun h556 T557 F558 e559 => ?_)
              have F560 := F545.trans F558 (by decide)
              refine pm_R_lo pm_M190 (pc' := 17) (ls' := [.ref 41, .int 1]) (st' := []) rfl rfl rfl ?_
              refine pm_R_br pm_M190 (pc' := 2) rfl rfl ?_
              refine pm_R_lo pm_M190 (pc' := 3) rfl rfl rfl ?_
              refine pm_R_op pm_M190 (pc' := 4) (st' := [.int 4, .int 1]) rfl rfl rfl ?_
              refine pm_R_br pm_M190 (pc' := 7) (st' := []) rfl rfl ?_
              refine pm_R_lo pm_M190 (pc' := 8) rfl rfl rfl ?_
              refine rf_R_get pm_M190 T557 (pc' := 11) (v := .ref 52) rfl rfl rfl rfl ?_
              refine pm_R_lo pm_M190 (pc' := 12) rfl rfl rfl ?_
              refine pm_R_op pm_M190 (pc' := 13) (st' := [.int (-1), .int 1, .ref 52]) rfl rfl rfl ?_
              refine rf_R_ist pm_M190 T557 (pc' := 14) rfl e559 (by decide) (by decide) rfl ⟨_, rfl, sf_upd (sf_upd b555 (sf_weak sf_kn1 (by decide) (by decide)) _) (sf_weak sf_kn1 (by decide) (by decide)) _⟩ rfl (fun h561 T562 F563 e564 => ?_)
              have F565 := F560.trans F563 (by decide)
              refine pm_R_lo pm_M190 (pc' := 17) (ls' := [.ref 41, .int 2]) (st' := []) rfl rfl rfl ?_
              refine pm_R_br pm_M190 (pc' := 2) rfl rfl ?_
              refine pm_R_lo pm_M190 (pc' := 3) rfl rfl rfl ?_
              refine pm_R_op pm_M190 (pc' := 4) (st' := [.int 4, .int 2]) rfl rfl rfl ?_
              refine pm_R_br pm_M190 (pc' := 7) (st' := []) rfl rfl ?_
              refine pm_R_lo pm_M190 (pc' := 8) rfl rfl rfl ?_
              refine rf_R_get pm_M190 T562 (pc' := 11) (v := .ref 52) rfl rfl rfl rfl ?_
              refine pm_R_lo pm_M190 (pc' := 12) rfl rfl rfl ?_
              refine pm_R_op pm_M190 (pc' := 13) (st' := [.int (-1), .int 2, .ref 52]) rfl rfl rfl ?_
              refine rf_R_ist pm_M190 T562 (pc' := 14) rfl e564 (by decide) (by decide) rfl ⟨_, rfl, sf_upd (sf_upd (sf_upd b555 (sf_weak sf_kn1 (by decide) (by decide)) _) (sf_weak sf_kn1 (by decide) (by decide)) _) (sf_weak sf_kn1 (by decide) (by decide)) _⟩ rfl (fun h566 T567 F568 e569 => ?_)
              have F570 := F565.trans F568 (by decide)
              refine pm_R_lo pm_M190 (pc' := 17) (ls' := [.ref 41, .int 3]) (st' := []) rfl rfl rfl ?_
              refine pm_R_br pm_M190 (pc' := 2) rfl rfl ?_
              refine pm_R_lo pm_M190 (pc' := 3) rfl rfl rfl ?_
              refine pm_R_op pm_M190 (pc' := 4) (st' := [.int 4, .int 3]) rfl rfl rfl ?_
              refine pm_R_br pm_M190 (pc' := 7) (st' := []) rfl rfl ?_
              refine pm_R_lo pm_M190 (pc' := 8) rfl rfl rfl ?_
              refine rf_R_get pm_M190 T567 (pc' := 11) (v := .ref 52) rfl rfl rfl rfl ?_
              refine pm_R_lo pm_M190 (pc' := 12) rfl rfl rfl ?_
              refine pm_R_op pm_M190 (pc' := 13) (st' := [.int (-1), .int 3, .ref 52]) rfl rfl rfl ?_
              refine rf_R_ist pm_M190 T567 (pc' := 14) rfl e569 (by decide) (by decide) rfl ⟨_, rfl, sf_upd (sf_upd (sf_upd (sf_upd b555 (sf_weak sf_kn1 (by decide) (by decide)) _) (sf_weak sf_kn1 (by decide) (by decide)) _) (sf_weak sf_kn1 (by decide) (by decide)) _) (sf_weak sf_kn1 (by decide) (by decide)) _⟩ rfl (fun h571 T572 F573 e574 => ?_)
              have F575 := F570.trans F573 (by decide)
              refine pm_R_lo pm_M190 (pc' := 17) (ls' := [.ref 41, .int 4]) (st' := []) rfl rfl rfl ?_
              refine pm_R_br pm_M190 (pc' := 2) rfl rfl ?_
              refine pm_R_lo pm_M190 (pc' := 3) rfl rfl rfl ?_
              refine pm_R_op pm_M190 (pc' := 4) (st' := [.int 4, .int 4]) rfl rfl rfl ?_
              refine pm_R_br pm_M190 (pc' := 20) (st' := []) rfl rfl ?_
              refine pm_R_ret pm_M190 (r := none) rfl rfl ?_
              show pm_R _ 192 111 [.ref 41, .long a0, pm_no, .int a1, .int 4] [] _ _
              refine pm_R_lo pm_M192 (pc' := 112) rfl rfl rfl ?_
              refine rf_R_get pm_M192 T572 (pc' := 115) (v := .ref 52) rfl rfl rfl rfl ?_
              refine pm_R_op pm_M192 (pc' := 116) (st' := [.int 0, .ref 52]) (pm_q192_1 (Nat.le_of_ble_eq_true rfl)) rfl rfl ?_
              refine pm_R_lo pm_M192 (pc' := 118) (pm_q192_1 (Nat.le_of_ble_eq_true rfl)) rfl rfl ?_
              refine rf_R_ist pm_M192 T572 (pc' := 119) (pm_q192_1 (Nat.le_of_ble_eq_true rfl)) e574 (by decide) (by decide) rfl ⟨_, rfl, sf_upd (sf_upd (sf_upd (sf_upd (sf_upd b555 (sf_weak sf_kn1 (by decide) (by decide)) _) (sf_weak sf_kn1 (by decide) (by decide)) _) (sf_weak sf_kn1 (by decide) (by decide)) _) (sf_weak sf_kn1 (by decide) (by decide)) _) (sf_weak sf_k4 (by decide) (by decide)) _⟩ rfl (fun h576 T577 F578 e579 => ?_)
              have F580 := F575.trans F578 (by decide)
              refine pm_R_lo pm_M192 (pc' := 120) (pm_q192_1 (Nat.le_of_ble_eq_true rfl)) rfl rfl ?_
              refine pm_R_op pm_M192 (pc' := 121) (st' := [.int 1, .ref 41]) (pm_q192_1 (Nat.le_of_ble_eq_true rfl)) rfl rfl ?_
              refine pm_R_op pm_M192 (pc' := 123) (st' := [.int 9, .int 1, .ref 41]) (pm_q192_1 (Nat.le_of_ble_eq_true rfl)) rfl rfl ?_
              refine pm_R_op pm_M192 (pc' := 124) (st' := [.int (-1), .int 9, .int 1, .ref 41]) (pm_q192_1 (Nat.le_of_ble_eq_true rfl)) rfl rfl ?_
              refine pm_R_cv pm_M192 (pc' := 127) (a := 41) (ra := [.int (-1), .int 9, .int 1]) (rest := []) (ls' := [.ref 41, .int 1, .int 9, .int (-1)]) (pm_q192_1 (Nat.le_of_ble_eq_true rfl)) rfl (Or.inl rfl) pm_M183 T577.2.1 rfl (by decide) (Nat.lt_of_lt_of_le (by decide) T577.1) rfl rfl (Nat.le_of_ble_eq_true rfl) rfl rfl ?_
              refine rf_c183_1_9 (d := d + 0) T577  (fun m583 w584 h585 T586 F587 W588 X589 => ?_) (fun m592 w593 h594 T595 F596 W597 X598 X599 X600 X601 X602 => ?_) (fun m605 w606 h607 T608 F609 W610 X611 X612 X613 B614 B615 => ?_)
              · have F616 := F580.trans F587 (by decide)
                have W617 : rf_W [10, 12, 13, 14, 16, 17, 18, 22] m m583 := W550.trans W588 (by decide)
                have B618 : sf_B 0 600 (m583 10) := T586.2.2.1 10
                have B619 : sf_B 0 4 (m583 17) := T586.2.2.1 17
                have B620 : sf_B 0 1 (m583 22) := T586.2.2.1 22
                show pm_R _ 192 127 [.ref 41, .long a0, pm_no, .int a1, .int 4] [.int 0] _ _
                have R621 : (m 10).toInt ≤ (m583 10).toInt := (sf_aux70 _ _ _ R552 X589)
                refine pm_R_br pm_M192 (pc' := 130) (st' := []) (pm_q192_1 (Nat.le_of_ble_eq_true rfl)) rfl ?_
                refine pm_R_op pm_M192 (pc' := 131) (st' := [.int 0]) (pm_q192_1 (Nat.le_of_ble_eq_true rfl)) rfl rfl ?_
                exact pm_R_ret pm_M192 (r := some (.int 0)) (pm_q192_1 (Nat.le_of_ble_eq_true rfl)) rfl (K0 m583 w584 h585 T586 F616 W617 (sf_aux51 _ _ R621))
              · have F622 := F580.trans F596 (by decide)
                have W623 : rf_W [10, 12, 13, 14, 16, 17, 18, 22] m m592 := W550.trans W597 (by decide)
                have B624 : sf_B 0 600 (m592 10) := T595.2.2.1 10
                have B625 : sf_B 0 4 (m592 17) := T595.2.2.1 17
                have B626 : sf_B 0 1 (m592 22) := T595.2.2.1 22
                show pm_R _ 192 127 [.ref 41, .long a0, pm_no, .int a1, .int 4] [.int 1] _ _
                have R627 : (m 10).toInt ≤ (m592 10).toInt := (sf_aux70 _ _ _ R552 X602)
                obtain ⟨v628, B629, e630⟩ := X598 _ e579
                refine pm_R_br pm_M192 (pc' := 132) (st' := []) (pm_q192_1 (Nat.le_of_ble_eq_true rfl)) rfl ?_
                refine pm_R_lo pm_M192 (pc' := 134) (pm_q192_1 (Nat.le_of_ble_eq_true rfl)) rfl rfl ?_
                refine pm_R_op pm_M192 (pc' := 135) (st' := [.int 1, .int 4]) (pm_q192_1 (Nat.le_of_ble_eq_true rfl)) rfl rfl ?_
                refine pm_R_br pm_M192 (pc' := 138) (st' := []) (pm_q192_1 (Nat.le_of_ble_eq_true rfl)) rfl ?_
                refine pm_R_lo pm_M192 (pc' := 140) (pm_q192_1 (Nat.le_of_ble_eq_true rfl)) rfl rfl ?_
                refine pm_R_op pm_M192 (pc' := 141) (st' := [.int 2, .int 4]) (pm_q192_1 (Nat.le_of_ble_eq_true rfl)) rfl rfl ?_
                refine pm_R_br pm_M192 (pc' := 144) (st' := []) (pm_q192_1 (Nat.le_of_ble_eq_true rfl)) rfl ?_
                refine pm_R_lo pm_M192 (pc' := 146) (pm_q192_1 (Nat.le_of_ble_eq_true rfl)) rfl rfl ?_
                refine pm_R_op pm_M192 (pc' := 147) (st' := [.int 3, .int 4]) (pm_q192_1 (Nat.le_of_ble_eq_true rfl)) rfl rfl ?_
                refine pm_R_br pm_M192 (pc' := 163) (st' := []) (pm_q192_1 (Nat.le_of_ble_eq_true rfl)) rfl ?_
                refine pm_R_lo pm_M192 (pc' := 164) (pm_q192_1 (Nat.le_of_ble_eq_true rfl)) rfl rfl ?_
                refine pm_R_op pm_M192 (pc' := 165) (st' := [.int 0, .ref 41]) (pm_q192_1 (Nat.le_of_ble_eq_true rfl)) rfl rfl ?_
                refine pm_R_op pm_M192 (pc' := 166) (st' := [.int 1, .int 0, .ref 41]) (pm_q192_1 (Nat.le_of_ble_eq_true rfl)) rfl rfl ?_
                refine pm_R_op pm_M192 (pc' := 167) (st' := [.int 3, .int 1, .int 0, .ref 41]) (pm_q192_1 (Nat.le_of_ble_eq_true rfl)) rfl rfl ?_
                refine pm_R_op pm_M192 (pc' := 169) (st' := [.int 8, .int 3, .int 1, .int 0, .ref 41]) (pm_q192_1 (Nat.le_of_ble_eq_true rfl)) rfl rfl ?_
                refine pm_R_op pm_M192 (pc' := 170) (st' := [.int 0, .int 8, .int 3, .int 1, .int 0, .ref 41]) (pm_q192_1 (Nat.le_of_ble_eq_true rfl)) rfl rfl ?_
                refine pm_R_cv pm_M192 (pc' := 173) (a := 41) (ra := [.int 0, .int 8, .int 3, .int 1, .int 0]) (rest := []) (ls' := [.ref 41, .int 0, .int 1, .int 3, .int 8, .int 0, pm_no, pm_no]) (pm_q192_1 (Nat.le_of_ble_eq_true rfl)) rfl (Or.inl rfl) pm_M185 T595.2.1 rfl (by decide) (Nat.lt_of_lt_of_le (by decide) T595.1) rfl rfl (Nat.le_of_ble_eq_true rfl) rfl rfl ?_
                have e631 := (F596.cell (by decide) (F578.cell (by decide) (F573.cell (by decide) (F568.cell (by decide) (F563.cell (by decide) (F558.cell (by decide) (F541.cell (by decide) (F526.cell (by decide) e3))))))))
                refine rf_c185_l (d := d + 2) T595 (⟨f2, e631, ct4, fun z => (sf_pos (sf_eqT X599 B546) (by decide) z)⟩) (fun z => sf_pos (sf_eqT X599 B546) (by decide) z) (fun m634 w635 h636 T637 F638 W639 X640 => ?_)
                have F641 := F622.trans F638 (by decide)
                have B642 : sf_B 0 600 (m634 10) := by rw [W639 10 (by decide)]; exact B624
                have ek643 : (m634 10).toInt = ((m592 10)).toInt := by rw [W639 10 (by decide)]
                have B644 : sf_B 1 4 (m634 17) := by rw [W639 17 (by decide)]; exact (sf_eqT X599 B546)
                have ek645 : (m634 17).toInt = ((m537 17)).toInt := by rw [W639 17 (by decide)]; exact X599
                have B646 : sf_B 0 1 (m634 22) := by rw [W639 22 (by decide)]; exact (sf_eqT X600 B548)
                have ek647 : (m634 22).toInt = ((m537 22)).toInt := by rw [W639 22 (by decide)]; exact X600
                have W648 : rf_W [10, 12, 13, 14, 16, 17, 18, 22] m m634 := W623.trans W639 (by decide)
                show pm_R _ 192 173 [.ref 41, .long a0, pm_no, .int a1, .int 4] [] _ _
                obtain ⟨f649, e650, ct651, bd652⟩ := X640
                refine pm_R_op pm_M192 (pc' := 174) (st' := [.int 1]) (pm_q192_1 (Nat.le_of_ble_eq_true rfl)) rfl rfl ?_
                exact pm_R_ret pm_M192 (r := some (.int 1)) (pm_q192_1 (Nat.le_of_ble_eq_true rfl)) rfl (K1 m634 w635 h636 T637 F641 W648 (⟨f649, e650, ct651, fun z => (sf_pos B644 (by decide) z)⟩) (sf_aux39 _ _ _ ek643 R627))
              · have F653 := F580.trans F609 (by decide)
                have W654 : rf_W [10, 12, 13, 14, 16, 17, 18, 22] m m605 := W550.trans W610 (by decide)
                have B655 : sf_B 0 600 (m605 10) := T608.2.2.1 10
                have B656 : sf_B 0 4 (m605 17) := T608.2.2.1 17
                have B657 : sf_B 0 1 (m605 22) := T608.2.2.1 22
                show pm_R _ 192 127 [.ref 41, .long a0, pm_no, .int a1, .int 4] [.int 1] _ _
                have R658 : (m 10).toInt ≤ (m605 10).toInt := (sf_aux70 _ _ _ R552 X613)
                obtain ⟨v659, B660, e661⟩ := X611 _ e579
                refine pm_R_br pm_M192 (pc' := 132) (st' := []) (pm_q192_1 (Nat.le_of_ble_eq_true rfl)) rfl ?_
                refine pm_R_lo pm_M192 (pc' := 134) (pm_q192_1 (Nat.le_of_ble_eq_true rfl)) rfl rfl ?_
                refine pm_R_op pm_M192 (pc' := 135) (st' := [.int 1, .int 4]) (pm_q192_1 (Nat.le_of_ble_eq_true rfl)) rfl rfl ?_
                refine pm_R_br pm_M192 (pc' := 138) (st' := []) (pm_q192_1 (Nat.le_of_ble_eq_true rfl)) rfl ?_
                refine pm_R_lo pm_M192 (pc' := 140) (pm_q192_1 (Nat.le_of_ble_eq_true rfl)) rfl rfl ?_
                refine pm_R_op pm_M192 (pc' := 141) (st' := [.int 2, .int 4]) (pm_q192_1 (Nat.le_of_ble_eq_true rfl)) rfl rfl ?_
                refine pm_R_br pm_M192 (pc' := 144) (st' := []) (pm_q192_1 (Nat.le_of_ble_eq_true rfl)) rfl ?_
                refine pm_R_lo pm_M192 (pc' := 146) (pm_q192_1 (Nat.le_of_ble_eq_true rfl)) rfl rfl ?_
                refine pm_R_op pm_M192 (pc' := 147) (st' := [.int 3, .int 4]) (pm_q192_1 (Nat.le_of_ble_eq_true rfl)) rfl rfl ?_
                refine pm_R_br pm_M192 (pc' := 163) (st' := []) (pm_q192_1 (Nat.le_of_ble_eq_true rfl)) rfl ?_
                refine pm_R_lo pm_M192 (pc' := 164) (pm_q192_1 (Nat.le_of_ble_eq_true rfl)) rfl rfl ?_
                refine pm_R_op pm_M192 (pc' := 165) (st' := [.int 0, .ref 41]) (pm_q192_1 (Nat.le_of_ble_eq_true rfl)) rfl rfl ?_
                refine pm_R_op pm_M192 (pc' := 166) (st' := [.int 1, .int 0, .ref 41]) (pm_q192_1 (Nat.le_of_ble_eq_true rfl)) rfl rfl ?_
                refine pm_R_op pm_M192 (pc' := 167) (st' := [.int 3, .int 1, .int 0, .ref 41]) (pm_q192_1 (Nat.le_of_ble_eq_true rfl)) rfl rfl ?_
                refine pm_R_op pm_M192 (pc' := 169) (st' := [.int 8, .int 3, .int 1, .int 0, .ref 41]) (pm_q192_1 (Nat.le_of_ble_eq_true rfl)) rfl rfl ?_
                refine pm_R_op pm_M192 (pc' := 170) (st' := [.int 0, .int 8, .int 3, .int 1, .int 0, .ref 41]) (pm_q192_1 (Nat.le_of_ble_eq_true rfl)) rfl rfl ?_
                refine pm_R_cv pm_M192 (pc' := 173) (a := 41) (ra := [.int 0, .int 8, .int 3, .int 1, .int 0]) (rest := []) (ls' := [.ref 41, .int 0, .int 1, .int 3, .int 8, .int 0, pm_no, pm_no]) (pm_q192_1 (Nat.le_of_ble_eq_true rfl)) rfl (Or.inl rfl) pm_M185 T608.2.1 rfl (by decide) (Nat.lt_of_lt_of_le (by decide) T608.1) rfl rfl (Nat.le_of_ble_eq_true rfl) rfl rfl ?_
                have e662 := (F609.cell (by decide) (F578.cell (by decide) (F573.cell (by decide) (F568.cell (by decide) (F563.cell (by decide) (F558.cell (by decide) (F541.cell (by decide) (F526.cell (by decide) e3))))))))
                refine rf_c185_l (d := d + 2) T608 (⟨f2, e662, ct4, fun z => (sf_pos B614 (by decide) z)⟩) (fun z => sf_pos B614 (by decide) z) (fun m665 w666 h667 T668 F669 W670 X671 => ?_)
                have F672 := F653.trans F669 (by decide)
                have B673 : sf_B 0 600 (m665 10) := by rw [W670 10 (by decide)]; exact B655
                have ek674 : (m665 10).toInt = ((m605 10)).toInt := by rw [W670 10 (by decide)]
                have B675 : sf_B 1 4 (m665 17) := by rw [W670 17 (by decide)]; exact B614
                have ek676 : (m665 17).toInt = ((m605 17)).toInt := by rw [W670 17 (by decide)]
                have B677 : sf_B 0 0 (m665 22) := by rw [W670 22 (by decide)]; exact B615
                have ek678 : (m665 22).toInt = ((m605 22)).toInt := by rw [W670 22 (by decide)]
                have W679 : rf_W [10, 12, 13, 14, 16, 17, 18, 22] m m665 := W654.trans W670 (by decide)
                show pm_R _ 192 173 [.ref 41, .long a0, pm_no, .int a1, .int 4] [] _ _
                obtain ⟨f680, e681, ct682, bd683⟩ := X671
                refine pm_R_op pm_M192 (pc' := 174) (st' := [.int 1]) (pm_q192_1 (Nat.le_of_ble_eq_true rfl)) rfl rfl ?_
                exact pm_R_ret pm_M192 (r := some (.int 1)) (pm_q192_1 (Nat.le_of_ble_eq_true rfl)) rfl (K1 m665 w666 h667 T668 F672 W679 (⟨f680, e681, ct682, fun z => (sf_pos B675 (by decide) z)⟩) (sf_aux39 _ _ _ ek674 R658))
        · have B684 : sf_B 0 0 z19 := sf_eqL (Classical.not_not.mp c21) sf_k0
          have B685 : lf_B 1885432178 1885432178 a0 := lf_eqB e20 B684 (⟨by decide, by decide⟩ : lf_B 1885432178 1885432178 1885432178)
          refine pm_R_op pm_M192 (pc' := 45) (st' := [.int 3]) rfl rfl rfl ?_
          refine pm_R_br pm_M192 (pc' := 73) rfl rfl ?_
          refine pm_R_lo pm_M192 (pc' := 75) (ls' := [.ref 41, .long a0, pm_no, .int a1, .int 3]) (st' := []) rfl rfl rfl ?_
          refine pm_R_lo pm_M192 (pc' := 77) rfl rfl rfl ?_
          refine pm_R_op pm_M192 (pc' := 78) (st' := [.int (-1), .int 3]) rfl rfl rfl ?_
          refine pm_R_br pm_M192 (pc' := 86) (st' := []) rfl rfl ?_
          refine pm_R_lo pm_M192 (pc' := 87) rfl rfl rfl ?_
          refine rf_R_get pm_M192 T (pc' := 90) (v := .ref 51) rfl rfl rfl rfl ?_
          refine pm_R_op pm_M192 (pc' := 91) (st' := [.int 0, .ref 51]) rfl rfl rfl ?_
          refine pm_R_iald pm_M192 (pc' := 92) (v := (f2 0)) rfl e3 (Nat.lt_of_lt_of_le (by decide) T.1) rfl rfl rfl ?_
          refine pm_R_op pm_M192 (pc' := 94) (st' := [.int 8, .int (f2 0)]) rfl rfl rfl ?_
          refine pm_R_icmp pm_M192 (t := 103) (pc' := 97) rfl rfl rfl (fun c688 => ?_) (fun c688 => ?_)
          · have B689 : sf_B 0 7 (f2 0) := sf_neH0 c688 sf_k8 ct4
            refine pm_R_lo pm_M192 (pc' := 104) rfl rfl rfl ?_
            refine pm_R_cv pm_M192 (pc' := 107) (a := 41) (ra := []) (rest := []) (ls' := [.ref 41, pm_no, pm_no]) rfl rfl (Or.inl rfl) pm_M179 T.2.1 rfl (by decide) (Nat.lt_of_lt_of_le (by decide) T.1) rfl rfl (Nat.le_of_ble_eq_true rfl) rfl rfl ?_
            refine rf_c179 (d := d + 1) T  (fun m692 w693 h694 T695 F696 W697 X698 X699 => ?_)
            have F700 := (rf_G.refl [41, 51, 52] h).trans F696 (by decide)
            have B701 : sf_B 0 4 (m692 17) := by rw [W697 17 (by decide)]; exact B6
            have ek702 : (m692 17).toInt = ((m 17)).toInt := by rw [W697 17 (by decide)]
            have W703 : rf_W [10, 12, 13, 14, 16, 17, 18, 22] m m692 := (rf_W.refl [10, 12, 13, 14, 16, 17, 18, 22] m).trans W697 (by decide)
            have B704 : sf_B 0 600 (m692 10) := T695.2.2.1 10
            have B705 : sf_B 0 1 (m692 22) := T695.2.2.1 22
            show pm_R _ 192 107 [.ref 41, .long a0, pm_no, .int a1, .int 3] [] _ _
            have R706 : (m 10).toInt ≤ (m692 10).toInt := (sf_aux51 _ _ X698)
            refine pm_R_lo pm_M192 (pc' := 108) rfl rfl rfl ?_
            refine pm_R_cv pm_M192 (pc' := 111) (a := 41) (ra := []) (rest := []) (ls' := [.ref 41, pm_no]) rfl rfl (Or.inl rfl) pm_M190 T695.2.1 rfl (by decide) (Nat.lt_of_lt_of_le (by decide) T695.1) rfl rfl (Nat.le_of_ble_eq_true rfl) rfl rfl ?_
            refine pm_R_op pm_M190 (pc' := 1) (st' := [.int 0]) rfl rfl rfl ?_
            refine pm_R_lo pm_M190 (pc' := 2) (ls' := [.ref 41, .int 0]) (st' := []) rfl rfl rfl ?_
            refine pm_R_lo pm_M190 (pc' := 3) rfl rfl rfl ?_
            refine pm_R_op pm_M190 (pc' := 4) (st' := [.int 4, .int 0]) rfl rfl rfl ?_
            refine pm_R_br pm_M190 (pc' := 7) (st' := []) rfl rfl ?_
            refine pm_R_lo pm_M190 (pc' := 8) rfl rfl rfl ?_
            refine rf_R_get pm_M190 T695 (pc' := 11) (v := .ref 52) rfl rfl rfl rfl ?_
            refine pm_R_lo pm_M190 (pc' := 12) rfl rfl rfl ?_
            refine pm_R_op pm_M190 (pc' := 13) (st' := [.int (-1), .int 0, .ref 52]) rfl rfl rfl ?_
            obtain ⟨f707, e708, b709⟩ := T695.2.2.2.1 52 (by decide) (by decide)
            refine rf_R_ist pm_M190 T695 (pc' := 14) rfl e708 (by decide) (by decide) rfl ⟨_, rfl, sf_upd b709 (sf_weak sf_kn1 (by decide) (by decide)) _⟩ rfl (fun h710 T711 F712 e713 => ?_)
            have F714 := F700.trans F712 (by decide)
            refine pm_R_lo pm_M190 (pc' := 17) (ls' := [.ref 41, .int 1]) (st' := []) rfl rfl rfl ?_
            refine pm_R_br pm_M190 (pc' := 2) rfl rfl ?_
            refine pm_R_lo pm_M190 (pc' := 3) rfl rfl rfl ?_
            refine pm_R_op pm_M190 (pc' := 4) (st' := [.int 4, .int 1]) rfl rfl rfl ?_
            refine pm_R_br pm_M190 (pc' := 7) (st' := []) rfl rfl ?_
            refine pm_R_lo pm_M190 (pc' := 8) rfl rfl rfl ?_
            refine rf_R_get pm_M190 T711 (pc' := 11) (v := .ref 52) rfl rfl rfl rfl ?_
            refine pm_R_lo pm_M190 (pc' := 12) rfl rfl rfl ?_
            refine pm_R_op pm_M190 (pc' := 13) (st' := [.int (-1), .int 1, .ref 52]) rfl rfl rfl ?_
            refine rf_R_ist pm_M190 T711 (pc' := 14) rfl e713 (by decide) (by decide) rfl ⟨_, rfl, sf_upd (sf_upd b709 (sf_weak sf_kn1 (by decide) (by decide)) _) (sf_weak sf_kn1 (by decide) (by decide)) _⟩ rfl (fun h715 T716 F717 e718 => ?_)
            have F719 := F714.trans F717 (by decide)
            refine pm_R_lo pm_M190 (pc' := 17) (ls' := [.ref 41, .int 2]) (st' := []) rfl rfl rfl ?_
            refine pm_R_br pm_M190 (pc' := 2) rfl rfl ?_
            refine pm_R_lo pm_M190 (pc' := 3) rfl rfl rfl ?_
            refine pm_R_op pm_M190 (pc' := 4) (st' := [.int 4, .int 2]) rfl rfl rfl ?_
            refine pm_R_br pm_M190 (pc' := 7) (st' := []) rfl rfl ?_
            refine pm_R_lo pm_M190 (pc' := 8) rfl rfl rfl ?_
            refine rf_R_get pm_M190 T716 (pc' := 11) (v := .ref 52) rfl rfl rfl rfl ?_
            refine pm_R_lo pm_M190 (pc' := 12) rfl rfl rfl ?_
            refine pm_R_op pm_M190 (pc' := 13) (st' := [.int (-1), .int 2, .ref 52]) rfl rfl rfl ?_
            refine rf_R_ist pm_M190 T716 (pc' := 14) rfl e718 (by decide) (by decide) rfl ⟨_, rfl, sf_upd (sf_upd (sf_upd b709 (sf_weak sf_kn1 (by decide) (by decide)) _) (sf_weak sf_kn1 (by decide) (by decide)) _) (sf_weak sf_kn1 (by decide) (by decide)) _⟩ rfl (fun h720 T721 F722 e723 => ?_)
            have F724 := F719.trans F722 (by decide)
            refine pm_R_lo pm_M190 (pc' := 17) (ls' := [.ref 41, .int 3]) (st' := []) rfl rfl rfl ?_
            refine pm_R_br pm_M190 (pc' := 2) rfl rfl ?_
            refine pm_R_lo pm_M190 (pc' := 3) rfl rfl rfl ?_
            refine pm_R_op pm_M190 (pc' := 4) (st' := [.int 4, .int 3]) rfl rfl rfl ?_
            refine pm_R_br pm_M190 (pc' := 7) (st' := []) rfl rfl ?_
            refine pm_R_lo pm_M190 (pc' := 8) rfl rfl rfl ?_
            refine rf_R_get pm_M190 T721 (pc' := 11) (v := .ref 52) rfl rfl rfl rfl ?_
            refine pm_R_lo pm_M190 (pc' := 12) rfl rfl rfl ?_
            refine pm_R_op pm_M190 (pc' := 13) (st' := [.int (-1), .int 3, .ref 52]) rfl rfl rfl ?_
            refine rf_R_ist pm_M190 T721 (pc' := 14) rfl e723 (by decide) (by decide) rfl ⟨_, rfl, sf_upd (sf_upd (sf_upd (sf_upd b709 (sf_weak sf_kn1 (by decide) (by decide)) _) (sf_weak sf_kn1 (by decide) (by decide)) _) (sf_weak sf_kn1 (by decide) (by decide)) _) (sf_weak sf_kn1 (by decide) (by decide)) _⟩ rfl (fun h725 T726 F727 e728 => ?_)
            have F729 := F724.trans F727 (by decide)
            refine pm_R_lo pm_M190 (pc' := 17) (ls' := [.ref 41, .int 4]) (st' := []) rfl rfl rfl ?_
            refine pm_R_br pm_M190 (pc' := 2) rfl rfl ?_
            refine pm_R_lo pm_M190 (pc' := 3) rfl rfl rfl ?_
            refine pm_R_op pm_M190 (pc' := 4) (st' := [.int 4, .int 4]) rfl rfl rfl ?_
            refine pm_R_br pm_M190 (pc' := 20) (st' := []) rfl rfl ?_
            refine pm_R_ret pm_M190 (r := none) rfl rfl ?_
            show pm_R _ 192 111 [.ref 41, .long a0, pm_no, .int a1, .int 3] [] _ _
            refine pm_R_lo pm_M192 (pc' := 112) rfl rfl rfl ?_
            refine rf_R_get pm_M192 T726 (pc' := 115) (v := .ref 52) rfl rfl rfl rfl ?_
            refine pm_R_op pm_M192 (pc' := 116) (st' := [.int 0, .ref 52]) (pm_q192_1 (Nat.le_of_ble_eq_true rfl)) rfl rfl ?_
            refine pm_R_lo pm_M192 (pc' := 118) (pm_q192_1 (Nat.le_of_ble_eq_true rfl)) rfl rfl ?_
            refine rf_R_ist pm_M192 T726 (pc' := 119) (pm_q192_1 (Nat.le_of_ble_eq_true rfl)) e728 (by decide) (by decide) rfl ⟨_, rfl, sf_upd (sf_upd (sf_upd (sf_upd (sf_upd b709 (sf_weak sf_kn1 (by decide) (by decide)) _) (sf_weak sf_kn1 (by decide) (by decide)) _) (sf_weak sf_kn1 (by decide) (by decide)) _) (sf_weak sf_kn1 (by decide) (by decide)) _) (sf_weak sf_k3 (by decide) (by decide)) _⟩ rfl (fun h730 T731 F732 e733 => ?_)
            have F734 := F729.trans F732 (by decide)
            refine pm_R_lo pm_M192 (pc' := 120) (pm_q192_1 (Nat.le_of_ble_eq_true rfl)) rfl rfl ?_
            refine pm_R_op pm_M192 (pc' := 121) (st' := [.int 1, .ref 41]) (pm_q192_1 (Nat.le_of_ble_eq_true rfl)) rfl rfl ?_
            refine pm_R_op pm_M192 (pc' := 123) (st' := [.int 9, .int 1, .ref 41]) (pm_q192_1 (Nat.le_of_ble_eq_true rfl)) rfl rfl ?_
            refine pm_R_op pm_M192 (pc' := 124) (st' := [.int (-1), .int 9, .int 1, .ref 41]) (pm_q192_1 (Nat.le_of_ble_eq_true rfl)) rfl rfl ?_
            refine pm_R_cv pm_M192 (pc' := 127) (a := 41) (ra := [.int (-1), .int 9, .int 1]) (rest := []) (ls' := [.ref 41, .int 1, .int 9, .int (-1)]) (pm_q192_1 (Nat.le_of_ble_eq_true rfl)) rfl (Or.inl rfl) pm_M183 T731.2.1 rfl (by decide) (Nat.lt_of_lt_of_le (by decide) T731.1) rfl rfl (Nat.le_of_ble_eq_true rfl) rfl rfl ?_
            refine rf_c183_1_9 (d := d + 0) T731  (fun m737 w738 h739 T740 F741 W742 X743 => ?_) (fun m746 w747 h748 T749 F750 W751 X752 X753 X754 X755 X756 => ?_) (fun m759 w760 h761 T762 F763 W764 X765 X766 X767 B768 B769 => ?_)
            · have F770 := F734.trans F741 (by decide)
              have W771 : rf_W [10, 12, 13, 14, 16, 17, 18, 22] m m737 := W703.trans W742 (by decide)
              have B772 : sf_B 0 600 (m737 10) := T740.2.2.1 10
              have B773 : sf_B 0 4 (m737 17) := T740.2.2.1 17
              have B774 : sf_B 0 1 (m737 22) := T740.2.2.1 22
              show pm_R _ 192 127 [.ref 41, .long a0, pm_no, .int a1, .int 3] [.int 0] _ _
              have R775 : (m 10).toInt ≤ (m737 10).toInt := (sf_aux70 _ _ _ R706 X743)
              refine pm_R_br pm_M192 (pc' := 130) (st' := []) (pm_q192_1 (Nat.le_of_ble_eq_true rfl)) rfl ?_
              refine pm_R_op pm_M192 (pc' := 131) (st' := [.int 0]) (pm_q192_1 (Nat.le_of_ble_eq_true rfl)) rfl rfl ?_
              exact pm_R_ret pm_M192 (r := some (.int 0)) (pm_q192_1 (Nat.le_of_ble_eq_true rfl)) rfl (K0 m737 w738 h739 T740 F770 W771 (sf_aux51 _ _ R775))
            · have F776 := F734.trans F750 (by decide)
              have W777 : rf_W [10, 12, 13, 14, 16, 17, 18, 22] m m746 := W703.trans W751 (by decide)
              have B778 : sf_B 0 600 (m746 10) := T749.2.2.1 10
              have B779 : sf_B 0 4 (m746 17) := T749.2.2.1 17
              have B780 : sf_B 0 1 (m746 22) := T749.2.2.1 22
              show pm_R _ 192 127 [.ref 41, .long a0, pm_no, .int a1, .int 3] [.int 1] _ _
              have R781 : (m 10).toInt ≤ (m746 10).toInt := (sf_aux70 _ _ _ R706 X756)
              obtain ⟨v782, B783, e784⟩ := X752 _ e733
              refine pm_R_br pm_M192 (pc' := 132) (st' := []) (pm_q192_1 (Nat.le_of_ble_eq_true rfl)) rfl ?_
              refine pm_R_lo pm_M192 (pc' := 134) (pm_q192_1 (Nat.le_of_ble_eq_true rfl)) rfl rfl ?_
              refine pm_R_op pm_M192 (pc' := 135) (st' := [.int 1, .int 3]) (pm_q192_1 (Nat.le_of_ble_eq_true rfl)) rfl rfl ?_
              refine pm_R_br pm_M192 (pc' := 138) (st' := []) (pm_q192_1 (Nat.le_of_ble_eq_true rfl)) rfl ?_
              refine pm_R_lo pm_M192 (pc' := 140) (pm_q192_1 (Nat.le_of_ble_eq_true rfl)) rfl rfl ?_
              refine pm_R_op pm_M192 (pc' := 141) (st' := [.int 2, .int 3]) (pm_q192_1 (Nat.le_of_ble_eq_true rfl)) rfl rfl ?_
              refine pm_R_br pm_M192 (pc' := 144) (st' := []) (pm_q192_1 (Nat.le_of_ble_eq_true rfl)) rfl ?_
              refine pm_R_lo pm_M192 (pc' := 146) (pm_q192_1 (Nat.le_of_ble_eq_true rfl)) rfl rfl ?_
              refine pm_R_op pm_M192 (pc' := 147) (st' := [.int 3, .int 3]) (pm_q192_1 (Nat.le_of_ble_eq_true rfl)) rfl rfl ?_
              refine pm_R_br pm_M192 (pc' := 150) (st' := []) (pm_q192_1 (Nat.le_of_ble_eq_true rfl)) rfl ?_
              refine pm_R_lo pm_M192 (pc' := 151) (pm_q192_1 (Nat.le_of_ble_eq_true rfl)) rfl rfl ?_
              refine pm_R_op pm_M192 (pc' := 152) (st' := [.int 2, .ref 41]) (pm_q192_1 (Nat.le_of_ble_eq_true rfl)) rfl rfl ?_
              refine pm_R_op pm_M192 (pc' := 154) (st' := [.int 9, .int 2, .ref 41]) (pm_q192_1 (Nat.le_of_ble_eq_true rfl)) rfl rfl ?_
              refine pm_R_op pm_M192 (pc' := 155) (st' := [.int (-1), .int 9, .int 2, .ref 41]) (pm_q192_1 (Nat.le_of_ble_eq_true rfl)) rfl rfl ?_
              refine pm_R_cv pm_M192 (pc' := 158) (a := 41) (ra := [.int (-1), .int 9, .int 2]) (rest := []) (ls' := [.ref 41, .int 2, .int 9, .int (-1)]) (pm_q192_1 (Nat.le_of_ble_eq_true rfl)) rfl (Or.inl rfl) pm_M183 T749.2.1 rfl (by decide) (Nat.lt_of_lt_of_le (by decide) T749.1) rfl rfl (Nat.le_of_ble_eq_true rfl) rfl rfl ?_
              refine rf_c183_2_9 (d := d + 0) T749  (fun m787 w788 h789 T790 F791 W792 X793 => ?_) (fun m796 w797 h798 T799 F800 W801 X802 X803 X804 X805 X806 => ?_) (fun m809 w810 h811 T812 F813 W814 X815 X816 X817 B818 B819 => ?_)
              · have F820 := F776.trans F791 (by decide)
                have W821 : rf_W [10, 12, 13, 14, 16, 17, 18, 22] m m787 := W777.trans W792 (by decide)
                have B822 : sf_B 0 600 (m787 10) := T790.2.2.1 10
                have B823 : sf_B 0 4 (m787 17) := T790.2.2.1 17
                have B824 : sf_B 0 1 (m787 22) := T790.2.2.1 22
                show pm_R _ 192 158 [.ref 41, .long a0, pm_no, .int a1, .int 3] [.int 0] _ _
                have R825 : (m 10).toInt ≤ (m787 10).toInt := (sf_aux70 _ _ _ R781 X793)
                refine pm_R_br pm_M192 (pc' := 161) (st' := []) (pm_q192_1 (Nat.le_of_ble_eq_true rfl)) rfl ?_
                refine pm_R_op pm_M192 (pc' := 162) (st' := [.int 0]) (pm_q192_1 (Nat.le_of_ble_eq_true rfl)) rfl rfl ?_
                exact pm_R_ret pm_M192 (r := some (.int 0)) (pm_q192_1 (Nat.le_of_ble_eq_true rfl)) rfl (K0 m787 w788 h789 T790 F820 W821 (sf_aux51 _ _ R825))
              · have F826 := F776.trans F800 (by decide)
                have W827 : rf_W [10, 12, 13, 14, 16, 17, 18, 22] m m796 := W777.trans W801 (by decide)
                have B828 : sf_B 0 600 (m796 10) := T799.2.2.1 10
                have B829 : sf_B 0 4 (m796 17) := T799.2.2.1 17
                have B830 : sf_B 0 1 (m796 22) := T799.2.2.1 22
                show pm_R _ 192 158 [.ref 41, .long a0, pm_no, .int a1, .int 3] [.int 1] _ _
                have R831 : (m 10).toInt ≤ (m796 10).toInt := (sf_aux70 _ _ _ R781 X806)
                obtain ⟨v832, B833, e834⟩ := X802 _ e784
                refine pm_R_br pm_M192 (pc' := 163) (st' := []) (pm_q192_1 (Nat.le_of_ble_eq_true rfl)) rfl ?_
                refine pm_R_lo pm_M192 (pc' := 164) (pm_q192_1 (Nat.le_of_ble_eq_true rfl)) rfl rfl ?_
                refine pm_R_op pm_M192 (pc' := 165) (st' := [.int 0, .ref 41]) (pm_q192_1 (Nat.le_of_ble_eq_true rfl)) rfl rfl ?_
                refine pm_R_op pm_M192 (pc' := 166) (st' := [.int 1, .int 0, .ref 41]) (pm_q192_1 (Nat.le_of_ble_eq_true rfl)) rfl rfl ?_
                refine pm_R_op pm_M192 (pc' := 167) (st' := [.int 3, .int 1, .int 0, .ref 41]) (pm_q192_1 (Nat.le_of_ble_eq_true rfl)) rfl rfl ?_
                refine pm_R_op pm_M192 (pc' := 169) (st' := [.int 8, .int 3, .int 1, .int 0, .ref 41]) (pm_q192_1 (Nat.le_of_ble_eq_true rfl)) rfl rfl ?_
                refine pm_R_op pm_M192 (pc' := 170) (st' := [.int 0, .int 8, .int 3, .int 1, .int 0, .ref 41]) (pm_q192_1 (Nat.le_of_ble_eq_true rfl)) rfl rfl ?_
                refine pm_R_cv pm_M192 (pc' := 173) (a := 41) (ra := [.int 0, .int 8, .int 3, .int 1, .int 0]) (rest := []) (ls' := [.ref 41, .int 0, .int 1, .int 3, .int 8, .int 0, pm_no, pm_no]) (pm_q192_1 (Nat.le_of_ble_eq_true rfl)) rfl (Or.inl rfl) pm_M185 T799.2.1 rfl (by decide) (Nat.lt_of_lt_of_le (by decide) T799.1) rfl rfl (Nat.le_of_ble_eq_true rfl) rfl rfl ?_
                have e835 := (F800.cell (by decide) (F750.cell (by decide) (F732.cell (by decide) (F727.cell (by decide) (F722.cell (by decide) (F717.cell (by decide) (F712.cell (by decide) (F696.cell (by decide) e3))))))))
                refine rf_c185_l (d := d + 2) T799 (⟨f2, e835, ct4, fun z => (bd5 (sf_aux73 _ _ _ _ ek702 X753 X803 z))⟩) (fun _ g eg => by rw [e834] at eg; cases eg; exact ⟨sf_eqL (Eq.trans (sf_upd_nec (k := Int32.toNatClampNeg 2) (j := Int32.toNatClampNeg 0) (by decide)) (Eq.trans (sf_upd_nec (k := Int32.toNatClampNeg 1) (j := Int32.toNatClampNeg 0) (by decide)) sf_upd_eq)) (sf_weak sf_k3 (by decide) (by decide)), sf_eqL (Eq.trans (sf_upd_nec (k := Int32.toNatClampNeg 2) (j := Int32.toNatClampNeg 1) (by decide)) sf_upd_eq) B783, sf_eqL sf_upd_eq (sf_weak B833 (by decide) (by decide))⟩) (fun m838 w839 h840 T841 F842 W843 X844 => ?_)
                have F845 := F826.trans F842 (by decide)
                have B846 : sf_B 0 600 (m838 10) := by rw [W843 10 (by decide)]; exact B828
                have ek847 : (m838 10).toInt = ((m796 10)).toInt := by rw [W843 10 (by decide)]
                have B848 : sf_B 0 4 (m838 17) := by rw [W843 17 (by decide)]; exact (sf_eqT X803 (sf_eqT X753 B701))
                have ek849 : (m838 17).toInt = ((m746 17)).toInt := by rw [W843 17 (by decide)]; exact X803
                have B850 : sf_B 0 1 (m838 22) := by rw [W843 22 (by decide)]; exact (sf_eqT X804 (sf_eqT X754 B705))
                have ek851 : (m838 22).toInt = ((m746 22)).toInt := by rw [W843 22 (by decide)]; exact X804
                have W852 : rf_W [10, 12, 13, 14, 16, 17, 18, 22] m m838 := W827.trans W843 (by decide)
                show pm_R _ 192 173 [.ref 41, .long a0, pm_no, .int a1, .int 3] [] _ _
                obtain ⟨f853, e854, ct855, bd856⟩ := X844
                refine pm_R_op pm_M192 (pc' := 174) (st' := [.int 1]) (pm_q192_1 (Nat.le_of_ble_eq_true rfl)) rfl rfl ?_
                exact pm_R_ret pm_M192 (r := some (.int 1)) (pm_q192_1 (Nat.le_of_ble_eq_true rfl)) rfl (K1 m838 w839 h840 T841 F845 W852 (⟨f853, e854, ct855, fun z => (bd856 z)⟩) (sf_aux39 _ _ _ ek847 R831))
              · have F857 := F776.trans F813 (by decide)
                have W858 : rf_W [10, 12, 13, 14, 16, 17, 18, 22] m m809 := W777.trans W814 (by decide)
                have B859 : sf_B 0 600 (m809 10) := T812.2.2.1 10
                have B860 : sf_B 0 4 (m809 17) := T812.2.2.1 17
                have B861 : sf_B 0 1 (m809 22) := T812.2.2.1 22
                show pm_R _ 192 158 [.ref 41, .long a0, pm_no, .int a1, .int 3] [.int 1] _ _
                have R862 : (m 10).toInt ≤ (m809 10).toInt := (sf_aux70 _ _ _ R781 X817)
                obtain ⟨v863, B864, e865⟩ := X815 _ e784
                refine pm_R_br pm_M192 (pc' := 163) (st' := []) (pm_q192_1 (Nat.le_of_ble_eq_true rfl)) rfl ?_
                refine pm_R_lo pm_M192 (pc' := 164) (pm_q192_1 (Nat.le_of_ble_eq_true rfl)) rfl rfl ?_
                refine pm_R_op pm_M192 (pc' := 165) (st' := [.int 0, .ref 41]) (pm_q192_1 (Nat.le_of_ble_eq_true rfl)) rfl rfl ?_
                refine pm_R_op pm_M192 (pc' := 166) (st' := [.int 1, .int 0, .ref 41]) (pm_q192_1 (Nat.le_of_ble_eq_true rfl)) rfl rfl ?_
                refine pm_R_op pm_M192 (pc' := 167) (st' := [.int 3, .int 1, .int 0, .ref 41]) (pm_q192_1 (Nat.le_of_ble_eq_true rfl)) rfl rfl ?_
                refine pm_R_op pm_M192 (pc' := 169) (st' := [.int 8, .int 3, .int 1, .int 0, .ref 41]) (pm_q192_1 (Nat.le_of_ble_eq_true rfl)) rfl rfl ?_
                refine pm_R_op pm_M192 (pc' := 170) (st' := [.int 0, .int 8, .int 3, .int 1, .int 0, .ref 41]) (pm_q192_1 (Nat.le_of_ble_eq_true rfl)) rfl rfl ?_
                refine pm_R_cv pm_M192 (pc' := 173) (a := 41) (ra := [.int 0, .int 8, .int 3, .int 1, .int 0]) (rest := []) (ls' := [.ref 41, .int 0, .int 1, .int 3, .int 8, .int 0, pm_no, pm_no]) (pm_q192_1 (Nat.le_of_ble_eq_true rfl)) rfl (Or.inl rfl) pm_M185 T812.2.1 rfl (by decide) (Nat.lt_of_lt_of_le (by decide) T812.1) rfl rfl (Nat.le_of_ble_eq_true rfl) rfl rfl ?_
                have e866 := (F813.cell (by decide) (F750.cell (by decide) (F732.cell (by decide) (F727.cell (by decide) (F722.cell (by decide) (F717.cell (by decide) (F712.cell (by decide) (F696.cell (by decide) e3))))))))
                refine rf_c185_l (d := d + 2) T812 (⟨f2, e866, ct4, fun z => (sf_pos B818 (by decide) z)⟩) (fun z => sf_pos B818 (by decide) z) (fun m869 w870 h871 T872 F873 W874 X875 => ?_)
                have F876 := F857.trans F873 (by decide)
                have B877 : sf_B 0 600 (m869 10) := by rw [W874 10 (by decide)]; exact B859
                have ek878 : (m869 10).toInt = ((m809 10)).toInt := by rw [W874 10 (by decide)]
                have B879 : sf_B 1 4 (m869 17) := by rw [W874 17 (by decide)]; exact B818
                have ek880 : (m869 17).toInt = ((m809 17)).toInt := by rw [W874 17 (by decide)]
                have B881 : sf_B 0 0 (m869 22) := by rw [W874 22 (by decide)]; exact B819
                have ek882 : (m869 22).toInt = ((m809 22)).toInt := by rw [W874 22 (by decide)]
                have W883 : rf_W [10, 12, 13, 14, 16, 17, 18, 22] m m869 := W858.trans W874 (by decide)
                show pm_R _ 192 173 [.ref 41, .long a0, pm_no, .int a1, .int 3] [] _ _
                obtain ⟨f884, e885, ct886, bd887⟩ := X875
                refine pm_R_op pm_M192 (pc' := 174) (st' := [.int 1]) (pm_q192_1 (Nat.le_of_ble_eq_true rfl)) rfl rfl ?_
                exact pm_R_ret pm_M192 (r := some (.int 1)) (pm_q192_1 (Nat.le_of_ble_eq_true rfl)) rfl (K1 m869 w870 h871 T872 F876 W883 (⟨f884, e885, ct886, fun z => (sf_pos B879 (by decide) z)⟩) (sf_aux39 _ _ _ ek878 R862))
            · have F888 := F734.trans F763 (by decide)
              have W889 : rf_W [10, 12, 13, 14, 16, 17, 18, 22] m m759 := W703.trans W764 (by decide)
              have B890 : sf_B 0 600 (m759 10) := T762.2.2.1 10
              have B891 : sf_B 0 4 (m759 17) := T762.2.2.1 17
              have B892 : sf_B 0 1 (m759 22) := T762.2.2.1 22
              show pm_R _ 192 127 [.ref 41, .long a0, pm_no, .int a1, .int 3] [.int 1] _ _
              have R893 : (m 10).toInt ≤ (m759 10).toInt := (sf_aux70 _ _ _ R706 X767)
              obtain ⟨v894, B895, e896⟩ := X765 _ e733
              refine pm_R_br pm_M192 (pc' := 132) (st' := []) (pm_q192_1 (Nat.le_of_ble_eq_true rfl)) rfl ?_
              refine pm_R_lo pm_M192 (pc' := 134) (pm_q192_1 (Nat.le_of_ble_eq_true rfl)) rfl rfl ?_
              refine pm_R_op pm_M192 (pc' := 135) (st' := [.int 1, .int 3]) (pm_q192_1 (Nat.le_of_ble_eq_true rfl)) rfl rfl ?_
              refine pm_R_br pm_M192 (pc' := 138) (st' := []) (pm_q192_1 (Nat.le_of_ble_eq_true rfl)) rfl ?_
              refine pm_R_lo pm_M192 (pc' := 140) (pm_q192_1 (Nat.le_of_ble_eq_true rfl)) rfl rfl ?_
              refine pm_R_op pm_M192 (pc' := 141) (st' := [.int 2, .int 3]) (pm_q192_1 (Nat.le_of_ble_eq_true rfl)) rfl rfl ?_
              refine pm_R_br pm_M192 (pc' := 144) (st' := []) (pm_q192_1 (Nat.le_of_ble_eq_true rfl)) rfl ?_
              refine pm_R_lo pm_M192 (pc' := 146) (pm_q192_1 (Nat.le_of_ble_eq_true rfl)) rfl rfl ?_
              refine pm_R_op pm_M192 (pc' := 147) (st' := [.int 3, .int 3]) (pm_q192_1 (Nat.le_of_ble_eq_true rfl)) rfl rfl ?_
              refine pm_R_br pm_M192 (pc' := 150) (st' := []) (pm_q192_1 (Nat.le_of_ble_eq_true rfl)) rfl ?_
              refine pm_R_lo pm_M192 (pc' := 151) (pm_q192_1 (Nat.le_of_ble_eq_true rfl)) rfl rfl ?_
              refine pm_R_op pm_M192 (pc' := 152) (st' := [.int 2, .ref 41]) (pm_q192_1 (Nat.le_of_ble_eq_true rfl)) rfl rfl ?_
              refine pm_R_op pm_M192 (pc' := 154) (st' := [.int 9, .int 2, .ref 41]) (pm_q192_1 (Nat.le_of_ble_eq_true rfl)) rfl rfl ?_
              refine pm_R_op pm_M192 (pc' := 155) (st' := [.int (-1), .int 9, .int 2, .ref 41]) (pm_q192_1 (Nat.le_of_ble_eq_true rfl)) rfl rfl ?_
              refine pm_R_cv pm_M192 (pc' := 158) (a := 41) (ra := [.int (-1), .int 9, .int 2]) (rest := []) (ls' := [.ref 41, .int 2, .int 9, .int (-1)]) (pm_q192_1 (Nat.le_of_ble_eq_true rfl)) rfl (Or.inl rfl) pm_M183 T762.2.1 rfl (by decide) (Nat.lt_of_lt_of_le (by decide) T762.1) rfl rfl (Nat.le_of_ble_eq_true rfl) rfl rfl ?_
              refine rf_c183_2_9 (d := d + 0) T762  (fun m899 w900 h901 T902 F903 W904 X905 => ?_) (fun m908 w909 h910 T911 F912 W913 X914 X915 X916 X917 X918 => ?_) (fun m921 w922 h923 T924 F925 W926 X927 X928 X929 B930 B931 => ?_)
              · have F932 := F888.trans F903 (by decide)
                have W933 : rf_W [10, 12, 13, 14, 16, 17, 18, 22] m m899 := W889.trans W904 (by decide)
                have B934 : sf_B 0 600 (m899 10) := T902.2.2.1 10
                have B935 : sf_B 0 4 (m899 17) := T902.2.2.1 17
                have B936 : sf_B 0 1 (m899 22) := T902.2.2.1 22
                show pm_R _ 192 158 [.ref 41, .long a0, pm_no, .int a1, .int 3] [.int 0] _ _
                have R937 : (m 10).toInt ≤ (m899 10).toInt := (sf_aux70 _ _ _ R893 X905)
                refine pm_R_br pm_M192 (pc' := 161) (st' := []) (pm_q192_1 (Nat.le_of_ble_eq_true rfl)) rfl ?_
                refine pm_R_op pm_M192 (pc' := 162) (st' := [.int 0]) (pm_q192_1 (Nat.le_of_ble_eq_true rfl)) rfl rfl ?_
                exact pm_R_ret pm_M192 (r := some (.int 0)) (pm_q192_1 (Nat.le_of_ble_eq_true rfl)) rfl (K0 m899 w900 h901 T902 F932 W933 (sf_aux51 _ _ R937))
              · have F938 := F888.trans F912 (by decide)
                have W939 : rf_W [10, 12, 13, 14, 16, 17, 18, 22] m m908 := W889.trans W913 (by decide)
                have B940 : sf_B 0 600 (m908 10) := T911.2.2.1 10
                have B941 : sf_B 0 4 (m908 17) := T911.2.2.1 17
                have B942 : sf_B 0 1 (m908 22) := T911.2.2.1 22
                show pm_R _ 192 158 [.ref 41, .long a0, pm_no, .int a1, .int 3] [.int 1] _ _
                have R943 : (m 10).toInt ≤ (m908 10).toInt := (sf_aux70 _ _ _ R893 X918)
                obtain ⟨v944, B945, e946⟩ := X914 _ e896
                refine pm_R_br pm_M192 (pc' := 163) (st' := []) (pm_q192_1 (Nat.le_of_ble_eq_true rfl)) rfl ?_
                refine pm_R_lo pm_M192 (pc' := 164) (pm_q192_1 (Nat.le_of_ble_eq_true rfl)) rfl rfl ?_
                refine pm_R_op pm_M192 (pc' := 165) (st' := [.int 0, .ref 41]) (pm_q192_1 (Nat.le_of_ble_eq_true rfl)) rfl rfl ?_
                refine pm_R_op pm_M192 (pc' := 166) (st' := [.int 1, .int 0, .ref 41]) (pm_q192_1 (Nat.le_of_ble_eq_true rfl)) rfl rfl ?_
                refine pm_R_op pm_M192 (pc' := 167) (st' := [.int 3, .int 1, .int 0, .ref 41]) (pm_q192_1 (Nat.le_of_ble_eq_true rfl)) rfl rfl ?_
                refine pm_R_op pm_M192 (pc' := 169) (st' := [.int 8, .int 3, .int 1, .int 0, .ref 41]) (pm_q192_1 (Nat.le_of_ble_eq_true rfl)) rfl rfl ?_
                refine pm_R_op pm_M192 (pc' := 170) (st' := [.int 0, .int 8, .int 3, .int 1, .int 0, .ref 41]) (pm_q192_1 (Nat.le_of_ble_eq_true rfl)) rfl rfl ?_
                refine pm_R_cv pm_M192 (pc' := 173) (a := 41) (ra := [.int 0, .int 8, .int 3, .int 1, .int 0]) (rest := []) (ls' := [.ref 41, .int 0, .int 1, .int 3, .int 8, .int 0, pm_no, pm_no]) (pm_q192_1 (Nat.le_of_ble_eq_true rfl)) rfl (Or.inl rfl) pm_M185 T911.2.1 rfl (by decide) (Nat.lt_of_lt_of_le (by decide) T911.1) rfl rfl (Nat.le_of_ble_eq_true rfl) rfl rfl ?_
                have e947 := (F912.cell (by decide) (F763.cell (by decide) (F732.cell (by decide) (F727.cell (by decide) (F722.cell (by decide) (F717.cell (by decide) (F712.cell (by decide) (F696.cell (by decide) e3))))))))
                refine rf_c185_l (d := d + 2) T911 (⟨f2, e947, ct4, fun z => (sf_pos (sf_eqT X915 B768) (by decide) z)⟩) (fun z => sf_pos (sf_eqT X915 B768) (by decide) z) (fun m950 w951 h952 T953 F954 W955 X956 => ?_)
                have F957 := F938.trans F954 (by decide)
                have B958 : sf_B 0 600 (m950 10) := by rw [W955 10 (by decide)]; exact B940
                have ek959 : (m950 10).toInt = ((m908 10)).toInt := by rw [W955 10 (by decide)]
                have B960 : sf_B 1 4 (m950 17) := by rw [W955 17 (by decide)]; exact (sf_eqT X915 B768)
                have ek961 : (m950 17).toInt = ((m759 17)).toInt := by rw [W955 17 (by decide)]; exact X915
                have B962 : sf_B 0 0 (m950 22) := by rw [W955 22 (by decide)]; exact (sf_eqT X916 B769)
                have ek963 : (m950 22).toInt = ((m759 22)).toInt := by rw [W955 22 (by decide)]; exact X916
                have W964 : rf_W [10, 12, 13, 14, 16, 17, 18, 22] m m950 := W939.trans W955 (by decide)
                show pm_R _ 192 173 [.ref 41, .long a0, pm_no, .int a1, .int 3] [] _ _
                obtain ⟨f965, e966, ct967, bd968⟩ := X956
                refine pm_R_op pm_M192 (pc' := 174) (st' := [.int 1]) (pm_q192_1 (Nat.le_of_ble_eq_true rfl)) rfl rfl ?_
                exact pm_R_ret pm_M192 (r := some (.int 1)) (pm_q192_1 (Nat.le_of_ble_eq_true rfl)) rfl (K1 m950 w951 h952 T953 F957 W964 (⟨f965, e966, ct967, fun z => (sf_pos B960 (by decide) z)⟩) (sf_aux39 _ _ _ ek959 R943))
              · have F969 := F888.trans F925 (by decide)
                have W970 : rf_W [10, 12, 13, 14, 16, 17, 18, 22] m m921 := W889.trans W926 (by decide)
                have B971 : sf_B 0 600 (m921 10) := T924.2.2.1 10
                have B972 : sf_B 0 4 (m921 17) := T924.2.2.1 17
                have B973 : sf_B 0 1 (m921 22) := T924.2.2.1 22
                show pm_R _ 192 158 [.ref 41, .long a0, pm_no, .int a1, .int 3] [.int 1] _ _
                have R974 : (m 10).toInt ≤ (m921 10).toInt := (sf_aux70 _ _ _ R893 X929)
                obtain ⟨v975, B976, e977⟩ := X927 _ e896
                refine pm_R_br pm_M192 (pc' := 163) (st' := []) (pm_q192_1 (Nat.le_of_ble_eq_true rfl)) rfl ?_
                refine pm_R_lo pm_M192 (pc' := 164) (pm_q192_1 (Nat.le_of_ble_eq_true rfl)) rfl rfl ?_
                refine pm_R_op pm_M192 (pc' := 165) (st' := [.int 0, .ref 41]) (pm_q192_1 (Nat.le_of_ble_eq_true rfl)) rfl rfl ?_
                refine pm_R_op pm_M192 (pc' := 166) (st' := [.int 1, .int 0, .ref 41]) (pm_q192_1 (Nat.le_of_ble_eq_true rfl)) rfl rfl ?_
                refine pm_R_op pm_M192 (pc' := 167) (st' := [.int 3, .int 1, .int 0, .ref 41]) (pm_q192_1 (Nat.le_of_ble_eq_true rfl)) rfl rfl ?_
                refine pm_R_op pm_M192 (pc' := 169) (st' := [.int 8, .int 3, .int 1, .int 0, .ref 41]) (pm_q192_1 (Nat.le_of_ble_eq_true rfl)) rfl rfl ?_
                refine pm_R_op pm_M192 (pc' := 170) (st' := [.int 0, .int 8, .int 3, .int 1, .int 0, .ref 41]) (pm_q192_1 (Nat.le_of_ble_eq_true rfl)) rfl rfl ?_
                refine pm_R_cv pm_M192 (pc' := 173) (a := 41) (ra := [.int 0, .int 8, .int 3, .int 1, .int 0]) (rest := []) (ls' := [.ref 41, .int 0, .int 1, .int 3, .int 8, .int 0, pm_no, pm_no]) (pm_q192_1 (Nat.le_of_ble_eq_true rfl)) rfl (Or.inl rfl) pm_M185 T924.2.1 rfl (by decide) (Nat.lt_of_lt_of_le (by decide) T924.1) rfl rfl (Nat.le_of_ble_eq_true rfl) rfl rfl ?_
                have e978 := (F925.cell (by decide) (F763.cell (by decide) (F732.cell (by decide) (F727.cell (by decide) (F722.cell (by decide) (F717.cell (by decide) (F712.cell (by decide) (F696.cell (by decide) e3))))))))
                refine rf_c185_l (d := d + 2) T924 (⟨f2, e978, ct4, fun z => (sf_pos B930 (by decide) z)⟩) (fun z => sf_pos B930 (by decide) z) (fun m981 w982 h983 T984 F985 W986 X987 => ?_)
                have F988 := F969.trans F985 (by decide)
                have B989 : sf_B 0 600 (m981 10) := by rw [W986 10 (by decide)]; exact B971
                have ek990 : (m981 10).toInt = ((m921 10)).toInt := by rw [W986 10 (by decide)]
                have B991 : sf_B 1 4 (m981 17) := by rw [W986 17 (by decide)]; exact B930
                have ek992 : (m981 17).toInt = ((m921 17)).toInt := by rw [W986 17 (by decide)]
                have B993 : sf_B 0 0 (m981 22) := by rw [W986 22 (by decide)]; exact B931
                have ek994 : (m981 22).toInt = ((m921 22)).toInt := by rw [W986 22 (by decide)]
                have W995 : rf_W [10, 12, 13, 14, 16, 17, 18, 22] m m981 := W970.trans W986 (by decide)
                show pm_R _ 192 173 [.ref 41, .long a0, pm_no, .int a1, .int 3] [] _ _
                obtain ⟨f996, e997, ct998, bd999⟩ := X987
                refine pm_R_op pm_M192 (pc' := 174) (st' := [.int 1]) (pm_q192_1 (Nat.le_of_ble_eq_true rfl)) rfl rfl ?_
                exact pm_R_ret pm_M192 (r := some (.int 1)) (pm_q192_1 (Nat.le_of_ble_eq_true rfl)) rfl (K1 m981 w982 h983 T984 F988 W995 (⟨f996, e997, ct998, fun z => (sf_pos B991 (by decide) z)⟩) (sf_aux39 _ _ _ ek990 R974))
          · have B1000 : sf_B 8 8 (f2 0) := sf_eqL (Classical.not_not.mp c688) sf_k8
            refine pm_R_lo pm_M192 (pc' := 98) rfl rfl rfl ?_
            refine pm_R_op pm_M192 (pc' := 99) (st' := [.int 3, .ref 41]) rfl rfl rfl ?_
            refine pm_R_lo pm_M192 (pc' := 100) rfl rfl rfl ?_
            refine pm_R_cv pm_M192 (pc' := 103) (a := 41) (ra := [.int a1, .int 3]) (rest := []) (ls' := [.ref 41, .int 3, .int a1]) rfl rfl (Or.inl rfl) pm_M182 T.2.1 rfl (by decide) (Nat.lt_of_lt_of_le (by decide) T.1) rfl rfl (Nat.le_of_ble_eq_true rfl) rfl rfl ?_
            refine rf_c182 (d := d + 2) T (sf_weak sf_k3 (by decide) (by decide)) Ba1 (fun m1003 w1004 h1005 T1006 F1007 W1008 B1009 => ?_)
            have F1010 := (rf_G.refl [41, 51, 52] h).trans F1007 (by decide)
            have B1011 : sf_B 0 600 (m1003 10) := by rw [W1008 10 (by decide)]; exact B1
            have ek1012 : (m1003 10).toInt = ((m 10)).toInt := by rw [W1008 10 (by decide)]
            have W1013 : rf_W [10, 12, 13, 14, 16, 17, 18, 22] m m1003 := (rf_W.refl [10, 12, 13, 14, 16, 17, 18, 22] m).trans W1008 (by decide)
            have B1014 : sf_B 0 4 (m1003 17) := T1006.2.2.1 17
            have B1015 : sf_B 0 1 (m1003 22) := T1006.2.2.1 22
            show pm_R _ 192 103 [.ref 41, .long a0, pm_no, .int a1, .int 3] [] _ _
            refine pm_R_lo pm_M192 (pc' := 104) rfl rfl rfl ?_
            refine pm_R_cv pm_M192 (pc' := 107) (a := 41) (ra := []) (rest := []) (ls' := [.ref 41, pm_no, pm_no]) rfl rfl (Or.inl rfl) pm_M179 T1006.2.1 rfl (by decide) (Nat.lt_of_lt_of_le (by decide) T1006.1) rfl rfl (Nat.le_of_ble_eq_true rfl) rfl rfl ?_
            refine rf_c179 (d := d + 1) T1006  (fun m1018 w1019 h1020 T1021 F1022 W1023 X1024 X1025 => ?_)
            have F1026 := F1010.trans F1022 (by decide)
            have B1027 : sf_B 1 4 (m1018 17) := by rw [W1023 17 (by decide)]; exact B1009
            have ek1028 : (m1018 17).toInt = ((m1003 17)).toInt := by rw [W1023 17 (by decide)]
            have B1029 : sf_B 0 1 (m1018 22) := by rw [W1023 22 (by decide)]; exact B1015
            have ek1030 : (m1018 22).toInt = ((m1003 22)).toInt := by rw [W1023 22 (by decide)]
            have W1031 : rf_W [10, 12, 13, 14, 16, 17, 18, 22] m m1018 := W1013.trans W1023 (by decide)
            have B1032 : sf_B 0 600 (m1018 10) := T1021.2.2.1 10
            show pm_R _ 192 107 [.ref 41, .long a0, pm_no, .int a1, .int 3] [] _ _
            have R1033 : (m 10).toInt ≤ (m1018 10).toInt := (sf_aux53 _ _ _ ek1012 X1024)
            refine pm_R_lo pm_M192 (pc' := 108) rfl rfl rfl ?_
            refine pm_R_cv pm_M192 (pc' := 111) (a := 41) (ra := []) (rest := []) (ls' := [.ref 41, pm_no]) rfl rfl (Or.inl rfl) pm_M190 T1021.2.1 rfl (by decide) (Nat.lt_of_lt_of_le (by decide) T1021.1) rfl rfl (Nat.le_of_ble_eq_true rfl) rfl rfl ?_
            refine pm_R_op pm_M190 (pc' := 1) (st' := [.int 0]) rfl rfl rfl ?_
            refine pm_R_lo pm_M190 (pc' := 2) (ls' := [.ref 41, .int 0]) (st' := []) rfl rfl rfl ?_
            refine pm_R_lo pm_M190 (pc' := 3) rfl rfl rfl ?_
            refine pm_R_op pm_M190 (pc' := 4) (st' := [.int 4, .int 0]) rfl rfl rfl ?_
            refine pm_R_br pm_M190 (pc' := 7) (st' := []) rfl rfl ?_
            refine pm_R_lo pm_M190 (pc' := 8) rfl rfl rfl ?_
            refine rf_R_get pm_M190 T1021 (pc' := 11) (v := .ref 52) rfl rfl rfl rfl ?_
            refine pm_R_lo pm_M190 (pc' := 12) rfl rfl rfl ?_
            refine pm_R_op pm_M190 (pc' := 13) (st' := [.int (-1), .int 0, .ref 52]) rfl rfl rfl ?_
            obtain ⟨f1034, e1035, b1036⟩ := T1021.2.2.2.1 52 (by decide) (by decide)
            refine rf_R_ist pm_M190 T1021 (pc' := 14) rfl e1035 (by decide) (by decide) rfl ⟨_, rfl, sf_upd b1036 (sf_weak sf_kn1 (by decide) (by decide)) _⟩ rfl (fun h1037 T1038 F1039 e1040 => ?_)
            have F1041 := F1026.trans F1039 (by decide)
            refine pm_R_lo pm_M190 (pc' := 17) (ls' := [.ref 41, .int 1]) (st' := []) rfl rfl rfl ?_
            refine pm_R_br pm_M190 (pc' := 2) rfl rfl ?_
            refine pm_R_lo pm_M190 (pc' := 3) rfl rfl rfl ?_
            refine pm_R_op pm_M190 (pc' := 4) (st' := [.int 4, .int 1]) rfl rfl rfl ?_
            refine pm_R_br pm_M190 (pc' := 7) (st' := []) rfl rfl ?_
            refine pm_R_lo pm_M190 (pc' := 8) rfl rfl rfl ?_
            refine rf_R_get pm_M190 T1038 (pc' := 11) (v := .ref 52) rfl rfl rfl rfl ?_
            refine pm_R_lo pm_M190 (pc' := 12) rfl rfl rfl ?_
            refine pm_R_op pm_M190 (pc' := 13) (st' := [.int (-1), .int 1, .ref 52]) rfl rfl rfl ?_
            refine rf_R_ist pm_M190 T1038 (pc' := 14) rfl e1040 (by decide) (by decide) rfl ⟨_, rfl, sf_upd (sf_upd b1036 (sf_weak sf_kn1 (by decide) (by decide)) _) (sf_weak sf_kn1 (by decide) (by decide)) _⟩ rfl (fun h1042 T1043 F1044 e1045 => ?_)
            have F1046 := F1041.trans F1044 (by decide)
            refine pm_R_lo pm_M190 (pc' := 17) (ls' := [.ref 41, .int 2]) (st' := []) rfl rfl rfl ?_
            refine pm_R_br pm_M190 (pc' := 2) rfl rfl ?_
            refine pm_R_lo pm_M190 (pc' := 3) rfl rfl rfl ?_
            refine pm_R_op pm_M190 (pc' := 4) (st' := [.int 4, .int 2]) rfl rfl rfl ?_
            refine pm_R_br pm_M190 (pc' := 7) (st' := []) rfl rfl ?_
            refine pm_R_lo pm_M190 (pc' := 8) rfl rfl rfl ?_
            refine rf_R_get pm_M190 T1043 (pc' := 11) (v := .ref 52) rfl rfl rfl rfl ?_
            refine pm_R_lo pm_M190 (pc' := 12) rfl rfl rfl ?_
            refine pm_R_op pm_M190 (pc' := 13) (st' := [.int (-1), .int 2, .ref 52]) rfl rfl rfl ?_
            refine rf_R_ist pm_M190 T1043 (pc' := 14) rfl e1045 (by decide) (by decide) rfl ⟨_, rfl, sf_upd (sf_upd (sf_upd b1036 (sf_weak sf_kn1 (by decide) (by decide)) _) (sf_weak sf_kn1 (by decide) (by decide)) _) (sf_weak sf_kn1 (by decide) (by decide)) _⟩ rfl (fun h1047 T1048 F1049 e1050 => ?_)
            have F1051 := F1046.trans F1049 (by decide)
            refine pm_R_lo pm_M190 (pc' := 17) (ls' := [.ref 41, .int 3]) (st' := []) rfl rfl rfl ?_
            refine pm_R_br pm_M190 (pc' := 2) rfl rfl ?_
            refine pm_R_lo pm_M190 (pc' := 3) rfl rfl rfl ?_
            refine pm_R_op pm_M190 (pc' := 4) (st' := [.int 4, .int 3]) rfl rfl rfl ?_
            refine pm_R_br pm_M190 (pc' := 7) (st' := []) rfl rfl ?_
            refine pm_R_lo pm_M190 (pc' := 8) rfl rfl rfl ?_
            refine rf_R_get pm_M190 T1048 (pc' := 11) (v := .ref 52) rfl rfl rfl rfl ?_
            refine pm_R_lo pm_M190 (pc' := 12) rfl rfl rfl ?_
            refine pm_R_op pm_M190 (pc' := 13) (st' := [.int (-1), .int 3, .ref 52]) rfl rfl rfl ?_
            refine rf_R_ist pm_M190 T1048 (pc' := 14) rfl e1050 (by decide) (by decide) rfl ⟨_, rfl, sf_upd (sf_upd (sf_upd (sf_upd b1036 (sf_weak sf_kn1 (by decide) (by decide)) _) (sf_weak sf_kn1 (by decide) (by decide)) _) (sf_weak sf_kn1 (by decide) (by decide)) _) (sf_weak sf_kn1 (by decide) (by decide)) _⟩ rfl (fun h1052 T1053 F1054 e1055 => ?_)
            have F1056 := F1051.trans F1054 (by decide)
            refine pm_R_lo pm_M190 (pc' := 17) (ls' := [.ref 41, .int 4]) (st' := []) rfl rfl rfl ?_
            refine pm_R_br pm_M190 (pc' := 2) rfl rfl ?_
            refine pm_R_lo pm_M190 (pc' := 3) rfl rfl rfl ?_
            refine pm_R_op pm_M190 (pc' := 4) (st' := [.int 4, .int 4]) rfl rfl rfl ?_
            refine pm_R_br pm_M190 (pc' := 20) (st' := []) rfl rfl ?_
            refine pm_R_ret pm_M190 (r := none) rfl rfl ?_
            show pm_R _ 192 111 [.ref 41, .long a0, pm_no, .int a1, .int 3] [] _ _
            refine pm_R_lo pm_M192 (pc' := 112) rfl rfl rfl ?_
            refine rf_R_get pm_M192 T1053 (pc' := 115) (v := .ref 52) rfl rfl rfl rfl ?_
            refine pm_R_op pm_M192 (pc' := 116) (st' := [.int 0, .ref 52]) (pm_q192_1 (Nat.le_of_ble_eq_true rfl)) rfl rfl ?_
            refine pm_R_lo pm_M192 (pc' := 118) (pm_q192_1 (Nat.le_of_ble_eq_true rfl)) rfl rfl ?_
            refine rf_R_ist pm_M192 T1053 (pc' := 119) (pm_q192_1 (Nat.le_of_ble_eq_true rfl)) e1055 (by decide) (by decide) rfl ⟨_, rfl, sf_upd (sf_upd (sf_upd (sf_upd (sf_upd b1036 (sf_weak sf_kn1 (by decide) (by decide)) _) (sf_weak sf_kn1 (by decide) (by decide)) _) (sf_weak sf_kn1 (by decide) (by decide)) _) (sf_weak sf_kn1 (by decide) (by decide)) _) (sf_weak sf_k3 (by decide) (by decide)) _⟩ rfl (fun h1057 T1058 F1059 e1060 => ?_)
            have F1061 := F1056.trans F1059 (by decide)
            refine pm_R_lo pm_M192 (pc' := 120) (pm_q192_1 (Nat.le_of_ble_eq_true rfl)) rfl rfl ?_
            refine pm_R_op pm_M192 (pc' := 121) (st' := [.int 1, .ref 41]) (pm_q192_1 (Nat.le_of_ble_eq_true rfl)) rfl rfl ?_
            refine pm_R_op pm_M192 (pc' := 123) (st' := [.int 9, .int 1, .ref 41]) (pm_q192_1 (Nat.le_of_ble_eq_true rfl)) rfl rfl ?_
            refine pm_R_op pm_M192 (pc' := 124) (st' := [.int (-1), .int 9, .int 1, .ref 41]) (pm_q192_1 (Nat.le_of_ble_eq_true rfl)) rfl rfl ?_
            refine pm_R_cv pm_M192 (pc' := 127) (a := 41) (ra := [.int (-1), .int 9, .int 1]) (rest := []) (ls' := [.ref 41, .int 1, .int 9, .int (-1)]) (pm_q192_1 (Nat.le_of_ble_eq_true rfl)) rfl (Or.inl rfl) pm_M183 T1058.2.1 rfl (by decide) (Nat.lt_of_lt_of_le (by decide) T1058.1) rfl rfl (Nat.le_of_ble_eq_true rfl) rfl rfl ?_
            refine rf_c183_1_9 (d := d + 0) T1058  (fun m1064 w1065 h1066 T1067 F1068 W1069 X1070 => ?_) (fun m1073 w1074 h1075 T1076 F1077 W1078 X1079 X1080 X1081 X1082 X1083 => ?_) (fun m1086 w1087 h1088 T1089 F1090 W1091 X1092 X1093 X1094 B1095 B1096 => ?_)
            · have F1097 := F1061.trans F1068 (by decide)
              have W1098 : rf_W [10, 12, 13, 14, 16, 17, 18, 22] m m1064 := W1031.trans W1069 (by decide)
              have B1099 : sf_B 0 600 (m1064 10) := T1067.2.2.1 10
              have B1100 : sf_B 0 4 (m1064 17) := T1067.2.2.1 17
              have B1101 : sf_B 0 1 (m1064 22) := T1067.2.2.1 22
              show pm_R _ 192 127 [.ref 41, .long a0, pm_no, .int a1, .int 3] [.int 0] _ _
              have R1102 : (m 10).toInt ≤ (m1064 10).toInt := (sf_aux70 _ _ _ R1033 X1070)
              refine pm_R_br pm_M192 (pc' := 130) (st' := []) (pm_q192_1 (Nat.le_of_ble_eq_true rfl)) rfl ?_
              refine pm_R_op pm_M192 (pc' := 131) (st' := [.int 0]) (pm_q192_1 (Nat.le_of_ble_eq_true rfl)) rfl rfl ?_
              exact pm_R_ret pm_M192 (r := some (.int 0)) (pm_q192_1 (Nat.le_of_ble_eq_true rfl)) rfl (K0 m1064 w1065 h1066 T1067 F1097 W1098 (sf_aux51 _ _ R1102))
            · have F1103 := F1061.trans F1077 (by decide)
              have W1104 : rf_W [10, 12, 13, 14, 16, 17, 18, 22] m m1073 := W1031.trans W1078 (by decide)
              have B1105 : sf_B 0 600 (m1073 10) := T1076.2.2.1 10
              have B1106 : sf_B 0 4 (m1073 17) := T1076.2.2.1 17
              have B1107 : sf_B 0 1 (m1073 22) := T1076.2.2.1 22
              show pm_R _ 192 127 [.ref 41, .long a0, pm_no, .int a1, .int 3] [.int 1] _ _
              have R1108 : (m 10).toInt ≤ (m1073 10).toInt := (sf_aux70 _ _ _ R1033 X1083)
              obtain ⟨v1109, B1110, e1111⟩ := X1079 _ e1060
              refine pm_R_br pm_M192 (pc' := 132) (st' := []) (pm_q192_1 (Nat.le_of_ble_eq_true rfl)) rfl ?_
              refine pm_R_lo pm_M192 (pc' := 134) (pm_q192_1 (Nat.le_of_ble_eq_true rfl)) rfl rfl ?_
              refine pm_R_op pm_M192 (pc' := 135) (st' := [.int 1, .int 3]) (pm_q192_1 (Nat.le_of_ble_eq_true rfl)) rfl rfl ?_
              refine pm_R_br pm_M192 (pc' := 138) (st' := []) (pm_q192_1 (Nat.le_of_ble_eq_true rfl)) rfl ?_
              refine pm_R_lo pm_M192 (pc' := 140) (pm_q192_1 (Nat.le_of_ble_eq_true rfl)) rfl rfl ?_
              refine pm_R_op pm_M192 (pc' := 141) (st' := [.int 2, .int 3]) (pm_q192_1 (Nat.le_of_ble_eq_true rfl)) rfl rfl ?_
              refine pm_R_br pm_M192 (pc' := 144) (st' := []) (pm_q192_1 (Nat.le_of_ble_eq_true rfl)) rfl ?_
              refine pm_R_lo pm_M192 (pc' := 146) (pm_q192_1 (Nat.le_of_ble_eq_true rfl)) rfl rfl ?_
              refine pm_R_op pm_M192 (pc' := 147) (st' := [.int 3, .int 3]) (pm_q192_1 (Nat.le_of_ble_eq_true rfl)) rfl rfl ?_
              refine pm_R_br pm_M192 (pc' := 150) (st' := []) (pm_q192_1 (Nat.le_of_ble_eq_true rfl)) rfl ?_
              refine pm_R_lo pm_M192 (pc' := 151) (pm_q192_1 (Nat.le_of_ble_eq_true rfl)) rfl rfl ?_
              refine pm_R_op pm_M192 (pc' := 152) (st' := [.int 2, .ref 41]) (pm_q192_1 (Nat.le_of_ble_eq_true rfl)) rfl rfl ?_
              refine pm_R_op pm_M192 (pc' := 154) (st' := [.int 9, .int 2, .ref 41]) (pm_q192_1 (Nat.le_of_ble_eq_true rfl)) rfl rfl ?_
              refine pm_R_op pm_M192 (pc' := 155) (st' := [.int (-1), .int 9, .int 2, .ref 41]) (pm_q192_1 (Nat.le_of_ble_eq_true rfl)) rfl rfl ?_
              refine pm_R_cv pm_M192 (pc' := 158) (a := 41) (ra := [.int (-1), .int 9, .int 2]) (rest := []) (ls' := [.ref 41, .int 2, .int 9, .int (-1)]) (pm_q192_1 (Nat.le_of_ble_eq_true rfl)) rfl (Or.inl rfl) pm_M183 T1076.2.1 rfl (by decide) (Nat.lt_of_lt_of_le (by decide) T1076.1) rfl rfl (Nat.le_of_ble_eq_true rfl) rfl rfl ?_
              refine rf_c183_2_9 (d := d + 0) T1076  (fun m1114 w1115 h1116 T1117 F1118 W1119 X1120 => ?_) (fun m1123 w1124 h1125 T1126 F1127 W1128 X1129 X1130 X1131 X1132 X1133 => ?_) (fun m1136 w1137 h1138 T1139 F1140 W1141 X1142 X1143 X1144 B1145 B1146 => ?_)
              · have F1147 := F1103.trans F1118 (by decide)
                have W1148 : rf_W [10, 12, 13, 14, 16, 17, 18, 22] m m1114 := W1104.trans W1119 (by decide)
                have B1149 : sf_B 0 600 (m1114 10) := T1117.2.2.1 10
                have B1150 : sf_B 0 4 (m1114 17) := T1117.2.2.1 17
                have B1151 : sf_B 0 1 (m1114 22) := T1117.2.2.1 22
                show pm_R _ 192 158 [.ref 41, .long a0, pm_no, .int a1, .int 3] [.int 0] _ _
                have R1152 : (m 10).toInt ≤ (m1114 10).toInt := (sf_aux70 _ _ _ R1108 X1120)
                refine pm_R_br pm_M192 (pc' := 161) (st' := []) (pm_q192_1 (Nat.le_of_ble_eq_true rfl)) rfl ?_
                refine pm_R_op pm_M192 (pc' := 162) (st' := [.int 0]) (pm_q192_1 (Nat.le_of_ble_eq_true rfl)) rfl rfl ?_
                exact pm_R_ret pm_M192 (r := some (.int 0)) (pm_q192_1 (Nat.le_of_ble_eq_true rfl)) rfl (K0 m1114 w1115 h1116 T1117 F1147 W1148 (sf_aux51 _ _ R1152))
              · have F1153 := F1103.trans F1127 (by decide)
                have W1154 : rf_W [10, 12, 13, 14, 16, 17, 18, 22] m m1123 := W1104.trans W1128 (by decide)
                have B1155 : sf_B 0 600 (m1123 10) := T1126.2.2.1 10
                have B1156 : sf_B 0 4 (m1123 17) := T1126.2.2.1 17
                have B1157 : sf_B 0 1 (m1123 22) := T1126.2.2.1 22
                show pm_R _ 192 158 [.ref 41, .long a0, pm_no, .int a1, .int 3] [.int 1] _ _
                have R1158 : (m 10).toInt ≤ (m1123 10).toInt := (sf_aux70 _ _ _ R1108 X1133)
                obtain ⟨v1159, B1160, e1161⟩ := X1129 _ e1111
                refine pm_R_br pm_M192 (pc' := 163) (st' := []) (pm_q192_1 (Nat.le_of_ble_eq_true rfl)) rfl ?_
                refine pm_R_lo pm_M192 (pc' := 164) (pm_q192_1 (Nat.le_of_ble_eq_true rfl)) rfl rfl ?_
                refine pm_R_op pm_M192 (pc' := 165) (st' := [.int 0, .ref 41]) (pm_q192_1 (Nat.le_of_ble_eq_true rfl)) rfl rfl ?_
                refine pm_R_op pm_M192 (pc' := 166) (st' := [.int 1, .int 0, .ref 41]) (pm_q192_1 (Nat.le_of_ble_eq_true rfl)) rfl rfl ?_
                refine pm_R_op pm_M192 (pc' := 167) (st' := [.int 3, .int 1, .int 0, .ref 41]) (pm_q192_1 (Nat.le_of_ble_eq_true rfl)) rfl rfl ?_
                refine pm_R_op pm_M192 (pc' := 169) (st' := [.int 8, .int 3, .int 1, .int 0, .ref 41]) (pm_q192_1 (Nat.le_of_ble_eq_true rfl)) rfl rfl ?_
                refine pm_R_op pm_M192 (pc' := 170) (st' := [.int 0, .int 8, .int 3, .int 1, .int 0, .ref 41]) (pm_q192_1 (Nat.le_of_ble_eq_true rfl)) rfl rfl ?_
                refine pm_R_cv pm_M192 (pc' := 173) (a := 41) (ra := [.int 0, .int 8, .int 3, .int 1, .int 0]) (rest := []) (ls' := [.ref 41, .int 0, .int 1, .int 3, .int 8, .int 0, pm_no, pm_no]) (pm_q192_1 (Nat.le_of_ble_eq_true rfl)) rfl (Or.inl rfl) pm_M185 T1126.2.1 rfl (by decide) (Nat.lt_of_lt_of_le (by decide) T1126.1) rfl rfl (Nat.le_of_ble_eq_true rfl) rfl rfl ?_
                have e1162 := (F1127.cell (by decide) (F1077.cell (by decide) (F1059.cell (by decide) (F1054.cell (by decide) (F1049.cell (by decide) (F1044.cell (by decide) (F1039.cell (by decide) (F1022.cell (by decide) (F1007.cell (by decide) e3)))))))))
                refine rf_c185_l (d := d + 2) T1126 (⟨f2, e1162, ct4, fun z => (sf_pos (sf_eqT X1130 (sf_eqT X1080 B1027)) (by decide) z)⟩) (fun z => sf_pos (sf_eqT X1130 (sf_eqT X1080 B1027)) (by decide) z) (fun m1165 w1166 h1167 T1168 F1169 W1170 X1171 => ?_)
                have F1172 := F1153.trans F1169 (by decide)
                have B1173 : sf_B 0 600 (m1165 10) := by rw [W1170 10 (by decide)]; exact B1155
                have ek1174 : (m1165 10).toInt = ((m1123 10)).toInt := by rw [W1170 10 (by decide)]
                have B1175 : sf_B 1 4 (m1165 17) := by rw [W1170 17 (by decide)]; exact (sf_eqT X1130 (sf_eqT X1080 B1027))
                have ek1176 : (m1165 17).toInt = ((m1073 17)).toInt := by rw [W1170 17 (by decide)]; exact X1130
                have B1177 : sf_B 0 1 (m1165 22) := by rw [W1170 22 (by decide)]; exact (sf_eqT X1131 (sf_eqT X1081 B1029))
                have ek1178 : (m1165 22).toInt = ((m1073 22)).toInt := by rw [W1170 22 (by decide)]; exact X1131
                have W1179 : rf_W [10, 12, 13, 14, 16, 17, 18, 22] m m1165 := W1154.trans W1170 (by decide)
                show pm_R _ 192 173 [.ref 41, .long a0, pm_no, .int a1, .int 3] [] _ _
                obtain ⟨f1180, e1181, ct1182, bd1183⟩ := X1171
                refine pm_R_op pm_M192 (pc' := 174) (st' := [.int 1]) (pm_q192_1 (Nat.le_of_ble_eq_true rfl)) rfl rfl ?_
                exact pm_R_ret pm_M192 (r := some (.int 1)) (pm_q192_1 (Nat.le_of_ble_eq_true rfl)) rfl (K1 m1165 w1166 h1167 T1168 F1172 W1179 (⟨f1180, e1181, ct1182, fun z => (sf_pos B1175 (by decide) z)⟩) (sf_aux39 _ _ _ ek1174 R1158))
              · have F1184 := F1103.trans F1140 (by decide)
                have W1185 : rf_W [10, 12, 13, 14, 16, 17, 18, 22] m m1136 := W1104.trans W1141 (by decide)
                have B1186 : sf_B 0 600 (m1136 10) := T1139.2.2.1 10
                have B1187 : sf_B 0 4 (m1136 17) := T1139.2.2.1 17
                have B1188 : sf_B 0 1 (m1136 22) := T1139.2.2.1 22
                show pm_R _ 192 158 [.ref 41, .long a0, pm_no, .int a1, .int 3] [.int 1] _ _
                have R1189 : (m 10).toInt ≤ (m1136 10).toInt := (sf_aux70 _ _ _ R1108 X1144)
                obtain ⟨v1190, B1191, e1192⟩ := X1142 _ e1111
                refine pm_R_br pm_M192 (pc' := 163) (st' := []) (pm_q192_1 (Nat.le_of_ble_eq_true rfl)) rfl ?_
                refine pm_R_lo pm_M192 (pc' := 164) (pm_q192_1 (Nat.le_of_ble_eq_true rfl)) rfl rfl ?_
                refine pm_R_op pm_M192 (pc' := 165) (st' := [.int 0, .ref 41]) (pm_q192_1 (Nat.le_of_ble_eq_true rfl)) rfl rfl ?_
                refine pm_R_op pm_M192 (pc' := 166) (st' := [.int 1, .int 0, .ref 41]) (pm_q192_1 (Nat.le_of_ble_eq_true rfl)) rfl rfl ?_
                refine pm_R_op pm_M192 (pc' := 167) (st' := [.int 3, .int 1, .int 0, .ref 41]) (pm_q192_1 (Nat.le_of_ble_eq_true rfl)) rfl rfl ?_
                refine pm_R_op pm_M192 (pc' := 169) (st' := [.int 8, .int 3, .int 1, .int 0, .ref 41]) (pm_q192_1 (Nat.le_of_ble_eq_true rfl)) rfl rfl ?_
                refine pm_R_op pm_M192 (pc' := 170) (st' := [.int 0, .int 8, .int 3, .int 1, .int 0, .ref 41]) (pm_q192_1 (Nat.le_of_ble_eq_true rfl)) rfl rfl ?_
                refine pm_R_cv pm_M192 (pc' := 173) (a := 41) (ra := [.int 0, .int 8, .int 3, .int 1, .int 0]) (rest := []) (ls' := [.ref 41, .int 0, .int 1, .int 3, .int 8, .int 0, pm_no, pm_no]) (pm_q192_1 (Nat.le_of_ble_eq_true rfl)) rfl (Or.inl rfl) pm_M185 T1139.2.1 rfl (by decide) (Nat.lt_of_lt_of_le (by decide) T1139.1) rfl rfl (Nat.le_of_ble_eq_true rfl) rfl rfl ?_
                have e1193 := (F1140.cell (by decide) (F1077.cell (by decide) (F1059.cell (by decide) (F1054.cell (by decide) (F1049.cell (by decide) (F1044.cell (by decide) (F1039.cell (by decide) (F1022.cell (by decide) (F1007.cell (by decide) e3)))))))))
                refine rf_c185_l (d := d + 2) T1139 (⟨f2, e1193, ct4, fun z => (sf_pos B1145 (by decide) z)⟩) (fun z => sf_pos B1145 (by decide) z) (fun m1196 w1197 h1198 T1199 F1200 W1201 X1202 => ?_)
                have F1203 := F1184.trans F1200 (by decide)
                have B1204 : sf_B 0 600 (m1196 10) := by rw [W1201 10 (by decide)]; exact B1186
                have ek1205 : (m1196 10).toInt = ((m1136 10)).toInt := by rw [W1201 10 (by decide)]
                have B1206 : sf_B 1 4 (m1196 17) := by rw [W1201 17 (by decide)]; exact B1145
                have ek1207 : (m1196 17).toInt = ((m1136 17)).toInt := by rw [W1201 17 (by decide)]
                have B1208 : sf_B 0 0 (m1196 22) := by rw [W1201 22 (by decide)]; exact B1146
                have ek1209 : (m1196 22).toInt = ((m1136 22)).toInt := by rw [W1201 22 (by decide)]
                have W1210 : rf_W [10, 12, 13, 14, 16, 17, 18, 22] m m1196 := W1185.trans W1201 (by decide)
                show pm_R _ 192 173 [.ref 41, .long a0, pm_no, .int a1, .int 3] [] _ _
                obtain ⟨f1211, e1212, ct1213, bd1214⟩ := X1202
                refine pm_R_op pm_M192 (pc' := 174) (st' := [.int 1]) (pm_q192_1 (Nat.le_of_ble_eq_true rfl)) rfl rfl ?_
                exact pm_R_ret pm_M192 (r := some (.int 1)) (pm_q192_1 (Nat.le_of_ble_eq_true rfl)) rfl (K1 m1196 w1197 h1198 T1199 F1203 W1210 (⟨f1211, e1212, ct1213, fun z => (sf_pos B1206 (by decide) z)⟩) (sf_aux39 _ _ _ ek1205 R1189))
            · have F1215 := F1061.trans F1090 (by decide)
              have W1216 : rf_W [10, 12, 13, 14, 16, 17, 18, 22] m m1086 := W1031.trans W1091 (by decide)
              have B1217 : sf_B 0 600 (m1086 10) := T1089.2.2.1 10
              have B1218 : sf_B 0 4 (m1086 17) := T1089.2.2.1 17
              have B1219 : sf_B 0 1 (m1086 22) := T1089.2.2.1 22
              show pm_R _ 192 127 [.ref 41, .long a0, pm_no, .int a1, .int 3] [.int 1] _ _
              have R1220 : (m 10).toInt ≤ (m1086 10).toInt := (sf_aux70 _ _ _ R1033 X1094)
              obtain ⟨v1221, B1222, e1223⟩ := X1092 _ e1060
              refine pm_R_br pm_M192 (pc' := 132) (st' := []) (pm_q192_1 (Nat.le_of_ble_eq_true rfl)) rfl ?_
              refine pm_R_lo pm_M192 (pc' := 134) (pm_q192_1 (Nat.le_of_ble_eq_true rfl)) rfl rfl ?_
              refine pm_R_op pm_M192 (pc' := 135) (st' := [.int 1, .int 3]) (pm_q192_1 (Nat.le_of_ble_eq_true rfl)) rfl rfl ?_
              refine pm_R_br pm_M192 (pc' := 138) (st' := []) (pm_q192_1 (Nat.le_of_ble_eq_true rfl)) rfl ?_
              refine pm_R_lo pm_M192 (pc' := 140) (pm_q192_1 (Nat.le_of_ble_eq_true rfl)) rfl rfl ?_
              refine pm_R_op pm_M192 (pc' := 141) (st' := [.int 2, .int 3]) (pm_q192_1 (Nat.le_of_ble_eq_true rfl)) rfl rfl ?_
              refine pm_R_br pm_M192 (pc' := 144) (st' := []) (pm_q192_1 (Nat.le_of_ble_eq_true rfl)) rfl ?_
              refine pm_R_lo pm_M192 (pc' := 146) (pm_q192_1 (Nat.le_of_ble_eq_true rfl)) rfl rfl ?_
              refine pm_R_op pm_M192 (pc' := 147) (st' := [.int 3, .int 3]) (pm_q192_1 (Nat.le_of_ble_eq_true rfl)) rfl rfl ?_
              refine pm_R_br pm_M192 (pc' := 150) (st' := []) (pm_q192_1 (Nat.le_of_ble_eq_true rfl)) rfl ?_
              refine pm_R_lo pm_M192 (pc' := 151) (pm_q192_1 (Nat.le_of_ble_eq_true rfl)) rfl rfl ?_
              refine pm_R_op pm_M192 (pc' := 152) (st' := [.int 2, .ref 41]) (pm_q192_1 (Nat.le_of_ble_eq_true rfl)) rfl rfl ?_
              refine pm_R_op pm_M192 (pc' := 154) (st' := [.int 9, .int 2, .ref 41]) (pm_q192_1 (Nat.le_of_ble_eq_true rfl)) rfl rfl ?_
              refine pm_R_op pm_M192 (pc' := 155) (st' := [.int (-1), .int 9, .int 2, .ref 41]) (pm_q192_1 (Nat.le_of_ble_eq_true rfl)) rfl rfl ?_
              refine pm_R_cv pm_M192 (pc' := 158) (a := 41) (ra := [.int (-1), .int 9, .int 2]) (rest := []) (ls' := [.ref 41, .int 2, .int 9, .int (-1)]) (pm_q192_1 (Nat.le_of_ble_eq_true rfl)) rfl (Or.inl rfl) pm_M183 T1089.2.1 rfl (by decide) (Nat.lt_of_lt_of_le (by decide) T1089.1) rfl rfl (Nat.le_of_ble_eq_true rfl) rfl rfl ?_
              refine rf_c183_2_9 (d := d + 0) T1089  (fun m1226 w1227 h1228 T1229 F1230 W1231 X1232 => ?_) (fun m1235 w1236 h1237 T1238 F1239 W1240 X1241 X1242 X1243 X1244 X1245 => ?_) (fun m1248 w1249 h1250 T1251 F1252 W1253 X1254 X1255 X1256 B1257 B1258 => ?_)
              · have F1259 := F1215.trans F1230 (by decide)
                have W1260 : rf_W [10, 12, 13, 14, 16, 17, 18, 22] m m1226 := W1216.trans W1231 (by decide)
                have B1261 : sf_B 0 600 (m1226 10) := T1229.2.2.1 10
                have B1262 : sf_B 0 4 (m1226 17) := T1229.2.2.1 17
                have B1263 : sf_B 0 1 (m1226 22) := T1229.2.2.1 22
                show pm_R _ 192 158 [.ref 41, .long a0, pm_no, .int a1, .int 3] [.int 0] _ _
                have R1264 : (m 10).toInt ≤ (m1226 10).toInt := (sf_aux70 _ _ _ R1220 X1232)
                refine pm_R_br pm_M192 (pc' := 161) (st' := []) (pm_q192_1 (Nat.le_of_ble_eq_true rfl)) rfl ?_
                refine pm_R_op pm_M192 (pc' := 162) (st' := [.int 0]) (pm_q192_1 (Nat.le_of_ble_eq_true rfl)) rfl rfl ?_
                exact pm_R_ret pm_M192 (r := some (.int 0)) (pm_q192_1 (Nat.le_of_ble_eq_true rfl)) rfl (K0 m1226 w1227 h1228 T1229 F1259 W1260 (sf_aux51 _ _ R1264))
              · have F1265 := F1215.trans F1239 (by decide)
                have W1266 : rf_W [10, 12, 13, 14, 16, 17, 18, 22] m m1235 := W1216.trans W1240 (by decide)
                have B1267 : sf_B 0 600 (m1235 10) := T1238.2.2.1 10
                have B1268 : sf_B 0 4 (m1235 17) := T1238.2.2.1 17
                have B1269 : sf_B 0 1 (m1235 22) := T1238.2.2.1 22
                show pm_R _ 192 158 [.ref 41, .long a0, pm_no, .int a1, .int 3] [.int 1] _ _
                have R1270 : (m 10).toInt ≤ (m1235 10).toInt := (sf_aux70 _ _ _ R1220 X1245)
                obtain ⟨v1271, B1272, e1273⟩ := X1241 _ e1223
                refine pm_R_br pm_M192 (pc' := 163) (st' := []) (pm_q192_1 (Nat.le_of_ble_eq_true rfl)) rfl ?_
                refine pm_R_lo pm_M192 (pc' := 164) (pm_q192_1 (Nat.le_of_ble_eq_true rfl)) rfl rfl ?_
                refine pm_R_op pm_M192 (pc' := 165) (st' := [.int 0, .ref 41]) (pm_q192_1 (Nat.le_of_ble_eq_true rfl)) rfl rfl ?_
                refine pm_R_op pm_M192 (pc' := 166) (st' := [.int 1, .int 0, .ref 41]) (pm_q192_1 (Nat.le_of_ble_eq_true rfl)) rfl rfl ?_
                refine pm_R_op pm_M192 (pc' := 167) (st' := [.int 3, .int 1, .int 0, .ref 41]) (pm_q192_1 (Nat.le_of_ble_eq_true rfl)) rfl rfl ?_
                refine pm_R_op pm_M192 (pc' := 169) (st' := [.int 8, .int 3, .int 1, .int 0, .ref 41]) (pm_q192_1 (Nat.le_of_ble_eq_true rfl)) rfl rfl ?_
                refine pm_R_op pm_M192 (pc' := 170) (st' := [.int 0, .int 8, .int 3, .int 1, .int 0, .ref 41]) (pm_q192_1 (Nat.le_of_ble_eq_true rfl)) rfl rfl ?_
                refine pm_R_cv pm_M192 (pc' := 173) (a := 41) (ra := [.int 0, .int 8, .int 3, .int 1, .int 0]) (rest := []) (ls' := [.ref 41, .int 0, .int 1, .int 3, .int 8, .int 0, pm_no, pm_no]) (pm_q192_1 (Nat.le_of_ble_eq_true rfl)) rfl (Or.inl rfl) pm_M185 T1238.2.1 rfl (by decide) (Nat.lt_of_lt_of_le (by decide) T1238.1) rfl rfl (Nat.le_of_ble_eq_true rfl) rfl rfl ?_
                have e1274 := (F1239.cell (by decide) (F1090.cell (by decide) (F1059.cell (by decide) (F1054.cell (by decide) (F1049.cell (by decide) (F1044.cell (by decide) (F1039.cell (by decide) (F1022.cell (by decide) (F1007.cell (by decide) e3)))))))))
                refine rf_c185_l (d := d + 2) T1238 (⟨f2, e1274, ct4, fun z => (sf_pos (sf_eqT X1242 B1095) (by decide) z)⟩) (fun z => sf_pos (sf_eqT X1242 B1095) (by decide) z) (fun m1277 w1278 h1279 T1280 F1281 W1282 X1283 => ?_)
                have F1284 := F1265.trans F1281 (by decide)
                have B1285 : sf_B 0 600 (m1277 10) := by rw [W1282 10 (by decide)]; exact B1267
                have ek1286 : (m1277 10).toInt = ((m1235 10)).toInt := by rw [W1282 10 (by decide)]
                have B1287 : sf_B 1 4 (m1277 17) := by rw [W1282 17 (by decide)]; exact (sf_eqT X1242 B1095)
                have ek1288 : (m1277 17).toInt = ((m1086 17)).toInt := by rw [W1282 17 (by decide)]; exact X1242
                have B1289 : sf_B 0 0 (m1277 22) := by rw [W1282 22 (by decide)]; exact (sf_eqT X1243 B1096)
                have ek1290 : (m1277 22).toInt = ((m1086 22)).toInt := by rw [W1282 22 (by decide)]; exact X1243
                have W1291 : rf_W [10, 12, 13, 14, 16, 17, 18, 22] m m1277 := W1266.trans W1282 (by decide)
                show pm_R _ 192 173 [.ref 41, .long a0, pm_no, .int a1, .int 3] [] _ _
                obtain ⟨f1292, e1293, ct1294, bd1295⟩ := X1283
                refine pm_R_op pm_M192 (pc' := 174) (st' := [.int 1]) (pm_q192_1 (Nat.le_of_ble_eq_true rfl)) rfl rfl ?_
                exact pm_R_ret pm_M192 (r := some (.int 1)) (pm_q192_1 (Nat.le_of_ble_eq_true rfl)) rfl (K1 m1277 w1278 h1279 T1280 F1284 W1291 (⟨f1292, e1293, ct1294, fun z => (sf_pos B1287 (by decide) z)⟩) (sf_aux39 _ _ _ ek1286 R1270))
              · have F1296 := F1215.trans F1252 (by decide)
                have W1297 : rf_W [10, 12, 13, 14, 16, 17, 18, 22] m m1248 := W1216.trans W1253 (by decide)
                have B1298 : sf_B 0 600 (m1248 10) := T1251.2.2.1 10
                have B1299 : sf_B 0 4 (m1248 17) := T1251.2.2.1 17
                have B1300 : sf_B 0 1 (m1248 22) := T1251.2.2.1 22
                show pm_R _ 192 158 [.ref 41, .long a0, pm_no, .int a1, .int 3] [.int 1] _ _
                have R1301 : (m 10).toInt ≤ (m1248 10).toInt := (sf_aux70 _ _ _ R1220 X1256)
                obtain ⟨v1302, B1303, e1304⟩ := X1254 _ e1223
                refine pm_R_br pm_M192 (pc' := 163) (st' := []) (pm_q192_1 (Nat.le_of_ble_eq_true rfl)) rfl ?_
                refine pm_R_lo pm_M192 (pc' := 164) (pm_q192_1 (Nat.le_of_ble_eq_true rfl)) rfl rfl ?_
                refine pm_R_op pm_M192 (pc' := 165) (st' := [.int 0, .ref 41]) (pm_q192_1 (Nat.le_of_ble_eq_true rfl)) rfl rfl ?_
                refine pm_R_op pm_M192 (pc' := 166) (st' := [.int 1, .int 0, .ref 41]) (pm_q192_1 (Nat.le_of_ble_eq_true rfl)) rfl rfl ?_
                refine pm_R_op pm_M192 (pc' := 167) (st' := [.int 3, .int 1, .int 0, .ref 41]) (pm_q192_1 (Nat.le_of_ble_eq_true rfl)) rfl rfl ?_
                refine pm_R_op pm_M192 (pc' := 169) (st' := [.int 8, .int 3, .int 1, .int 0, .ref 41]) (pm_q192_1 (Nat.le_of_ble_eq_true rfl)) rfl rfl ?_
                refine pm_R_op pm_M192 (pc' := 170) (st' := [.int 0, .int 8, .int 3, .int 1, .int 0, .ref 41]) (pm_q192_1 (Nat.le_of_ble_eq_true rfl)) rfl rfl ?_
                refine pm_R_cv pm_M192 (pc' := 173) (a := 41) (ra := [.int 0, .int 8, .int 3, .int 1, .int 0]) (rest := []) (ls' := [.ref 41, .int 0, .int 1, .int 3, .int 8, .int 0, pm_no, pm_no]) (pm_q192_1 (Nat.le_of_ble_eq_true rfl)) rfl (Or.inl rfl) pm_M185 T1251.2.1 rfl (by decide) (Nat.lt_of_lt_of_le (by decide) T1251.1) rfl rfl (Nat.le_of_ble_eq_true rfl) rfl rfl ?_
                have e1305 := (F1252.cell (by decide) (F1090.cell (by decide) (F1059.cell (by decide) (F1054.cell (by decide) (F1049.cell (by decide) (F1044.cell (by decide) (F1039.cell (by decide) (F1022.cell (by decide) (F1007.cell (by decide) e3)))))))))
                refine rf_c185_l (d := d + 2) T1251 (⟨f2, e1305, ct4, fun z => (sf_pos B1257 (by decide) z)⟩) (fun z => sf_pos B1257 (by decide) z) (fun m1308 w1309 h1310 T1311 F1312 W1313 X1314 => ?_)
                have F1315 := F1296.trans F1312 (by decide)
                have B1316 : sf_B 0 600 (m1308 10) := by rw [W1313 10 (by decide)]; exact B1298
                have ek1317 : (m1308 10).toInt = ((m1248 10)).toInt := by rw [W1313 10 (by decide)]
                have B1318 : sf_B 1 4 (m1308 17) := by rw [W1313 17 (by decide)]; exact B1257
                have ek1319 : (m1308 17).toInt = ((m1248 17)).toInt := by rw [W1313 17 (by decide)]
                have B1320 : sf_B 0 0 (m1308 22) := by rw [W1313 22 (by decide)]; exact B1258
                have ek1321 : (m1308 22).toInt = ((m1248 22)).toInt := by rw [W1313 22 (by decide)]
                have W1322 : rf_W [10, 12, 13, 14, 16, 17, 18, 22] m m1308 := W1297.trans W1313 (by decide)
                show pm_R _ 192 173 [.ref 41, .long a0, pm_no, .int a1, .int 3] [] _ _
                obtain ⟨f1323, e1324, ct1325, bd1326⟩ := X1314
                refine pm_R_op pm_M192 (pc' := 174) (st' := [.int 1]) (pm_q192_1 (Nat.le_of_ble_eq_true rfl)) rfl rfl ?_
                exact pm_R_ret pm_M192 (r := some (.int 1)) (pm_q192_1 (Nat.le_of_ble_eq_true rfl)) rfl (K1 m1308 w1309 h1310 T1311 F1315 W1322 (⟨f1323, e1324, ct1325, fun z => (sf_pos B1318 (by decide) z)⟩) (sf_aux39 _ _ _ ek1317 R1301))
      · have B1327 : sf_B 0 0 z15 := sf_eqL (Classical.not_not.mp c17) sf_k0
        have B1328 : lf_B 478660552050 478660552050 a0 := lf_eqB e16 B1327 (⟨by decide, by decide⟩ : lf_B 478660552050 478660552050 478660552050)
        refine pm_R_op pm_M192 (pc' := 33) (st' := [.int 2]) rfl rfl rfl ?_
        refine pm_R_br pm_M192 (pc' := 73) rfl rfl ?_
        refine pm_R_lo pm_M192 (pc' := 75) (ls' := [.ref 41, .long a0, pm_no, .int a1, .int 2]) (st' := []) rfl rfl rfl ?_
        refine pm_R_lo pm_M192 (pc' := 77) rfl rfl rfl ?_
        refine pm_R_op pm_M192 (pc' := 78) (st' := [.int (-1), .int 2]) rfl rfl rfl ?_
        refine pm_R_br pm_M192 (pc' := 86) (st' := []) rfl rfl ?_
        refine pm_R_lo pm_M192 (pc' := 87) rfl rfl rfl ?_
        refine rf_R_get pm_M192 T (pc' := 90) (v := .ref 51) rfl rfl rfl rfl ?_
        refine pm_R_op pm_M192 (pc' := 91) (st' := [.int 0, .ref 51]) rfl rfl rfl ?_
        refine pm_R_iald pm_M192 (pc' := 92) (v := (f2 0)) rfl e3 (Nat.lt_of_lt_of_le (by decide) T.1) rfl rfl rfl ?_
        refine pm_R_op pm_M192 (pc' := 94) (st' := [.int 8, .int (f2 0)]) rfl rfl rfl ?_
        refine pm_R_icmp pm_M192 (t := 103) (pc' := 97) rfl rfl rfl (fun c1331 => ?_) (fun c1331 => ?_)
        · have B1332 : sf_B 0 7 (f2 0) := sf_neH0 c1331 sf_k8 ct4
          refine pm_R_lo pm_M192 (pc' := 104) rfl rfl rfl ?_
          refine pm_R_cv pm_M192 (pc' := 107) (a := 41) (ra := []) (rest := []) (ls' := [.ref 41, pm_no, pm_no]) rfl rfl (Or.inl rfl) pm_M179 T.2.1 rfl (by decide) (Nat.lt_of_lt_of_le (by decide) T.1) rfl rfl (Nat.le_of_ble_eq_true rfl) rfl rfl ?_
          refine rf_c179 (d := d + 1) T  (fun m1335 w1336 h1337 T1338 F1339 W1340 X1341 X1342 => ?_)
          have F1343 := (rf_G.refl [41, 51, 52] h).trans F1339 (by decide)
          have B1344 : sf_B 0 4 (m1335 17) := by rw [W1340 17 (by decide)]; exact B6
          have ek1345 : (m1335 17).toInt = ((m 17)).toInt := by rw [W1340 17 (by decide)]
          have W1346 : rf_W [10, 12, 13, 14, 16, 17, 18, 22] m m1335 := (rf_W.refl [10, 12, 13, 14, 16, 17, 18, 22] m).trans W1340 (by decide)
          have B1347 : sf_B 0 600 (m1335 10) := T1338.2.2.1 10
          have B1348 : sf_B 0 1 (m1335 22) := T1338.2.2.1 22
          show pm_R _ 192 107 [.ref 41, .long a0, pm_no, .int a1, .int 2] [] _ _
          have R1349 : (m 10).toInt ≤ (m1335 10).toInt := (sf_aux51 _ _ X1341)
          refine pm_R_lo pm_M192 (pc' := 108) rfl rfl rfl ?_
          refine pm_R_cv pm_M192 (pc' := 111) (a := 41) (ra := []) (rest := []) (ls' := [.ref 41, pm_no]) rfl rfl (Or.inl rfl) pm_M190 T1338.2.1 rfl (by decide) (Nat.lt_of_lt_of_le (by decide) T1338.1) rfl rfl (Nat.le_of_ble_eq_true rfl) rfl rfl ?_
          refine pm_R_op pm_M190 (pc' := 1) (st' := [.int 0]) rfl rfl rfl ?_
          refine pm_R_lo pm_M190 (pc' := 2) (ls' := [.ref 41, .int 0]) (st' := []) rfl rfl rfl ?_
          refine pm_R_lo pm_M190 (pc' := 3) rfl rfl rfl ?_
          refine pm_R_op pm_M190 (pc' := 4) (st' := [.int 4, .int 0]) rfl rfl rfl ?_
          refine pm_R_br pm_M190 (pc' := 7) (st' := []) rfl rfl ?_
          refine pm_R_lo pm_M190 (pc' := 8) rfl rfl rfl ?_
          refine rf_R_get pm_M190 T1338 (pc' := 11) (v := .ref 52) rfl rfl rfl rfl ?_
          refine pm_R_lo pm_M190 (pc' := 12) rfl rfl rfl ?_
          refine pm_R_op pm_M190 (pc' := 13) (st' := [.int (-1), .int 0, .ref 52]) rfl rfl rfl ?_
          obtain ⟨f1350, e1351, b1352⟩ := T1338.2.2.2.1 52 (by decide) (by decide)
          refine rf_R_ist pm_M190 T1338 (pc' := 14) rfl e1351 (by decide) (by decide) rfl ⟨_, rfl, sf_upd b1352 (sf_weak sf_kn1 (by decide) (by decide)) _⟩ rfl (fun h1353 T1354 F1355 e1356 => ?_)
          have F1357 := F1343.trans F1355 (by decide)
          refine pm_R_lo pm_M190 (pc' := 17) (ls' := [.ref 41, .int 1]) (st' := []) rfl rfl rfl ?_
          refine pm_R_br pm_M190 (pc' := 2) rfl rfl ?_
          refine pm_R_lo pm_M190 (pc' := 3) rfl rfl rfl ?_
          refine pm_R_op pm_M190 (pc' := 4) (st' := [.int 4, .int 1]) rfl rfl rfl ?_
          refine pm_R_br pm_M190 (pc' := 7) (st' := []) rfl rfl ?_
          refine pm_R_lo pm_M190 (pc' := 8) rfl rfl rfl ?_
          refine rf_R_get pm_M190 T1354 (pc' := 11) (v := .ref 52) rfl rfl rfl rfl ?_
          refine pm_R_lo pm_M190 (pc' := 12) rfl rfl rfl ?_
          refine pm_R_op pm_M190 (pc' := 13) (st' := [.int (-1), .int 1, .ref 52]) rfl rfl rfl ?_
          refine rf_R_ist pm_M190 T1354 (pc' := 14) rfl e1356 (by decide) (by decide) rfl ⟨_, rfl, sf_upd (sf_upd b1352 (sf_weak sf_kn1 (by decide) (by decide)) _) (sf_weak sf_kn1 (by decide) (by decide)) _⟩ rfl (fun h1358 T1359 F1360 e1361 => ?_)
          have F1362 := F1357.trans F1360 (by decide)
          refine pm_R_lo pm_M190 (pc' := 17) (ls' := [.ref 41, .int 2]) (st' := []) rfl rfl rfl ?_
          refine pm_R_br pm_M190 (pc' := 2) rfl rfl ?_
          refine pm_R_lo pm_M190 (pc' := 3) rfl rfl rfl ?_
          refine pm_R_op pm_M190 (pc' := 4) (st' := [.int 4, .int 2]) rfl rfl rfl ?_
          refine pm_R_br pm_M190 (pc' := 7) (st' := []) rfl rfl ?_
          refine pm_R_lo pm_M190 (pc' := 8) rfl rfl rfl ?_
          refine rf_R_get pm_M190 T1359 (pc' := 11) (v := .ref 52) rfl rfl rfl rfl ?_
          refine pm_R_lo pm_M190 (pc' := 12) rfl rfl rfl ?_
          refine pm_R_op pm_M190 (pc' := 13) (st' := [.int (-1), .int 2, .ref 52]) rfl rfl rfl ?_
          refine rf_R_ist pm_M190 T1359 (pc' := 14) rfl e1361 (by decide) (by decide) rfl ⟨_, rfl, sf_upd (sf_upd (sf_upd b1352 (sf_weak sf_kn1 (by decide) (by decide)) _) (sf_weak sf_kn1 (by decide) (by decide)) _) (sf_weak sf_kn1 (by decide) (by decide)) _⟩ rfl (fun h1363 T1364 F1365 e1366 => ?_)
          have F1367 := F1362.trans F1365 (by decide)
          refine pm_R_lo pm_M190 (pc' := 17) (ls' := [.ref 41, .int 3]) (st' := []) rfl rfl rfl ?_
          refine pm_R_br pm_M190 (pc' := 2) rfl rfl ?_
          refine pm_R_lo pm_M190 (pc' := 3) rfl rfl rfl ?_
          refine pm_R_op pm_M190 (pc' := 4) (st' := [.int 4, .int 3]) rfl rfl rfl ?_
          refine pm_R_br pm_M190 (pc' := 7) (st' := []) rfl rfl ?_
          refine pm_R_lo pm_M190 (pc' := 8) rfl rfl rfl ?_
          refine rf_R_get pm_M190 T1364 (pc' := 11) (v := .ref 52) rfl rfl rfl rfl ?_
          refine pm_R_lo pm_M190 (pc' := 12) rfl rfl rfl ?_
          refine pm_R_op pm_M190 (pc' := 13) (st' := [.int (-1), .int 3, .ref 52]) rfl rfl rfl ?_
          refine rf_R_ist pm_M190 T1364 (pc' := 14) rfl e1366 (by decide) (by decide) rfl ⟨_, rfl, sf_upd (sf_upd (sf_upd (sf_upd b1352 (sf_weak sf_kn1 (by decide) (by decide)) _) (sf_weak sf_kn1 (by decide) (by decide)) _) (sf_weak sf_kn1 (by decide) (by decide)) _) (sf_weak sf_kn1 (by decide) (by decide)) _⟩ rfl (fun h1368 T1369 F1370 e1371 => ?_)
          have F1372 := F1367.trans F1370 (by decide)
          refine pm_R_lo pm_M190 (pc' := 17) (ls' := [.ref 41, .int 4]) (st' := []) rfl rfl rfl ?_
          refine pm_R_br pm_M190 (pc' := 2) rfl rfl ?_
          refine pm_R_lo pm_M190 (pc' := 3) rfl rfl rfl ?_
          refine pm_R_op pm_M190 (pc' := 4) (st' := [.int 4, .int 4]) rfl rfl rfl ?_
          refine pm_R_br pm_M190 (pc' := 20) (st' := []) rfl rfl ?_
          refine pm_R_ret pm_M190 (r := none) rfl rfl ?_
          show pm_R _ 192 111 [.ref 41, .long a0, pm_no, .int a1, .int 2] [] _ _
          refine pm_R_lo pm_M192 (pc' := 112) rfl rfl rfl ?_
          refine rf_R_get pm_M192 T1369 (pc' := 115) (v := .ref 52) rfl rfl rfl rfl ?_
          refine pm_R_op pm_M192 (pc' := 116) (st' := [.int 0, .ref 52]) (pm_q192_1 (Nat.le_of_ble_eq_true rfl)) rfl rfl ?_
          refine pm_R_lo pm_M192 (pc' := 118) (pm_q192_1 (Nat.le_of_ble_eq_true rfl)) rfl rfl ?_
          refine rf_R_ist pm_M192 T1369 (pc' := 119) (pm_q192_1 (Nat.le_of_ble_eq_true rfl)) e1371 (by decide) (by decide) rfl ⟨_, rfl, sf_upd (sf_upd (sf_upd (sf_upd (sf_upd b1352 (sf_weak sf_kn1 (by decide) (by decide)) _) (sf_weak sf_kn1 (by decide) (by decide)) _) (sf_weak sf_kn1 (by decide) (by decide)) _) (sf_weak sf_kn1 (by decide) (by decide)) _) (sf_weak sf_k2 (by decide) (by decide)) _⟩ rfl (fun h1373 T1374 F1375 e1376 => ?_)
          have F1377 := F1372.trans F1375 (by decide)
          refine pm_R_lo pm_M192 (pc' := 120) (pm_q192_1 (Nat.le_of_ble_eq_true rfl)) rfl rfl ?_
          refine pm_R_op pm_M192 (pc' := 121) (st' := [.int 1, .ref 41]) (pm_q192_1 (Nat.le_of_ble_eq_true rfl)) rfl rfl ?_
          refine pm_R_op pm_M192 (pc' := 123) (st' := [.int 9, .int 1, .ref 41]) (pm_q192_1 (Nat.le_of_ble_eq_true rfl)) rfl rfl ?_
          refine pm_R_op pm_M192 (pc' := 124) (st' := [.int (-1), .int 9, .int 1, .ref 41]) (pm_q192_1 (Nat.le_of_ble_eq_true rfl)) rfl rfl ?_
          refine pm_R_cv pm_M192 (pc' := 127) (a := 41) (ra := [.int (-1), .int 9, .int 1]) (rest := []) (ls' := [.ref 41, .int 1, .int 9, .int (-1)]) (pm_q192_1 (Nat.le_of_ble_eq_true rfl)) rfl (Or.inl rfl) pm_M183 T1374.2.1 rfl (by decide) (Nat.lt_of_lt_of_le (by decide) T1374.1) rfl rfl (Nat.le_of_ble_eq_true rfl) rfl rfl ?_
          refine rf_c183_1_9 (d := d + 0) T1374  (fun m1380 w1381 h1382 T1383 F1384 W1385 X1386 => ?_) (fun m1389 w1390 h1391 T1392 F1393 W1394 X1395 X1396 X1397 X1398 X1399 => ?_) (fun m1402 w1403 h1404 T1405 F1406 W1407 X1408 X1409 X1410 B1411 B1412 => ?_)
          · have F1413 := F1377.trans F1384 (by decide)
            have W1414 : rf_W [10, 12, 13, 14, 16, 17, 18, 22] m m1380 := W1346.trans W1385 (by decide)
            have B1415 : sf_B 0 600 (m1380 10) := T1383.2.2.1 10
            have B1416 : sf_B 0 4 (m1380 17) := T1383.2.2.1 17
            have B1417 : sf_B 0 1 (m1380 22) := T1383.2.2.1 22
            show pm_R _ 192 127 [.ref 41, .long a0, pm_no, .int a1, .int 2] [.int 0] _ _
            have R1418 : (m 10).toInt ≤ (m1380 10).toInt := (sf_aux70 _ _ _ R1349 X1386)
            refine pm_R_br pm_M192 (pc' := 130) (st' := []) (pm_q192_1 (Nat.le_of_ble_eq_true rfl)) rfl ?_
            refine pm_R_op pm_M192 (pc' := 131) (st' := [.int 0]) (pm_q192_1 (Nat.le_of_ble_eq_true rfl)) rfl rfl ?_
            exact pm_R_ret pm_M192 (r := some (.int 0)) (pm_q192_1 (Nat.le_of_ble_eq_true rfl)) rfl (K0 m1380 w1381 h1382 T1383 F1413 W1414 (sf_aux51 _ _ R1418))
          · have F1419 := F1377.trans F1393 (by decide)
            have W1420 : rf_W [10, 12, 13, 14, 16, 17, 18, 22] m m1389 := W1346.trans W1394 (by decide)
            have B1421 : sf_B 0 600 (m1389 10) := T1392.2.2.1 10
            have B1422 : sf_B 0 4 (m1389 17) := T1392.2.2.1 17
            have B1423 : sf_B 0 1 (m1389 22) := T1392.2.2.1 22
            show pm_R _ 192 127 [.ref 41, .long a0, pm_no, .int a1, .int 2] [.int 1] _ _
            have R1424 : (m 10).toInt ≤ (m1389 10).toInt := (sf_aux70 _ _ _ R1349 X1399)
            obtain ⟨v1425, B1426, e1427⟩ := X1395 _ e1376
            refine pm_R_br pm_M192 (pc' := 132) (st' := []) (pm_q192_1 (Nat.le_of_ble_eq_true rfl)) rfl ?_
            refine pm_R_lo pm_M192 (pc' := 134) (pm_q192_1 (Nat.le_of_ble_eq_true rfl)) rfl rfl ?_
            refine pm_R_op pm_M192 (pc' := 135) (st' := [.int 1, .int 2]) (pm_q192_1 (Nat.le_of_ble_eq_true rfl)) rfl rfl ?_
            refine pm_R_br pm_M192 (pc' := 138) (st' := []) (pm_q192_1 (Nat.le_of_ble_eq_true rfl)) rfl ?_
            refine pm_R_lo pm_M192 (pc' := 140) (pm_q192_1 (Nat.le_of_ble_eq_true rfl)) rfl rfl ?_
            refine pm_R_op pm_M192 (pc' := 141) (st' := [.int 2, .int 2]) (pm_q192_1 (Nat.le_of_ble_eq_true rfl)) rfl rfl ?_
            refine pm_R_br pm_M192 (pc' := 150) (st' := []) (pm_q192_1 (Nat.le_of_ble_eq_true rfl)) rfl ?_
            refine pm_R_lo pm_M192 (pc' := 151) (pm_q192_1 (Nat.le_of_ble_eq_true rfl)) rfl rfl ?_
            refine pm_R_op pm_M192 (pc' := 152) (st' := [.int 2, .ref 41]) (pm_q192_1 (Nat.le_of_ble_eq_true rfl)) rfl rfl ?_
            refine pm_R_op pm_M192 (pc' := 154) (st' := [.int 9, .int 2, .ref 41]) (pm_q192_1 (Nat.le_of_ble_eq_true rfl)) rfl rfl ?_
            refine pm_R_op pm_M192 (pc' := 155) (st' := [.int (-1), .int 9, .int 2, .ref 41]) (pm_q192_1 (Nat.le_of_ble_eq_true rfl)) rfl rfl ?_
            refine pm_R_cv pm_M192 (pc' := 158) (a := 41) (ra := [.int (-1), .int 9, .int 2]) (rest := []) (ls' := [.ref 41, .int 2, .int 9, .int (-1)]) (pm_q192_1 (Nat.le_of_ble_eq_true rfl)) rfl (Or.inl rfl) pm_M183 T1392.2.1 rfl (by decide) (Nat.lt_of_lt_of_le (by decide) T1392.1) rfl rfl (Nat.le_of_ble_eq_true rfl) rfl rfl ?_
            refine rf_c183_2_9 (d := d + 0) T1392  (fun m1430 w1431 h1432 T1433 F1434 W1435 X1436 => ?_) (fun m1439 w1440 h1441 T1442 F1443 W1444 X1445 X1446 X1447 X1448 X1449 => ?_) (fun m1452 w1453 h1454 T1455 F1456 W1457 X1458 X1459 X1460 B1461 B1462 => ?_)
            · have F1463 := F1419.trans F1434 (by decide)
              have W1464 : rf_W [10, 12, 13, 14, 16, 17, 18, 22] m m1430 := W1420.trans W1435 (by decide)
              have B1465 : sf_B 0 600 (m1430 10) := T1433.2.2.1 10
              have B1466 : sf_B 0 4 (m1430 17) := T1433.2.2.1 17
              have B1467 : sf_B 0 1 (m1430 22) := T1433.2.2.1 22
              show pm_R _ 192 158 [.ref 41, .long a0, pm_no, .int a1, .int 2] [.int 0] _ _
              have R1468 : (m 10).toInt ≤ (m1430 10).toInt := (sf_aux70 _ _ _ R1424 X1436)
              refine pm_R_br pm_M192 (pc' := 161) (st' := []) (pm_q192_1 (Nat.le_of_ble_eq_true rfl)) rfl ?_
              refine pm_R_op pm_M192 (pc' := 162) (st' := [.int 0]) (pm_q192_1 (Nat.le_of_ble_eq_true rfl)) rfl rfl ?_
              exact pm_R_ret pm_M192 (r := some (.int 0)) (pm_q192_1 (Nat.le_of_ble_eq_true rfl)) rfl (K0 m1430 w1431 h1432 T1433 F1463 W1464 (sf_aux51 _ _ R1468))
            · have F1469 := F1419.trans F1443 (by decide)
              have W1470 : rf_W [10, 12, 13, 14, 16, 17, 18, 22] m m1439 := W1420.trans W1444 (by decide)
              have B1471 : sf_B 0 600 (m1439 10) := T1442.2.2.1 10
              have B1472 : sf_B 0 4 (m1439 17) := T1442.2.2.1 17
              have B1473 : sf_B 0 1 (m1439 22) := T1442.2.2.1 22
              show pm_R _ 192 158 [.ref 41, .long a0, pm_no, .int a1, .int 2] [.int 1] _ _
              have R1474 : (m 10).toInt ≤ (m1439 10).toInt := (sf_aux70 _ _ _ R1424 X1449)
              obtain ⟨v1475, B1476, e1477⟩ := X1445 _ e1427
              refine pm_R_br pm_M192 (pc' := 163) (st' := []) (pm_q192_1 (Nat.le_of_ble_eq_true rfl)) rfl ?_
              refine pm_R_lo pm_M192 (pc' := 164) (pm_q192_1 (Nat.le_of_ble_eq_true rfl)) rfl rfl ?_
              refine pm_R_op pm_M192 (pc' := 165) (st' := [.int 0, .ref 41]) (pm_q192_1 (Nat.le_of_ble_eq_true rfl)) rfl rfl ?_
              refine pm_R_op pm_M192 (pc' := 166) (st' := [.int 1, .int 0, .ref 41]) (pm_q192_1 (Nat.le_of_ble_eq_true rfl)) rfl rfl ?_
              refine pm_R_op pm_M192 (pc' := 167) (st' := [.int 3, .int 1, .int 0, .ref 41]) (pm_q192_1 (Nat.le_of_ble_eq_true rfl)) rfl rfl ?_
              refine pm_R_op pm_M192 (pc' := 169) (st' := [.int 8, .int 3, .int 1, .int 0, .ref 41]) (pm_q192_1 (Nat.le_of_ble_eq_true rfl)) rfl rfl ?_
              refine pm_R_op pm_M192 (pc' := 170) (st' := [.int 0, .int 8, .int 3, .int 1, .int 0, .ref 41]) (pm_q192_1 (Nat.le_of_ble_eq_true rfl)) rfl rfl ?_
              refine pm_R_cv pm_M192 (pc' := 173) (a := 41) (ra := [.int 0, .int 8, .int 3, .int 1, .int 0]) (rest := []) (ls' := [.ref 41, .int 0, .int 1, .int 3, .int 8, .int 0, pm_no, pm_no]) (pm_q192_1 (Nat.le_of_ble_eq_true rfl)) rfl (Or.inl rfl) pm_M185 T1442.2.1 rfl (by decide) (Nat.lt_of_lt_of_le (by decide) T1442.1) rfl rfl (Nat.le_of_ble_eq_true rfl) rfl rfl ?_
              have e1478 := (F1443.cell (by decide) (F1393.cell (by decide) (F1375.cell (by decide) (F1370.cell (by decide) (F1365.cell (by decide) (F1360.cell (by decide) (F1355.cell (by decide) (F1339.cell (by decide) e3))))))))
              refine rf_c185_l (d := d + 2) T1442 (⟨f2, e1478, ct4, fun z => (bd5 (sf_aux73 _ _ _ _ ek1345 X1396 X1446 z))⟩) (fun _ g eg => by rw [e1477] at eg; cases eg; exact ⟨sf_eqL (Eq.trans (sf_upd_nec (k := Int32.toNatClampNeg 2) (j := Int32.toNatClampNeg 0) (by decide)) (Eq.trans (sf_upd_nec (k := Int32.toNatClampNeg 1) (j := Int32.toNatClampNeg 0) (by decide)) sf_upd_eq)) (sf_weak sf_k2 (by decide) (by decide)), sf_eqL (Eq.trans (sf_upd_nec (k := Int32.toNatClampNeg 2) (j := Int32.toNatClampNeg 1) (by decide)) sf_upd_eq) B1426, sf_eqL sf_upd_eq (sf_weak B1476 (by decide) (by decide))⟩) (fun m1481 w1482 h1483 T1484 F1485 W1486 X1487 => ?_)
              have F1488 := F1469.trans F1485 (by decide)
              have B1489 : sf_B 0 600 (m1481 10) := by rw [W1486 10 (by decide)]; exact B1471
              have ek1490 : (m1481 10).toInt = ((m1439 10)).toInt := by rw [W1486 10 (by decide)]
              have B1491 : sf_B 0 4 (m1481 17) := by rw [W1486 17 (by decide)]; exact (sf_eqT X1446 (sf_eqT X1396 B1344))
              have ek1492 : (m1481 17).toInt = ((m1389 17)).toInt := by rw [W1486 17 (by decide)]; exact X1446
              have B1493 : sf_B 0 1 (m1481 22) := by rw [W1486 22 (by decide)]; exact (sf_eqT X1447 (sf_eqT X1397 B1348))
              have ek1494 : (m1481 22).toInt = ((m1389 22)).toInt := by rw [W1486 22 (by decide)]; exact X1447
              have W1495 : rf_W [10, 12, 13, 14, 16, 17, 18, 22] m m1481 := W1470.trans W1486 (by decide)
              show pm_R _ 192 173 [.ref 41, .long a0, pm_no, .int a1, .int 2] [] _ _
              obtain ⟨f1496, e1497, ct1498, bd1499⟩ := X1487
              refine pm_R_op pm_M192 (pc' := 174) (st' := [.int 1]) (pm_q192_1 (Nat.le_of_ble_eq_true rfl)) rfl rfl ?_
              exact pm_R_ret pm_M192 (r := some (.int 1)) (pm_q192_1 (Nat.le_of_ble_eq_true rfl)) rfl (K1 m1481 w1482 h1483 T1484 F1488 W1495 (⟨f1496, e1497, ct1498, fun z => (bd1499 z)⟩) (sf_aux39 _ _ _ ek1490 R1474))
            · have F1500 := F1419.trans F1456 (by decide)
              have W1501 : rf_W [10, 12, 13, 14, 16, 17, 18, 22] m m1452 := W1420.trans W1457 (by decide)
              have B1502 : sf_B 0 600 (m1452 10) := T1455.2.2.1 10
              have B1503 : sf_B 0 4 (m1452 17) := T1455.2.2.1 17
              have B1504 : sf_B 0 1 (m1452 22) := T1455.2.2.1 22
              show pm_R _ 192 158 [.ref 41, .long a0, pm_no, .int a1, .int 2] [.int 1] _ _
              have R1505 : (m 10).toInt ≤ (m1452 10).toInt := (sf_aux70 _ _ _ R1424 X1460)
              obtain ⟨v1506, B1507, e1508⟩ := X1458 _ e1427
              refine pm_R_br pm_M192 (pc' := 163) (st' := []) (pm_q192_1 (Nat.le_of_ble_eq_true rfl)) rfl ?_
              refine pm_R_lo pm_M192 (pc' := 164) (pm_q192_1 (Nat.le_of_ble_eq_true rfl)) rfl rfl ?_
              refine pm_R_op pm_M192 (pc' := 165) (st' := [.int 0, .ref 41]) (pm_q192_1 (Nat.le_of_ble_eq_true rfl)) rfl rfl ?_
              refine pm_R_op pm_M192 (pc' := 166) (st' := [.int 1, .int 0, .ref 41]) (pm_q192_1 (Nat.le_of_ble_eq_true rfl)) rfl rfl ?_
              refine pm_R_op pm_M192 (pc' := 167) (st' := [.int 3, .int 1, .int 0, .ref 41]) (pm_q192_1 (Nat.le_of_ble_eq_true rfl)) rfl rfl ?_
              refine pm_R_op pm_M192 (pc' := 169) (st' := [.int 8, .int 3, .int 1, .int 0, .ref 41]) (pm_q192_1 (Nat.le_of_ble_eq_true rfl)) rfl rfl ?_
              refine pm_R_op pm_M192 (pc' := 170) (st' := [.int 0, .int 8, .int 3, .int 1, .int 0, .ref 41]) (pm_q192_1 (Nat.le_of_ble_eq_true rfl)) rfl rfl ?_
              refine pm_R_cv pm_M192 (pc' := 173) (a := 41) (ra := [.int 0, .int 8, .int 3, .int 1, .int 0]) (rest := []) (ls' := [.ref 41, .int 0, .int 1, .int 3, .int 8, .int 0, pm_no, pm_no]) (pm_q192_1 (Nat.le_of_ble_eq_true rfl)) rfl (Or.inl rfl) pm_M185 T1455.2.1 rfl (by decide) (Nat.lt_of_lt_of_le (by decide) T1455.1) rfl rfl (Nat.le_of_ble_eq_true rfl) rfl rfl ?_
              have e1509 := (F1456.cell (by decide) (F1393.cell (by decide) (F1375.cell (by decide) (F1370.cell (by decide) (F1365.cell (by decide) (F1360.cell (by decide) (F1355.cell (by decide) (F1339.cell (by decide) e3))))))))
              refine rf_c185_l (d := d + 2) T1455 (⟨f2, e1509, ct4, fun z => (sf_pos B1461 (by decide) z)⟩) (fun z => sf_pos B1461 (by decide) z) (fun m1512 w1513 h1514 T1515 F1516 W1517 X1518 => ?_)
              have F1519 := F1500.trans F1516 (by decide)
              have B1520 : sf_B 0 600 (m1512 10) := by rw [W1517 10 (by decide)]; exact B1502
              have ek1521 : (m1512 10).toInt = ((m1452 10)).toInt := by rw [W1517 10 (by decide)]
              have B1522 : sf_B 1 4 (m1512 17) := by rw [W1517 17 (by decide)]; exact B1461
              have ek1523 : (m1512 17).toInt = ((m1452 17)).toInt := by rw [W1517 17 (by decide)]
              have B1524 : sf_B 0 0 (m1512 22) := by rw [W1517 22 (by decide)]; exact B1462
              have ek1525 : (m1512 22).toInt = ((m1452 22)).toInt := by rw [W1517 22 (by decide)]
              have W1526 : rf_W [10, 12, 13, 14, 16, 17, 18, 22] m m1512 := W1501.trans W1517 (by decide)
              show pm_R _ 192 173 [.ref 41, .long a0, pm_no, .int a1, .int 2] [] _ _
              obtain ⟨f1527, e1528, ct1529, bd1530⟩ := X1518
              refine pm_R_op pm_M192 (pc' := 174) (st' := [.int 1]) (pm_q192_1 (Nat.le_of_ble_eq_true rfl)) rfl rfl ?_
              exact pm_R_ret pm_M192 (r := some (.int 1)) (pm_q192_1 (Nat.le_of_ble_eq_true rfl)) rfl (K1 m1512 w1513 h1514 T1515 F1519 W1526 (⟨f1527, e1528, ct1529, fun z => (sf_pos B1522 (by decide) z)⟩) (sf_aux39 _ _ _ ek1521 R1505))
          · have F1531 := F1377.trans F1406 (by decide)
            have W1532 : rf_W [10, 12, 13, 14, 16, 17, 18, 22] m m1402 := W1346.trans W1407 (by decide)
            have B1533 : sf_B 0 600 (m1402 10) := T1405.2.2.1 10
            have B1534 : sf_B 0 4 (m1402 17) := T1405.2.2.1 17
            have B1535 : sf_B 0 1 (m1402 22) := T1405.2.2.1 22
            show pm_R _ 192 127 [.ref 41, .long a0, pm_no, .int a1, .int 2] [.int 1] _ _
            have R1536 : (m 10).toInt ≤ (m1402 10).toInt := (sf_aux70 _ _ _ R1349 X1410)
            obtain ⟨v1537, B1538, e1539⟩ := X1408 _ e1376
            refine pm_R_br pm_M192 (pc' := 132) (st' := []) (pm_q192_1 (Nat.le_of_ble_eq_true rfl)) rfl ?_
            refine pm_R_lo pm_M192 (pc' := 134) (pm_q192_1 (Nat.le_of_ble_eq_true rfl)) rfl rfl ?_
            refine pm_R_op pm_M192 (pc' := 135) (st' := [.int 1, .int 2]) (pm_q192_1 (Nat.le_of_ble_eq_true rfl)) rfl rfl ?_
            refine pm_R_br pm_M192 (pc' := 138) (st' := []) (pm_q192_1 (Nat.le_of_ble_eq_true rfl)) rfl ?_
            refine pm_R_lo pm_M192 (pc' := 140) (pm_q192_1 (Nat.le_of_ble_eq_true rfl)) rfl rfl ?_
            refine pm_R_op pm_M192 (pc' := 141) (st' := [.int 2, .int 2]) (pm_q192_1 (Nat.le_of_ble_eq_true rfl)) rfl rfl ?_
            refine pm_R_br pm_M192 (pc' := 150) (st' := []) (pm_q192_1 (Nat.le_of_ble_eq_true rfl)) rfl ?_
            refine pm_R_lo pm_M192 (pc' := 151) (pm_q192_1 (Nat.le_of_ble_eq_true rfl)) rfl rfl ?_
            refine pm_R_op pm_M192 (pc' := 152) (st' := [.int 2, .ref 41]) (pm_q192_1 (Nat.le_of_ble_eq_true rfl)) rfl rfl ?_
            refine pm_R_op pm_M192 (pc' := 154) (st' := [.int 9, .int 2, .ref 41]) (pm_q192_1 (Nat.le_of_ble_eq_true rfl)) rfl rfl ?_
            refine pm_R_op pm_M192 (pc' := 155) (st' := [.int (-1), .int 9, .int 2, .ref 41]) (pm_q192_1 (Nat.le_of_ble_eq_true rfl)) rfl rfl ?_
            refine pm_R_cv pm_M192 (pc' := 158) (a := 41) (ra := [.int (-1), .int 9, .int 2]) (rest := []) (ls' := [.ref 41, .int 2, .int 9, .int (-1)]) (pm_q192_1 (Nat.le_of_ble_eq_true rfl)) rfl (Or.inl rfl) pm_M183 T1405.2.1 rfl (by decide) (Nat.lt_of_lt_of_le (by decide) T1405.1) rfl rfl (Nat.le_of_ble_eq_true rfl) rfl rfl ?_
            refine rf_c183_2_9 (d := d + 0) T1405  (fun m1542 w1543 h1544 T1545 F1546 W1547 X1548 => ?_) (fun m1551 w1552 h1553 T1554 F1555 W1556 X1557 X1558 X1559 X1560 X1561 => ?_) (fun m1564 w1565 h1566 T1567 F1568 W1569 X1570 X1571 X1572 B1573 B1574 => ?_)
            · have F1575 := F1531.trans F1546 (by decide)
              have W1576 : rf_W [10, 12, 13, 14, 16, 17, 18, 22] m m1542 := W1532.trans W1547 (by decide)
              have B1577 : sf_B 0 600 (m1542 10) := T1545.2.2.1 10
              have B1578 : sf_B 0 4 (m1542 17) := T1545.2.2.1 17
              have B1579 : sf_B 0 1 (m1542 22) := T1545.2.2.1 22
              show pm_R _ 192 158 [.ref 41, .long a0, pm_no, .int a1, .int 2] [.int 0] _ _
              have R1580 : (m 10).toInt ≤ (m1542 10).toInt := (sf_aux70 _ _ _ R1536 X1548)
              refine pm_R_br pm_M192 (pc' := 161) (st' := []) (pm_q192_1 (Nat.le_of_ble_eq_true rfl)) rfl ?_
              refine pm_R_op pm_M192 (pc' := 162) (st' := [.int 0]) (pm_q192_1 (Nat.le_of_ble_eq_true rfl)) rfl rfl ?_
              exact pm_R_ret pm_M192 (r := some (.int 0)) (pm_q192_1 (Nat.le_of_ble_eq_true rfl)) rfl (K0 m1542 w1543 h1544 T1545 F1575 W1576 (sf_aux51 _ _ R1580))
            · have F1581 := F1531.trans F1555 (by decide)
              have W1582 : rf_W [10, 12, 13, 14, 16, 17, 18, 22] m m1551 := W1532.trans W1556 (by decide)
              have B1583 : sf_B 0 600 (m1551 10) := T1554.2.2.1 10
              have B1584 : sf_B 0 4 (m1551 17) := T1554.2.2.1 17
              have B1585 : sf_B 0 1 (m1551 22) := T1554.2.2.1 22
              show pm_R _ 192 158 [.ref 41, .long a0, pm_no, .int a1, .int 2] [.int 1] _ _
              have R1586 : (m 10).toInt ≤ (m1551 10).toInt := (sf_aux70 _ _ _ R1536 X1561)
              obtain ⟨v1587, B1588, e1589⟩ := X1557 _ e1539
              refine pm_R_br pm_M192 (pc' := 163) (st' := []) (pm_q192_1 (Nat.le_of_ble_eq_true rfl)) rfl ?_
              refine pm_R_lo pm_M192 (pc' := 164) (pm_q192_1 (Nat.le_of_ble_eq_true rfl)) rfl rfl ?_
              refine pm_R_op pm_M192 (pc' := 165) (st' := [.int 0, .ref 41]) (pm_q192_1 (Nat.le_of_ble_eq_true rfl)) rfl rfl ?_
              refine pm_R_op pm_M192 (pc' := 166) (st' := [.int 1, .int 0, .ref 41]) (pm_q192_1 (Nat.le_of_ble_eq_true rfl)) rfl rfl ?_
              refine pm_R_op pm_M192 (pc' := 167) (st' := [.int 3, .int 1, .int 0, .ref 41]) (pm_q192_1 (Nat.le_of_ble_eq_true rfl)) rfl rfl ?_
              refine pm_R_op pm_M192 (pc' := 169) (st' := [.int 8, .int 3, .int 1, .int 0, .ref 41]) (pm_q192_1 (Nat.le_of_ble_eq_true rfl)) rfl rfl ?_
              refine pm_R_op pm_M192 (pc' := 170) (st' := [.int 0, .int 8, .int 3, .int 1, .int 0, .ref 41]) (pm_q192_1 (Nat.le_of_ble_eq_true rfl)) rfl rfl ?_
              refine pm_R_cv pm_M192 (pc' := 173) (a := 41) (ra := [.int 0, .int 8, .int 3, .int 1, .int 0]) (rest := []) (ls' := [.ref 41, .int 0, .int 1, .int 3, .int 8, .int 0, pm_no, pm_no]) (pm_q192_1 (Nat.le_of_ble_eq_true rfl)) rfl (Or.inl rfl) pm_M185 T1554.2.1 rfl (by decide) (Nat.lt_of_lt_of_le (by decide) T1554.1) rfl rfl (Nat.le_of_ble_eq_true rfl) rfl rfl ?_
              have e1590 := (F1555.cell (by decide) (F1406.cell (by decide) (F1375.cell (by decide) (F1370.cell (by decide) (F1365.cell (by decide) (F1360.cell (by decide) (F1355.cell (by decide) (F1339.cell (by decide) e3))))))))
              refine rf_c185_l (d := d + 2) T1554 (⟨f2, e1590, ct4, fun z => (sf_pos (sf_eqT X1558 B1411) (by decide) z)⟩) (fun z => sf_pos (sf_eqT X1558 B1411) (by decide) z) (fun m1593 w1594 h1595 T1596 F1597 W1598 X1599 => ?_)
              have F1600 := F1581.trans F1597 (by decide)
              have B1601 : sf_B 0 600 (m1593 10) := by rw [W1598 10 (by decide)]; exact B1583
              have ek1602 : (m1593 10).toInt = ((m1551 10)).toInt := by rw [W1598 10 (by decide)]
              have B1603 : sf_B 1 4 (m1593 17) := by rw [W1598 17 (by decide)]; exact (sf_eqT X1558 B1411)
              have ek1604 : (m1593 17).toInt = ((m1402 17)).toInt := by rw [W1598 17 (by decide)]; exact X1558
              have B1605 : sf_B 0 0 (m1593 22) := by rw [W1598 22 (by decide)]; exact (sf_eqT X1559 B1412)
              have ek1606 : (m1593 22).toInt = ((m1402 22)).toInt := by rw [W1598 22 (by decide)]; exact X1559
              have W1607 : rf_W [10, 12, 13, 14, 16, 17, 18, 22] m m1593 := W1582.trans W1598 (by decide)
              show pm_R _ 192 173 [.ref 41, .long a0, pm_no, .int a1, .int 2] [] _ _
              obtain ⟨f1608, e1609, ct1610, bd1611⟩ := X1599
              refine pm_R_op pm_M192 (pc' := 174) (st' := [.int 1]) (pm_q192_1 (Nat.le_of_ble_eq_true rfl)) rfl rfl ?_
              exact pm_R_ret pm_M192 (r := some (.int 1)) (pm_q192_1 (Nat.le_of_ble_eq_true rfl)) rfl (K1 m1593 w1594 h1595 T1596 F1600 W1607 (⟨f1608, e1609, ct1610, fun z => (sf_pos B1603 (by decide) z)⟩) (sf_aux39 _ _ _ ek1602 R1586))
            · have F1612 := F1531.trans F1568 (by decide)
              have W1613 : rf_W [10, 12, 13, 14, 16, 17, 18, 22] m m1564 := W1532.trans W1569 (by decide)
              have B1614 : sf_B 0 600 (m1564 10) := T1567.2.2.1 10
              have B1615 : sf_B 0 4 (m1564 17) := T1567.2.2.1 17
              have B1616 : sf_B 0 1 (m1564 22) := T1567.2.2.1 22
              show pm_R _ 192 158 [.ref 41, .long a0, pm_no, .int a1, .int 2] [.int 1] _ _
              have R1617 : (m 10).toInt ≤ (m1564 10).toInt := (sf_aux70 _ _ _ R1536 X1572)
              obtain ⟨v1618, B1619, e1620⟩ := X1570 _ e1539
              refine pm_R_br pm_M192 (pc' := 163) (st' := []) (pm_q192_1 (Nat.le_of_ble_eq_true rfl)) rfl ?_
              refine pm_R_lo pm_M192 (pc' := 164) (pm_q192_1 (Nat.le_of_ble_eq_true rfl)) rfl rfl ?_
              refine pm_R_op pm_M192 (pc' := 165) (st' := [.int 0, .ref 41]) (pm_q192_1 (Nat.le_of_ble_eq_true rfl)) rfl rfl ?_
              refine pm_R_op pm_M192 (pc' := 166) (st' := [.int 1, .int 0, .ref 41]) (pm_q192_1 (Nat.le_of_ble_eq_true rfl)) rfl rfl ?_
              refine pm_R_op pm_M192 (pc' := 167) (st' := [.int 3, .int 1, .int 0, .ref 41]) (pm_q192_1 (Nat.le_of_ble_eq_true rfl)) rfl rfl ?_
              refine pm_R_op pm_M192 (pc' := 169) (st' := [.int 8, .int 3, .int 1, .int 0, .ref 41]) (pm_q192_1 (Nat.le_of_ble_eq_true rfl)) rfl rfl ?_
              refine pm_R_op pm_M192 (pc' := 170) (st' := [.int 0, .int 8, .int 3, .int 1, .int 0, .ref 41]) (pm_q192_1 (Nat.le_of_ble_eq_true rfl)) rfl rfl ?_
              refine pm_R_cv pm_M192 (pc' := 173) (a := 41) (ra := [.int 0, .int 8, .int 3, .int 1, .int 0]) (rest := []) (ls' := [.ref 41, .int 0, .int 1, .int 3, .int 8, .int 0, pm_no, pm_no]) (pm_q192_1 (Nat.le_of_ble_eq_true rfl)) rfl (Or.inl rfl) pm_M185 T1567.2.1 rfl (by decide) (Nat.lt_of_lt_of_le (by decide) T1567.1) rfl rfl (Nat.le_of_ble_eq_true rfl) rfl rfl ?_
              have e1621 := (F1568.cell (by decide) (F1406.cell (by decide) (F1375.cell (by decide) (F1370.cell (by decide) (F1365.cell (by decide) (F1360.cell (by decide) (F1355.cell (by decide) (F1339.cell (by decide) e3))))))))
              refine rf_c185_l (d := d + 2) T1567 (⟨f2, e1621, ct4, fun z => (sf_pos B1573 (by decide) z)⟩) (fun z => sf_pos B1573 (by decide) z) (fun m1624 w1625 h1626 T1627 F1628 W1629 X1630 => ?_)
              have F1631 := F1612.trans F1628 (by decide)
              have B1632 : sf_B 0 600 (m1624 10) := by rw [W1629 10 (by decide)]; exact B1614
              have ek1633 : (m1624 10).toInt = ((m1564 10)).toInt := by rw [W1629 10 (by decide)]
              have B1634 : sf_B 1 4 (m1624 17) := by rw [W1629 17 (by decide)]; exact B1573
              have ek1635 : (m1624 17).toInt = ((m1564 17)).toInt := by rw [W1629 17 (by decide)]
              have B1636 : sf_B 0 0 (m1624 22) := by rw [W1629 22 (by decide)]; exact B1574
              have ek1637 : (m1624 22).toInt = ((m1564 22)).toInt := by rw [W1629 22 (by decide)]
              have W1638 : rf_W [10, 12, 13, 14, 16, 17, 18, 22] m m1624 := W1613.trans W1629 (by decide)
              show pm_R _ 192 173 [.ref 41, .long a0, pm_no, .int a1, .int 2] [] _ _
              obtain ⟨f1639, e1640, ct1641, bd1642⟩ := X1630
              refine pm_R_op pm_M192 (pc' := 174) (st' := [.int 1]) (pm_q192_1 (Nat.le_of_ble_eq_true rfl)) rfl rfl ?_
              exact pm_R_ret pm_M192 (r := some (.int 1)) (pm_q192_1 (Nat.le_of_ble_eq_true rfl)) rfl (K1 m1624 w1625 h1626 T1627 F1631 W1638 (⟨f1639, e1640, ct1641, fun z => (sf_pos B1634 (by decide) z)⟩) (sf_aux39 _ _ _ ek1633 R1617))
        · have B1643 : sf_B 8 8 (f2 0) := sf_eqL (Classical.not_not.mp c1331) sf_k8
          refine pm_R_lo pm_M192 (pc' := 98) rfl rfl rfl ?_
          refine pm_R_op pm_M192 (pc' := 99) (st' := [.int 3, .ref 41]) rfl rfl rfl ?_
          refine pm_R_lo pm_M192 (pc' := 100) rfl rfl rfl ?_
          refine pm_R_cv pm_M192 (pc' := 103) (a := 41) (ra := [.int a1, .int 3]) (rest := []) (ls' := [.ref 41, .int 3, .int a1]) rfl rfl (Or.inl rfl) pm_M182 T.2.1 rfl (by decide) (Nat.lt_of_lt_of_le (by decide) T.1) rfl rfl (Nat.le_of_ble_eq_true rfl) rfl rfl ?_
          refine rf_c182 (d := d + 2) T (sf_weak sf_k3 (by decide) (by decide)) Ba1 (fun m1646 w1647 h1648 T1649 F1650 W1651 B1652 => ?_)
          have F1653 := (rf_G.refl [41, 51, 52] h).trans F1650 (by decide)
          have B1654 : sf_B 0 600 (m1646 10) := by rw [W1651 10 (by decide)]; exact B1
          have ek1655 : (m1646 10).toInt = ((m 10)).toInt := by rw [W1651 10 (by decide)]
          have W1656 : rf_W [10, 12, 13, 14, 16, 17, 18, 22] m m1646 := (rf_W.refl [10, 12, 13, 14, 16, 17, 18, 22] m).trans W1651 (by decide)
          have B1657 : sf_B 0 4 (m1646 17) := T1649.2.2.1 17
          have B1658 : sf_B 0 1 (m1646 22) := T1649.2.2.1 22
          show pm_R _ 192 103 [.ref 41, .long a0, pm_no, .int a1, .int 2] [] _ _
          refine pm_R_lo pm_M192 (pc' := 104) rfl rfl rfl ?_
          refine pm_R_cv pm_M192 (pc' := 107) (a := 41) (ra := []) (rest := []) (ls' := [.ref 41, pm_no, pm_no]) rfl rfl (Or.inl rfl) pm_M179 T1649.2.1 rfl (by decide) (Nat.lt_of_lt_of_le (by decide) T1649.1) rfl rfl (Nat.le_of_ble_eq_true rfl) rfl rfl ?_
          refine rf_c179 (d := d + 1) T1649  (fun m1661 w1662 h1663 T1664 F1665 W1666 X1667 X1668 => ?_)
          have F1669 := F1653.trans F1665 (by decide)
          have B1670 : sf_B 1 4 (m1661 17) := by rw [W1666 17 (by decide)]; exact B1652
          have ek1671 : (m1661 17).toInt = ((m1646 17)).toInt := by rw [W1666 17 (by decide)]
          have B1672 : sf_B 0 1 (m1661 22) := by rw [W1666 22 (by decide)]; exact B1658
          have ek1673 : (m1661 22).toInt = ((m1646 22)).toInt := by rw [W1666 22 (by decide)]
          have W1674 : rf_W [10, 12, 13, 14, 16, 17, 18, 22] m m1661 := W1656.trans W1666 (by decide)
          have B1675 : sf_B 0 600 (m1661 10) := T1664.2.2.1 10
          show pm_R _ 192 107 [.ref 41, .long a0, pm_no, .int a1, .int 2] [] _ _
          have R1676 : (m 10).toInt ≤ (m1661 10).toInt := (sf_aux53 _ _ _ ek1655 X1667)
          refine pm_R_lo pm_M192 (pc' := 108) rfl rfl rfl ?_
          refine pm_R_cv pm_M192 (pc' := 111) (a := 41) (ra := []) (rest := []) (ls' := [.ref 41, pm_no]) rfl rfl (Or.inl rfl) pm_M190 T1664.2.1 rfl (by decide) (Nat.lt_of_lt_of_le (by decide) T1664.1) rfl rfl (Nat.le_of_ble_eq_true rfl) rfl rfl ?_
          refine pm_R_op pm_M190 (pc' := 1) (st' := [.int 0]) rfl rfl rfl ?_
          refine pm_R_lo pm_M190 (pc' := 2) (ls' := [.ref 41, .int 0]) (st' := []) rfl rfl rfl ?_
          refine pm_R_lo pm_M190 (pc' := 3) rfl rfl rfl ?_
          refine pm_R_op pm_M190 (pc' := 4) (st' := [.int 4, .int 0]) rfl rfl rfl ?_
          refine pm_R_br pm_M190 (pc' := 7) (st' := []) rfl rfl ?_
          refine pm_R_lo pm_M190 (pc' := 8) rfl rfl rfl ?_
          refine rf_R_get pm_M190 T1664 (pc' := 11) (v := .ref 52) rfl rfl rfl rfl ?_
          refine pm_R_lo pm_M190 (pc' := 12) rfl rfl rfl ?_
          refine pm_R_op pm_M190 (pc' := 13) (st' := [.int (-1), .int 0, .ref 52]) rfl rfl rfl ?_
          obtain ⟨f1677, e1678, b1679⟩ := T1664.2.2.2.1 52 (by decide) (by decide)
          refine rf_R_ist pm_M190 T1664 (pc' := 14) rfl e1678 (by decide) (by decide) rfl ⟨_, rfl, sf_upd b1679 (sf_weak sf_kn1 (by decide) (by decide)) _⟩ rfl (fun h1680 T1681 F1682 e1683 => ?_)
          have F1684 := F1669.trans F1682 (by decide)
          refine pm_R_lo pm_M190 (pc' := 17) (ls' := [.ref 41, .int 1]) (st' := []) rfl rfl rfl ?_
          refine pm_R_br pm_M190 (pc' := 2) rfl rfl ?_
          refine pm_R_lo pm_M190 (pc' := 3) rfl rfl rfl ?_
          refine pm_R_op pm_M190 (pc' := 4) (st' := [.int 4, .int 1]) rfl rfl rfl ?_
          refine pm_R_br pm_M190 (pc' := 7) (st' := []) rfl rfl ?_
          refine pm_R_lo pm_M190 (pc' := 8) rfl rfl rfl ?_
          refine rf_R_get pm_M190 T1681 (pc' := 11) (v := .ref 52) rfl rfl rfl rfl ?_
          refine pm_R_lo pm_M190 (pc' := 12) rfl rfl rfl ?_
          refine pm_R_op pm_M190 (pc' := 13) (st' := [.int (-1), .int 1, .ref 52]) rfl rfl rfl ?_
          refine rf_R_ist pm_M190 T1681 (pc' := 14) rfl e1683 (by decide) (by decide) rfl ⟨_, rfl, sf_upd (sf_upd b1679 (sf_weak sf_kn1 (by decide) (by decide)) _) (sf_weak sf_kn1 (by decide) (by decide)) _⟩ rfl (fun h1685 T1686 F1687 e1688 => ?_)
          have F1689 := F1684.trans F1687 (by decide)
          refine pm_R_lo pm_M190 (pc' := 17) (ls' := [.ref 41, .int 2]) (st' := []) rfl rfl rfl ?_
          refine pm_R_br pm_M190 (pc' := 2) rfl rfl ?_
          refine pm_R_lo pm_M190 (pc' := 3) rfl rfl rfl ?_
          refine pm_R_op pm_M190 (pc' := 4) (st' := [.int 4, .int 2]) rfl rfl rfl ?_
          refine pm_R_br pm_M190 (pc' := 7) (st' := []) rfl rfl ?_
          refine pm_R_lo pm_M190 (pc' := 8) rfl rfl rfl ?_
          refine rf_R_get pm_M190 T1686 (pc' := 11) (v := .ref 52) rfl rfl rfl rfl ?_
          refine pm_R_lo pm_M190 (pc' := 12) rfl rfl rfl ?_
          refine pm_R_op pm_M190 (pc' := 13) (st' := [.int (-1), .int 2, .ref 52]) rfl rfl rfl ?_
          refine rf_R_ist pm_M190 T1686 (pc' := 14) rfl e1688 (by decide) (by decide) rfl ⟨_, rfl, sf_upd (sf_upd (sf_upd b1679 (sf_weak sf_kn1 (by decide) (by decide)) _) (sf_weak sf_kn1 (by decide) (by decide)) _) (sf_weak sf_kn1 (by decide) (by decide)) _⟩ rfl (fun h1690 T1691 F1692 e1693 => ?_)
          have F1694 := F1689.trans F1692 (by decide)
          refine pm_R_lo pm_M190 (pc' := 17) (ls' := [.ref 41, .int 3]) (st' := []) rfl rfl rfl ?_
          refine pm_R_br pm_M190 (pc' := 2) rfl rfl ?_
          refine pm_R_lo pm_M190 (pc' := 3) rfl rfl rfl ?_
          refine pm_R_op pm_M190 (pc' := 4) (st' := [.int 4, .int 3]) rfl rfl rfl ?_
          refine pm_R_br pm_M190 (pc' := 7) (st' := []) rfl rfl ?_
          refine pm_R_lo pm_M190 (pc' := 8) rfl rfl rfl ?_
          refine rf_R_get pm_M190 T1691 (pc' := 11) (v := .ref 52) rfl rfl rfl rfl ?_
          refine pm_R_lo pm_M190 (pc' := 12) rfl rfl rfl ?_
          refine pm_R_op pm_M190 (pc' := 13) (st' := [.int (-1), .int 3, .ref 52]) rfl rfl rfl ?_
          refine rf_R_ist pm_M190 T1691 (pc' := 14) rfl e1693 (by decide) (by decide) rfl ⟨_, rfl, sf_upd (sf_upd (sf_upd (sf_upd b1679 (sf_weak sf_kn1 (by decide) (by decide)) _) (sf_weak sf_kn1 (by decide) (by decide)) _) (sf_weak sf_kn1 (by decide) (by decide)) _) (sf_weak sf_kn1 (by decide) (by decide)) _⟩ rfl (fun h1695 T1696 F1697 e1698 => ?_)
          have F1699 := F1694.trans F1697 (by decide)
          refine pm_R_lo pm_M190 (pc' := 17) (ls' := [.ref 41, .int 4]) (st' := []) rfl rfl rfl ?_
          refine pm_R_br pm_M190 (pc' := 2) rfl rfl ?_
          refine pm_R_lo pm_M190 (pc' := 3) rfl rfl rfl ?_
          refine pm_R_op pm_M190 (pc' := 4) (st' := [.int 4, .int 4]) rfl rfl rfl ?_
          refine pm_R_br pm_M190 (pc' := 20) (st' := []) rfl rfl ?_
          refine pm_R_ret pm_M190 (r := none) rfl rfl ?_
          show pm_R _ 192 111 [.ref 41, .long a0, pm_no, .int a1, .int 2] [] _ _
          refine pm_R_lo pm_M192 (pc' := 112) rfl rfl rfl ?_
          refine rf_R_get pm_M192 T1696 (pc' := 115) (v := .ref 52) rfl rfl rfl rfl ?_
          refine pm_R_op pm_M192 (pc' := 116) (st' := [.int 0, .ref 52]) (pm_q192_1 (Nat.le_of_ble_eq_true rfl)) rfl rfl ?_
          refine pm_R_lo pm_M192 (pc' := 118) (pm_q192_1 (Nat.le_of_ble_eq_true rfl)) rfl rfl ?_
          refine rf_R_ist pm_M192 T1696 (pc' := 119) (pm_q192_1 (Nat.le_of_ble_eq_true rfl)) e1698 (by decide) (by decide) rfl ⟨_, rfl, sf_upd (sf_upd (sf_upd (sf_upd (sf_upd b1679 (sf_weak sf_kn1 (by decide) (by decide)) _) (sf_weak sf_kn1 (by decide) (by decide)) _) (sf_weak sf_kn1 (by decide) (by decide)) _) (sf_weak sf_kn1 (by decide) (by decide)) _) (sf_weak sf_k2 (by decide) (by decide)) _⟩ rfl (fun h1700 T1701 F1702 e1703 => ?_)
          have F1704 := F1699.trans F1702 (by decide)
          refine pm_R_lo pm_M192 (pc' := 120) (pm_q192_1 (Nat.le_of_ble_eq_true rfl)) rfl rfl ?_
          refine pm_R_op pm_M192 (pc' := 121) (st' := [.int 1, .ref 41]) (pm_q192_1 (Nat.le_of_ble_eq_true rfl)) rfl rfl ?_
          refine pm_R_op pm_M192 (pc' := 123) (st' := [.int 9, .int 1, .ref 41]) (pm_q192_1 (Nat.le_of_ble_eq_true rfl)) rfl rfl ?_
          refine pm_R_op pm_M192 (pc' := 124) (st' := [.int (-1), .int 9, .int 1, .ref 41]) (pm_q192_1 (Nat.le_of_ble_eq_true rfl)) rfl rfl ?_
          refine pm_R_cv pm_M192 (pc' := 127) (a := 41) (ra := [.int (-1), .int 9, .int 1]) (rest := []) (ls' := [.ref 41, .int 1, .int 9, .int (-1)]) (pm_q192_1 (Nat.le_of_ble_eq_true rfl)) rfl (Or.inl rfl) pm_M183 T1701.2.1 rfl (by decide) (Nat.lt_of_lt_of_le (by decide) T1701.1) rfl rfl (Nat.le_of_ble_eq_true rfl) rfl rfl ?_
          refine rf_c183_1_9 (d := d + 0) T1701  (fun m1707 w1708 h1709 T1710 F1711 W1712 X1713 => ?_) (fun m1716 w1717 h1718 T1719 F1720 W1721 X1722 X1723 X1724 X1725 X1726 => ?_) (fun m1729 w1730 h1731 T1732 F1733 W1734 X1735 X1736 X1737 B1738 B1739 => ?_)
          · have F1740 := F1704.trans F1711 (by decide)
            have W1741 : rf_W [10, 12, 13, 14, 16, 17, 18, 22] m m1707 := W1674.trans W1712 (by decide)
            have B1742 : sf_B 0 600 (m1707 10) := T1710.2.2.1 10
            have B1743 : sf_B 0 4 (m1707 17) := T1710.2.2.1 17
            have B1744 : sf_B 0 1 (m1707 22) := T1710.2.2.1 22
            show pm_R _ 192 127 [.ref 41, .long a0, pm_no, .int a1, .int 2] [.int 0] _ _
            have R1745 : (m 10).toInt ≤ (m1707 10).toInt := (sf_aux70 _ _ _ R1676 X1713)
            refine pm_R_br pm_M192 (pc' := 130) (st' := []) (pm_q192_1 (Nat.le_of_ble_eq_true rfl)) rfl ?_
            refine pm_R_op pm_M192 (pc' := 131) (st' := [.int 0]) (pm_q192_1 (Nat.le_of_ble_eq_true rfl)) rfl rfl ?_
            exact pm_R_ret pm_M192 (r := some (.int 0)) (pm_q192_1 (Nat.le_of_ble_eq_true rfl)) rfl (K0 m1707 w1708 h1709 T1710 F1740 W1741 (sf_aux51 _ _ R1745))
          · have F1746 := F1704.trans F1720 (by decide)
            have W1747 : rf_W [10, 12, 13, 14, 16, 17, 18, 22] m m1716 := W1674.trans W1721 (by decide)
            have B1748 : sf_B 0 600 (m1716 10) := T1719.2.2.1 10
            have B1749 : sf_B 0 4 (m1716 17) := T1719.2.2.1 17
            have B1750 : sf_B 0 1 (m1716 22) := T1719.2.2.1 22
            show pm_R _ 192 127 [.ref 41, .long a0, pm_no, .int a1, .int 2] [.int 1] _ _
            have R1751 : (m 10).toInt ≤ (m1716 10).toInt := (sf_aux70 _ _ _ R1676 X1726)
            obtain ⟨v1752, B1753, e1754⟩ := X1722 _ e1703
            refine pm_R_br pm_M192 (pc' := 132) (st' := []) (pm_q192_1 (Nat.le_of_ble_eq_true rfl)) rfl ?_
            refine pm_R_lo pm_M192 (pc' := 134) (pm_q192_1 (Nat.le_of_ble_eq_true rfl)) rfl rfl ?_
            refine pm_R_op pm_M192 (pc' := 135) (st' := [.int 1, .int 2]) (pm_q192_1 (Nat.le_of_ble_eq_true rfl)) rfl rfl ?_
            refine pm_R_br pm_M192 (pc' := 138) (st' := []) (pm_q192_1 (Nat.le_of_ble_eq_true rfl)) rfl ?_
            refine pm_R_lo pm_M192 (pc' := 140) (pm_q192_1 (Nat.le_of_ble_eq_true rfl)) rfl rfl ?_
            refine pm_R_op pm_M192 (pc' := 141) (st' := [.int 2, .int 2]) (pm_q192_1 (Nat.le_of_ble_eq_true rfl)) rfl rfl ?_
            refine pm_R_br pm_M192 (pc' := 150) (st' := []) (pm_q192_1 (Nat.le_of_ble_eq_true rfl)) rfl ?_
            refine pm_R_lo pm_M192 (pc' := 151) (pm_q192_1 (Nat.le_of_ble_eq_true rfl)) rfl rfl ?_
            refine pm_R_op pm_M192 (pc' := 152) (st' := [.int 2, .ref 41]) (pm_q192_1 (Nat.le_of_ble_eq_true rfl)) rfl rfl ?_
            refine pm_R_op pm_M192 (pc' := 154) (st' := [.int 9, .int 2, .ref 41]) (pm_q192_1 (Nat.le_of_ble_eq_true rfl)) rfl rfl ?_
            refine pm_R_op pm_M192 (pc' := 155) (st' := [.int (-1), .int 9, .int 2, .ref 41]) (pm_q192_1 (Nat.le_of_ble_eq_true rfl)) rfl rfl ?_
            refine pm_R_cv pm_M192 (pc' := 158) (a := 41) (ra := [.int (-1), .int 9, .int 2]) (rest := []) (ls' := [.ref 41, .int 2, .int 9, .int (-1)]) (pm_q192_1 (Nat.le_of_ble_eq_true rfl)) rfl (Or.inl rfl) pm_M183 T1719.2.1 rfl (by decide) (Nat.lt_of_lt_of_le (by decide) T1719.1) rfl rfl (Nat.le_of_ble_eq_true rfl) rfl rfl ?_
            refine rf_c183_2_9 (d := d + 0) T1719  (fun m1757 w1758 h1759 T1760 F1761 W1762 X1763 => ?_) (fun m1766 w1767 h1768 T1769 F1770 W1771 X1772 X1773 X1774 X1775 X1776 => ?_) (fun m1779 w1780 h1781 T1782 F1783 W1784 X1785 X1786 X1787 B1788 B1789 => ?_)
            · have F1790 := F1746.trans F1761 (by decide)
              have W1791 : rf_W [10, 12, 13, 14, 16, 17, 18, 22] m m1757 := W1747.trans W1762 (by decide)
              have B1792 : sf_B 0 600 (m1757 10) := T1760.2.2.1 10
              have B1793 : sf_B 0 4 (m1757 17) := T1760.2.2.1 17
              have B1794 : sf_B 0 1 (m1757 22) := T1760.2.2.1 22
              show pm_R _ 192 158 [.ref 41, .long a0, pm_no, .int a1, .int 2] [.int 0] _ _
              have R1795 : (m 10).toInt ≤ (m1757 10).toInt := (sf_aux70 _ _ _ R1751 X1763)
              refine pm_R_br pm_M192 (pc' := 161) (st' := []) (pm_q192_1 (Nat.le_of_ble_eq_true rfl)) rfl ?_
              refine pm_R_op pm_M192 (pc' := 162) (st' := [.int 0]) (pm_q192_1 (Nat.le_of_ble_eq_true rfl)) rfl rfl ?_
              exact pm_R_ret pm_M192 (r := some (.int 0)) (pm_q192_1 (Nat.le_of_ble_eq_true rfl)) rfl (K0 m1757 w1758 h1759 T1760 F1790 W1791 (sf_aux51 _ _ R1795))
            · have F1796 := F1746.trans F1770 (by decide)
              have W1797 : rf_W [10, 12, 13, 14, 16, 17, 18, 22] m m1766 := W1747.trans W1771 (by decide)
              have B1798 : sf_B 0 600 (m1766 10) := T1769.2.2.1 10
              have B1799 : sf_B 0 4 (m1766 17) := T1769.2.2.1 17
              have B1800 : sf_B 0 1 (m1766 22) := T1769.2.2.1 22
              show pm_R _ 192 158 [.ref 41, .long a0, pm_no, .int a1, .int 2] [.int 1] _ _
              have R1801 : (m 10).toInt ≤ (m1766 10).toInt := (sf_aux70 _ _ _ R1751 X1776)
              obtain ⟨v1802, B1803, e1804⟩ := X1772 _ e1754
              refine pm_R_br pm_M192 (pc' := 163) (st' := []) (pm_q192_1 (Nat.le_of_ble_eq_true rfl)) rfl ?_
              refine pm_R_lo pm_M192 (pc' := 164) (pm_q192_1 (Nat.le_of_ble_eq_true rfl)) rfl rfl ?_
              refine pm_R_op pm_M192 (pc' := 165) (st' := [.int 0, .ref 41]) (pm_q192_1 (Nat.le_of_ble_eq_true rfl)) rfl rfl ?_
              refine pm_R_op pm_M192 (pc' := 166) (st' := [.int 1, .int 0, .ref 41]) (pm_q192_1 (Nat.le_of_ble_eq_true rfl)) rfl rfl ?_
              refine pm_R_op pm_M192 (pc' := 167) (st' := [.int 3, .int 1, .int 0, .ref 41]) (pm_q192_1 (Nat.le_of_ble_eq_true rfl)) rfl rfl ?_
              refine pm_R_op pm_M192 (pc' := 169) (st' := [.int 8, .int 3, .int 1, .int 0, .ref 41]) (pm_q192_1 (Nat.le_of_ble_eq_true rfl)) rfl rfl ?_
              refine pm_R_op pm_M192 (pc' := 170) (st' := [.int 0, .int 8, .int 3, .int 1, .int 0, .ref 41]) (pm_q192_1 (Nat.le_of_ble_eq_true rfl)) rfl rfl ?_
              refine pm_R_cv pm_M192 (pc' := 173) (a := 41) (ra := [.int 0, .int 8, .int 3, .int 1, .int 0]) (rest := []) (ls' := [.ref 41, .int 0, .int 1, .int 3, .int 8, .int 0, pm_no, pm_no]) (pm_q192_1 (Nat.le_of_ble_eq_true rfl)) rfl (Or.inl rfl) pm_M185 T1769.2.1 rfl (by decide) (Nat.lt_of_lt_of_le (by decide) T1769.1) rfl rfl (Nat.le_of_ble_eq_true rfl) rfl rfl ?_
              have e1805 := (F1770.cell (by decide) (F1720.cell (by decide) (F1702.cell (by decide) (F1697.cell (by decide) (F1692.cell (by decide) (F1687.cell (by decide) (F1682.cell (by decide) (F1665.cell (by decide) (F1650.cell (by decide) e3)))))))))
              refine rf_c185_l (d := d + 2) T1769 (⟨f2, e1805, ct4, fun z => (sf_pos (sf_eqT X1773 (sf_eqT X1723 B1670)) (by decide) z)⟩) (fun z => sf_pos (sf_eqT X1773 (sf_eqT X1723 B1670)) (by decide) z) (fun m1808 w1809 h1810 T1811 F1812 W1813 X1814 => ?_)
              have F1815 := F1796.trans F1812 (by decide)
              have B1816 : sf_B 0 600 (m1808 10) := by rw [W1813 10 (by decide)]; exact B1798
              have ek1817 : (m1808 10).toInt = ((m1766 10)).toInt := by rw [W1813 10 (by decide)]
              have B1818 : sf_B 1 4 (m1808 17) := by rw [W1813 17 (by decide)]; exact (sf_eqT X1773 (sf_eqT X1723 B1670))
              have ek1819 : (m1808 17).toInt = ((m1716 17)).toInt := by rw [W1813 17 (by decide)]; exact X1773
              have B1820 : sf_B 0 1 (m1808 22) := by rw [W1813 22 (by decide)]; exact (sf_eqT X1774 (sf_eqT X1724 B1672))
              have ek1821 : (m1808 22).toInt = ((m1716 22)).toInt := by rw [W1813 22 (by decide)]; exact X1774
              have W1822 : rf_W [10, 12, 13, 14, 16, 17, 18, 22] m m1808 := W1797.trans W1813 (by decide)
              show pm_R _ 192 173 [.ref 41, .long a0, pm_no, .int a1, .int 2] [] _ _
              obtain ⟨f1823, e1824, ct1825, bd1826⟩ := X1814
              refine pm_R_op pm_M192 (pc' := 174) (st' := [.int 1]) (pm_q192_1 (Nat.le_of_ble_eq_true rfl)) rfl rfl ?_
              exact pm_R_ret pm_M192 (r := some (.int 1)) (pm_q192_1 (Nat.le_of_ble_eq_true rfl)) rfl (K1 m1808 w1809 h1810 T1811 F1815 W1822 (⟨f1823, e1824, ct1825, fun z => (sf_pos B1818 (by decide) z)⟩) (sf_aux39 _ _ _ ek1817 R1801))
            · have F1827 := F1746.trans F1783 (by decide)
              have W1828 : rf_W [10, 12, 13, 14, 16, 17, 18, 22] m m1779 := W1747.trans W1784 (by decide)
              have B1829 : sf_B 0 600 (m1779 10) := T1782.2.2.1 10
              have B1830 : sf_B 0 4 (m1779 17) := T1782.2.2.1 17
              have B1831 : sf_B 0 1 (m1779 22) := T1782.2.2.1 22
              show pm_R _ 192 158 [.ref 41, .long a0, pm_no, .int a1, .int 2] [.int 1] _ _
              have R1832 : (m 10).toInt ≤ (m1779 10).toInt := (sf_aux70 _ _ _ R1751 X1787)
              obtain ⟨v1833, B1834, e1835⟩ := X1785 _ e1754
              refine pm_R_br pm_M192 (pc' := 163) (st' := []) (pm_q192_1 (Nat.le_of_ble_eq_true rfl)) rfl ?_
              refine pm_R_lo pm_M192 (pc' := 164) (pm_q192_1 (Nat.le_of_ble_eq_true rfl)) rfl rfl ?_
              refine pm_R_op pm_M192 (pc' := 165) (st' := [.int 0, .ref 41]) (pm_q192_1 (Nat.le_of_ble_eq_true rfl)) rfl rfl ?_
              refine pm_R_op pm_M192 (pc' := 166) (st' := [.int 1, .int 0, .ref 41]) (pm_q192_1 (Nat.le_of_ble_eq_true rfl)) rfl rfl ?_
              refine pm_R_op pm_M192 (pc' := 167) (st' := [.int 3, .int 1, .int 0, .ref 41]) (pm_q192_1 (Nat.le_of_ble_eq_true rfl)) rfl rfl ?_
              refine pm_R_op pm_M192 (pc' := 169) (st' := [.int 8, .int 3, .int 1, .int 0, .ref 41]) (pm_q192_1 (Nat.le_of_ble_eq_true rfl)) rfl rfl ?_
              refine pm_R_op pm_M192 (pc' := 170) (st' := [.int 0, .int 8, .int 3, .int 1, .int 0, .ref 41]) (pm_q192_1 (Nat.le_of_ble_eq_true rfl)) rfl rfl ?_
              refine pm_R_cv pm_M192 (pc' := 173) (a := 41) (ra := [.int 0, .int 8, .int 3, .int 1, .int 0]) (rest := []) (ls' := [.ref 41, .int 0, .int 1, .int 3, .int 8, .int 0, pm_no, pm_no]) (pm_q192_1 (Nat.le_of_ble_eq_true rfl)) rfl (Or.inl rfl) pm_M185 T1782.2.1 rfl (by decide) (Nat.lt_of_lt_of_le (by decide) T1782.1) rfl rfl (Nat.le_of_ble_eq_true rfl) rfl rfl ?_
              have e1836 := (F1783.cell (by decide) (F1720.cell (by decide) (F1702.cell (by decide) (F1697.cell (by decide) (F1692.cell (by decide) (F1687.cell (by decide) (F1682.cell (by decide) (F1665.cell (by decide) (F1650.cell (by decide) e3)))))))))
              refine rf_c185_l (d := d + 2) T1782 (⟨f2, e1836, ct4, fun z => (sf_pos B1788 (by decide) z)⟩) (fun z => sf_pos B1788 (by decide) z) (fun m1839 w1840 h1841 T1842 F1843 W1844 X1845 => ?_)
              have F1846 := F1827.trans F1843 (by decide)
              have B1847 : sf_B 0 600 (m1839 10) := by rw [W1844 10 (by decide)]; exact B1829
              have ek1848 : (m1839 10).toInt = ((m1779 10)).toInt := by rw [W1844 10 (by decide)]
              have B1849 : sf_B 1 4 (m1839 17) := by rw [W1844 17 (by decide)]; exact B1788
              have ek1850 : (m1839 17).toInt = ((m1779 17)).toInt := by rw [W1844 17 (by decide)]
              have B1851 : sf_B 0 0 (m1839 22) := by rw [W1844 22 (by decide)]; exact B1789
              have ek1852 : (m1839 22).toInt = ((m1779 22)).toInt := by rw [W1844 22 (by decide)]
              have W1853 : rf_W [10, 12, 13, 14, 16, 17, 18, 22] m m1839 := W1828.trans W1844 (by decide)
              show pm_R _ 192 173 [.ref 41, .long a0, pm_no, .int a1, .int 2] [] _ _
              obtain ⟨f1854, e1855, ct1856, bd1857⟩ := X1845
              refine pm_R_op pm_M192 (pc' := 174) (st' := [.int 1]) (pm_q192_1 (Nat.le_of_ble_eq_true rfl)) rfl rfl ?_
              exact pm_R_ret pm_M192 (r := some (.int 1)) (pm_q192_1 (Nat.le_of_ble_eq_true rfl)) rfl (K1 m1839 w1840 h1841 T1842 F1846 W1853 (⟨f1854, e1855, ct1856, fun z => (sf_pos B1849 (by decide) z)⟩) (sf_aux39 _ _ _ ek1848 R1832))
          · have F1858 := F1704.trans F1733 (by decide)
            have W1859 : rf_W [10, 12, 13, 14, 16, 17, 18, 22] m m1729 := W1674.trans W1734 (by decide)
            have B1860 : sf_B 0 600 (m1729 10) := T1732.2.2.1 10
            have B1861 : sf_B 0 4 (m1729 17) := T1732.2.2.1 17
            have B1862 : sf_B 0 1 (m1729 22) := T1732.2.2.1 22
            show pm_R _ 192 127 [.ref 41, .long a0, pm_no, .int a1, .int 2] [.int 1] _ _
            have R1863 : (m 10).toInt ≤ (m1729 10).toInt := (sf_aux70 _ _ _ R1676 X1737)
            obtain ⟨v1864, B1865, e1866⟩ := X1735 _ e1703
            refine pm_R_br pm_M192 (pc' := 132) (st' := []) (pm_q192_1 (Nat.le_of_ble_eq_true rfl)) rfl ?_
            refine pm_R_lo pm_M192 (pc' := 134) (pm_q192_1 (Nat.le_of_ble_eq_true rfl)) rfl rfl ?_
            refine pm_R_op pm_M192 (pc' := 135) (st' := [.int 1, .int 2]) (pm_q192_1 (Nat.le_of_ble_eq_true rfl)) rfl rfl ?_
            refine pm_R_br pm_M192 (pc' := 138) (st' := []) (pm_q192_1 (Nat.le_of_ble_eq_true rfl)) rfl ?_
            refine pm_R_lo pm_M192 (pc' := 140) (pm_q192_1 (Nat.le_of_ble_eq_true rfl)) rfl rfl ?_
            refine pm_R_op pm_M192 (pc' := 141) (st' := [.int 2, .int 2]) (pm_q192_1 (Nat.le_of_ble_eq_true rfl)) rfl rfl ?_
            refine pm_R_br pm_M192 (pc' := 150) (st' := []) (pm_q192_1 (Nat.le_of_ble_eq_true rfl)) rfl ?_
            refine pm_R_lo pm_M192 (pc' := 151) (pm_q192_1 (Nat.le_of_ble_eq_true rfl)) rfl rfl ?_
            refine pm_R_op pm_M192 (pc' := 152) (st' := [.int 2, .ref 41]) (pm_q192_1 (Nat.le_of_ble_eq_true rfl)) rfl rfl ?_
            refine pm_R_op pm_M192 (pc' := 154) (st' := [.int 9, .int 2, .ref 41]) (pm_q192_1 (Nat.le_of_ble_eq_true rfl)) rfl rfl ?_
            refine pm_R_op pm_M192 (pc' := 155) (st' := [.int (-1), .int 9, .int 2, .ref 41]) (pm_q192_1 (Nat.le_of_ble_eq_true rfl)) rfl rfl ?_
            refine pm_R_cv pm_M192 (pc' := 158) (a := 41) (ra := [.int (-1), .int 9, .int 2]) (rest := []) (ls' := [.ref 41, .int 2, .int 9, .int (-1)]) (pm_q192_1 (Nat.le_of_ble_eq_true rfl)) rfl (Or.inl rfl) pm_M183 T1732.2.1 rfl (by decide) (Nat.lt_of_lt_of_le (by decide) T1732.1) rfl rfl (Nat.le_of_ble_eq_true rfl) rfl rfl ?_
            refine rf_c183_2_9 (d := d + 0) T1732  (fun m1869 w1870 h1871 T1872 F1873 W1874 X1875 => ?_) (fun m1878 w1879 h1880 T1881 F1882 W1883 X1884 X1885 X1886 X1887 X1888 => ?_) (fun m1891 w1892 h1893 T1894 F1895 W1896 X1897 X1898 X1899 B1900 B1901 => ?_)
            · have F1902 := F1858.trans F1873 (by decide)
              have W1903 : rf_W [10, 12, 13, 14, 16, 17, 18, 22] m m1869 := W1859.trans W1874 (by decide)
              have B1904 : sf_B 0 600 (m1869 10) := T1872.2.2.1 10
              have B1905 : sf_B 0 4 (m1869 17) := T1872.2.2.1 17
              have B1906 : sf_B 0 1 (m1869 22) := T1872.2.2.1 22
              show pm_R _ 192 158 [.ref 41, .long a0, pm_no, .int a1, .int 2] [.int 0] _ _
              have R1907 : (m 10).toInt ≤ (m1869 10).toInt := (sf_aux70 _ _ _ R1863 X1875)
              refine pm_R_br pm_M192 (pc' := 161) (st' := []) (pm_q192_1 (Nat.le_of_ble_eq_true rfl)) rfl ?_
              refine pm_R_op pm_M192 (pc' := 162) (st' := [.int 0]) (pm_q192_1 (Nat.le_of_ble_eq_true rfl)) rfl rfl ?_
              exact pm_R_ret pm_M192 (r := some (.int 0)) (pm_q192_1 (Nat.le_of_ble_eq_true rfl)) rfl (K0 m1869 w1870 h1871 T1872 F1902 W1903 (sf_aux51 _ _ R1907))
            · have F1908 := F1858.trans F1882 (by decide)
              have W1909 : rf_W [10, 12, 13, 14, 16, 17, 18, 22] m m1878 := W1859.trans W1883 (by decide)
              have B1910 : sf_B 0 600 (m1878 10) := T1881.2.2.1 10
              have B1911 : sf_B 0 4 (m1878 17) := T1881.2.2.1 17
              have B1912 : sf_B 0 1 (m1878 22) := T1881.2.2.1 22
              show pm_R _ 192 158 [.ref 41, .long a0, pm_no, .int a1, .int 2] [.int 1] _ _
              have R1913 : (m 10).toInt ≤ (m1878 10).toInt := (sf_aux70 _ _ _ R1863 X1888)
              obtain ⟨v1914, B1915, e1916⟩ := X1884 _ e1866
              refine pm_R_br pm_M192 (pc' := 163) (st' := []) (pm_q192_1 (Nat.le_of_ble_eq_true rfl)) rfl ?_
              refine pm_R_lo pm_M192 (pc' := 164) (pm_q192_1 (Nat.le_of_ble_eq_true rfl)) rfl rfl ?_
              refine pm_R_op pm_M192 (pc' := 165) (st' := [.int 0, .ref 41]) (pm_q192_1 (Nat.le_of_ble_eq_true rfl)) rfl rfl ?_
              refine pm_R_op pm_M192 (pc' := 166) (st' := [.int 1, .int 0, .ref 41]) (pm_q192_1 (Nat.le_of_ble_eq_true rfl)) rfl rfl ?_
              refine pm_R_op pm_M192 (pc' := 167) (st' := [.int 3, .int 1, .int 0, .ref 41]) (pm_q192_1 (Nat.le_of_ble_eq_true rfl)) rfl rfl ?_
              refine pm_R_op pm_M192 (pc' := 169) (st' := [.int 8, .int 3, .int 1, .int 0, .ref 41]) (pm_q192_1 (Nat.le_of_ble_eq_true rfl)) rfl rfl ?_
              refine pm_R_op pm_M192 (pc' := 170) (st' := [.int 0, .int 8, .int 3, .int 1, .int 0, .ref 41]) (pm_q192_1 (Nat.le_of_ble_eq_true rfl)) rfl rfl ?_
              refine pm_R_cv pm_M192 (pc' := 173) (a := 41) (ra := [.int 0, .int 8, .int 3, .int 1, .int 0]) (rest := []) (ls' := [.ref 41, .int 0, .int 1, .int 3, .int 8, .int 0, pm_no, pm_no]) (pm_q192_1 (Nat.le_of_ble_eq_true rfl)) rfl (Or.inl rfl) pm_M185 T1881.2.1 rfl (by decide) (Nat.lt_of_lt_of_le (by decide) T1881.1) rfl rfl (Nat.le_of_ble_eq_true rfl) rfl rfl ?_
              have e1917 := (F1882.cell (by decide) (F1733.cell (by decide) (F1702.cell (by decide) (F1697.cell (by decide) (F1692.cell (by decide) (F1687.cell (by decide) (F1682.cell (by decide) (F1665.cell (by decide) (F1650.cell (by decide) e3)))))))))
              refine rf_c185_l (d := d + 2) T1881 (⟨f2, e1917, ct4, fun z => (sf_pos (sf_eqT X1885 B1738) (by decide) z)⟩) (fun z => sf_pos (sf_eqT X1885 B1738) (by decide) z) (fun m1920 w1921 h1922 T1923 F1924 W1925 X1926 => ?_)
              have F1927 := F1908.trans F1924 (by decide)
              have B1928 : sf_B 0 600 (m1920 10) := by rw [W1925 10 (by decide)]; exact B1910
              have ek1929 : (m1920 10).toInt = ((m1878 10)).toInt := by rw [W1925 10 (by decide)]
              have B1930 : sf_B 1 4 (m1920 17) := by rw [W1925 17 (by decide)]; exact (sf_eqT X1885 B1738)
              have ek1931 : (m1920 17).toInt = ((m1729 17)).toInt := by rw [W1925 17 (by decide)]; exact X1885
              have B1932 : sf_B 0 0 (m1920 22) := by rw [W1925 22 (by decide)]; exact (sf_eqT X1886 B1739)
              have ek1933 : (m1920 22).toInt = ((m1729 22)).toInt := by rw [W1925 22 (by decide)]; exact X1886
              have W1934 : rf_W [10, 12, 13, 14, 16, 17, 18, 22] m m1920 := W1909.trans W1925 (by decide)
              show pm_R _ 192 173 [.ref 41, .long a0, pm_no, .int a1, .int 2] [] _ _
              obtain ⟨f1935, e1936, ct1937, bd1938⟩ := X1926
              refine pm_R_op pm_M192 (pc' := 174) (st' := [.int 1]) (pm_q192_1 (Nat.le_of_ble_eq_true rfl)) rfl rfl ?_
              exact pm_R_ret pm_M192 (r := some (.int 1)) (pm_q192_1 (Nat.le_of_ble_eq_true rfl)) rfl (K1 m1920 w1921 h1922 T1923 F1927 W1934 (⟨f1935, e1936, ct1937, fun z => (sf_pos B1930 (by decide) z)⟩) (sf_aux39 _ _ _ ek1929 R1913))
            · have F1939 := F1858.trans F1895 (by decide)
              have W1940 : rf_W [10, 12, 13, 14, 16, 17, 18, 22] m m1891 := W1859.trans W1896 (by decide)
              have B1941 : sf_B 0 600 (m1891 10) := T1894.2.2.1 10
              have B1942 : sf_B 0 4 (m1891 17) := T1894.2.2.1 17
              have B1943 : sf_B 0 1 (m1891 22) := T1894.2.2.1 22
              show pm_R _ 192 158 [.ref 41, .long a0, pm_no, .int a1, .int 2] [.int 1] _ _
              have R1944 : (m 10).toInt ≤ (m1891 10).toInt := (sf_aux70 _ _ _ R1863 X1899)
              obtain ⟨v1945, B1946, e1947⟩ := X1897 _ e1866
              refine pm_R_br pm_M192 (pc' := 163) (st' := []) (pm_q192_1 (Nat.le_of_ble_eq_true rfl)) rfl ?_
              refine pm_R_lo pm_M192 (pc' := 164) (pm_q192_1 (Nat.le_of_ble_eq_true rfl)) rfl rfl ?_
              refine pm_R_op pm_M192 (pc' := 165) (st' := [.int 0, .ref 41]) (pm_q192_1 (Nat.le_of_ble_eq_true rfl)) rfl rfl ?_
              refine pm_R_op pm_M192 (pc' := 166) (st' := [.int 1, .int 0, .ref 41]) (pm_q192_1 (Nat.le_of_ble_eq_true rfl)) rfl rfl ?_
              refine pm_R_op pm_M192 (pc' := 167) (st' := [.int 3, .int 1, .int 0, .ref 41]) (pm_q192_1 (Nat.le_of_ble_eq_true rfl)) rfl rfl ?_
              refine pm_R_op pm_M192 (pc' := 169) (st' := [.int 8, .int 3, .int 1, .int 0, .ref 41]) (pm_q192_1 (Nat.le_of_ble_eq_true rfl)) rfl rfl ?_
              refine pm_R_op pm_M192 (pc' := 170) (st' := [.int 0, .int 8, .int 3, .int 1, .int 0, .ref 41]) (pm_q192_1 (Nat.le_of_ble_eq_true rfl)) rfl rfl ?_
              refine pm_R_cv pm_M192 (pc' := 173) (a := 41) (ra := [.int 0, .int 8, .int 3, .int 1, .int 0]) (rest := []) (ls' := [.ref 41, .int 0, .int 1, .int 3, .int 8, .int 0, pm_no, pm_no]) (pm_q192_1 (Nat.le_of_ble_eq_true rfl)) rfl (Or.inl rfl) pm_M185 T1894.2.1 rfl (by decide) (Nat.lt_of_lt_of_le (by decide) T1894.1) rfl rfl (Nat.le_of_ble_eq_true rfl) rfl rfl ?_
              have e1948 := (F1895.cell (by decide) (F1733.cell (by decide) (F1702.cell (by decide) (F1697.cell (by decide) (F1692.cell (by decide) (F1687.cell (by decide) (F1682.cell (by decide) (F1665.cell (by decide) (F1650.cell (by decide) e3)))))))))
              refine rf_c185_l (d := d + 2) T1894 (⟨f2, e1948, ct4, fun z => (sf_pos B1900 (by decide) z)⟩) (fun z => sf_pos B1900 (by decide) z) (fun m1951 w1952 h1953 T1954 F1955 W1956 X1957 => ?_)
              have F1958 := F1939.trans F1955 (by decide)
              have B1959 : sf_B 0 600 (m1951 10) := by rw [W1956 10 (by decide)]; exact B1941
              have ek1960 : (m1951 10).toInt = ((m1891 10)).toInt := by rw [W1956 10 (by decide)]
              have B1961 : sf_B 1 4 (m1951 17) := by rw [W1956 17 (by decide)]; exact B1900
              have ek1962 : (m1951 17).toInt = ((m1891 17)).toInt := by rw [W1956 17 (by decide)]
              have B1963 : sf_B 0 0 (m1951 22) := by rw [W1956 22 (by decide)]; exact B1901
              have ek1964 : (m1951 22).toInt = ((m1891 22)).toInt := by rw [W1956 22 (by decide)]
              have W1965 : rf_W [10, 12, 13, 14, 16, 17, 18, 22] m m1951 := W1940.trans W1956 (by decide)
              show pm_R _ 192 173 [.ref 41, .long a0, pm_no, .int a1, .int 2] [] _ _
              obtain ⟨f1966, e1967, ct1968, bd1969⟩ := X1957
              refine pm_R_op pm_M192 (pc' := 174) (st' := [.int 1]) (pm_q192_1 (Nat.le_of_ble_eq_true rfl)) rfl rfl ?_
              exact pm_R_ret pm_M192 (r := some (.int 1)) (pm_q192_1 (Nat.le_of_ble_eq_true rfl)) rfl (K1 m1951 w1952 h1953 T1954 F1958 W1965 (⟨f1966, e1967, ct1968, fun z => (sf_pos B1961 (by decide) z)⟩) (sf_aux39 _ _ _ ek1960 R1944))
    · have B1970 : sf_B 0 0 z11 := sf_eqL (Classical.not_not.mp c13) sf_k0
      have B1971 : lf_B 1836020596 1836020596 a0 := lf_eqB e12 B1970 (⟨by decide, by decide⟩ : lf_B 1836020596 1836020596 1836020596)
      refine pm_R_op pm_M192 (pc' := 21) (st' := [.int 1]) rfl rfl rfl ?_
      refine pm_R_br pm_M192 (pc' := 73) rfl rfl ?_
      refine pm_R_lo pm_M192 (pc' := 75) (ls' := [.ref 41, .long a0, pm_no, .int a1, .int 1]) (st' := []) rfl rfl rfl ?_
      refine pm_R_lo pm_M192 (pc' := 77) rfl rfl rfl ?_
      refine pm_R_op pm_M192 (pc' := 78) (st' := [.int (-1), .int 1]) rfl rfl rfl ?_
      refine pm_R_br pm_M192 (pc' := 86) (st' := []) rfl rfl ?_
      refine pm_R_lo pm_M192 (pc' := 87) rfl rfl rfl ?_
      refine rf_R_get pm_M192 T (pc' := 90) (v := .ref 51) rfl rfl rfl rfl ?_
      refine pm_R_op pm_M192 (pc' := 91) (st' := [.int 0, .ref 51]) rfl rfl rfl ?_
      refine pm_R_iald pm_M192 (pc' := 92) (v := (f2 0)) rfl e3 (Nat.lt_of_lt_of_le (by decide) T.1) rfl rfl rfl ?_
      refine pm_R_op pm_M192 (pc' := 94) (st' := [.int 8, .int (f2 0)]) rfl rfl rfl ?_
      refine pm_R_icmp pm_M192 (t := 103) (pc' := 97) rfl rfl rfl (fun c1974 => ?_) (fun c1974 => ?_)
      · have B1975 : sf_B 0 7 (f2 0) := sf_neH0 c1974 sf_k8 ct4
        refine pm_R_lo pm_M192 (pc' := 104) rfl rfl rfl ?_
        refine pm_R_cv pm_M192 (pc' := 107) (a := 41) (ra := []) (rest := []) (ls' := [.ref 41, pm_no, pm_no]) rfl rfl (Or.inl rfl) pm_M179 T.2.1 rfl (by decide) (Nat.lt_of_lt_of_le (by decide) T.1) rfl rfl (Nat.le_of_ble_eq_true rfl) rfl rfl ?_
        refine rf_c179 (d := d + 1) T  (fun m1978 w1979 h1980 T1981 F1982 W1983 X1984 X1985 => ?_)
        have F1986 := (rf_G.refl [41, 51, 52] h).trans F1982 (by decide)
        have B1987 : sf_B 0 4 (m1978 17) := by rw [W1983 17 (by decide)]; exact B6
        have ek1988 : (m1978 17).toInt = ((m 17)).toInt := by rw [W1983 17 (by decide)]
        have W1989 : rf_W [10, 12, 13, 14, 16, 17, 18, 22] m m1978 := (rf_W.refl [10, 12, 13, 14, 16, 17, 18, 22] m).trans W1983 (by decide)
        have B1990 : sf_B 0 600 (m1978 10) := T1981.2.2.1 10
        have B1991 : sf_B 0 1 (m1978 22) := T1981.2.2.1 22
        show pm_R _ 192 107 [.ref 41, .long a0, pm_no, .int a1, .int 1] [] _ _
        have R1992 : (m 10).toInt ≤ (m1978 10).toInt := (sf_aux51 _ _ X1984)
        refine pm_R_lo pm_M192 (pc' := 108) rfl rfl rfl ?_
        refine pm_R_cv pm_M192 (pc' := 111) (a := 41) (ra := []) (rest := []) (ls' := [.ref 41, pm_no]) rfl rfl (Or.inl rfl) pm_M190 T1981.2.1 rfl (by decide) (Nat.lt_of_lt_of_le (by decide) T1981.1) rfl rfl (Nat.le_of_ble_eq_true rfl) rfl rfl ?_
        refine pm_R_op pm_M190 (pc' := 1) (st' := [.int 0]) rfl rfl rfl ?_
        refine pm_R_lo pm_M190 (pc' := 2) (ls' := [.ref 41, .int 0]) (st' := []) rfl rfl rfl ?_
        refine pm_R_lo pm_M190 (pc' := 3) rfl rfl rfl ?_
        refine pm_R_op pm_M190 (pc' := 4) (st' := [.int 4, .int 0]) rfl rfl rfl ?_
        refine pm_R_br pm_M190 (pc' := 7) (st' := []) rfl rfl ?_
        refine pm_R_lo pm_M190 (pc' := 8) rfl rfl rfl ?_
        refine rf_R_get pm_M190 T1981 (pc' := 11) (v := .ref 52) rfl rfl rfl rfl ?_
        refine pm_R_lo pm_M190 (pc' := 12) rfl rfl rfl ?_
        refine pm_R_op pm_M190 (pc' := 13) (st' := [.int (-1), .int 0, .ref 52]) rfl rfl rfl ?_
        obtain ⟨f1993, e1994, b1995⟩ := T1981.2.2.2.1 52 (by decide) (by decide)
        refine rf_R_ist pm_M190 T1981 (pc' := 14) rfl e1994 (by decide) (by decide) rfl ⟨_, rfl, sf_upd b1995 (sf_weak sf_kn1 (by decide) (by decide)) _⟩ rfl (fun h1996 T1997 F1998 e1999 => ?_)
        have F2000 := F1986.trans F1998 (by decide)
        refine pm_R_lo pm_M190 (pc' := 17) (ls' := [.ref 41, .int 1]) (st' := []) rfl rfl rfl ?_
        refine pm_R_br pm_M190 (pc' := 2) rfl rfl ?_
        refine pm_R_lo pm_M190 (pc' := 3) rfl rfl rfl ?_
        refine pm_R_op pm_M190 (pc' := 4) (st' := [.int 4, .int 1]) rfl rfl rfl ?_
        refine pm_R_br pm_M190 (pc' := 7) (st' := []) rfl rfl ?_
        refine pm_R_lo pm_M190 (pc' := 8) rfl rfl rfl ?_
        refine rf_R_get pm_M190 T1997 (pc' := 11) (v := .ref 52) rfl rfl rfl rfl ?_
        refine pm_R_lo pm_M190 (pc' := 12) rfl rfl rfl ?_
        refine pm_R_op pm_M190 (pc' := 13) (st' := [.int (-1), .int 1, .ref 52]) rfl rfl rfl ?_
        refine rf_R_ist pm_M190 T1997 (pc' := 14) rfl e1999 (by decide) (by decide) rfl ⟨_, rfl, sf_upd (sf_upd b1995 (sf_weak sf_kn1 (by decide) (by decide)) _) (sf_weak sf_kn1 (by decide) (by decide)) _⟩ rfl (fun h2001 T2002 F2003 e2004 => ?_)
        have F2005 := F2000.trans F2003 (by decide)
        refine pm_R_lo pm_M190 (pc' := 17) (ls' := [.ref 41, .int 2]) (st' := []) rfl rfl rfl ?_
        refine pm_R_br pm_M190 (pc' := 2) rfl rfl ?_
        refine pm_R_lo pm_M190 (pc' := 3) rfl rfl rfl ?_
        refine pm_R_op pm_M190 (pc' := 4) (st' := [.int 4, .int 2]) rfl rfl rfl ?_
        refine pm_R_br pm_M190 (pc' := 7) (st' := []) rfl rfl ?_
        refine pm_R_lo pm_M190 (pc' := 8) rfl rfl rfl ?_
        refine rf_R_get pm_M190 T2002 (pc' := 11) (v := .ref 52) rfl rfl rfl rfl ?_
        refine pm_R_lo pm_M190 (pc' := 12) rfl rfl rfl ?_
        refine pm_R_op pm_M190 (pc' := 13) (st' := [.int (-1), .int 2, .ref 52]) rfl rfl rfl ?_
        refine rf_R_ist pm_M190 T2002 (pc' := 14) rfl e2004 (by decide) (by decide) rfl ⟨_, rfl, sf_upd (sf_upd (sf_upd b1995 (sf_weak sf_kn1 (by decide) (by decide)) _) (sf_weak sf_kn1 (by decide) (by decide)) _) (sf_weak sf_kn1 (by decide) (by decide)) _⟩ rfl (fun h2006 T2007 F2008 e2009 => ?_)
        have F2010 := F2005.trans F2008 (by decide)
        refine pm_R_lo pm_M190 (pc' := 17) (ls' := [.ref 41, .int 3]) (st' := []) rfl rfl rfl ?_
        refine pm_R_br pm_M190 (pc' := 2) rfl rfl ?_
        refine pm_R_lo pm_M190 (pc' := 3) rfl rfl rfl ?_
        refine pm_R_op pm_M190 (pc' := 4) (st' := [.int 4, .int 3]) rfl rfl rfl ?_
        refine pm_R_br pm_M190 (pc' := 7) (st' := []) rfl rfl ?_
        refine pm_R_lo pm_M190 (pc' := 8) rfl rfl rfl ?_
        refine rf_R_get pm_M190 T2007 (pc' := 11) (v := .ref 52) rfl rfl rfl rfl ?_
        refine pm_R_lo pm_M190 (pc' := 12) rfl rfl rfl ?_
        refine pm_R_op pm_M190 (pc' := 13) (st' := [.int (-1), .int 3, .ref 52]) rfl rfl rfl ?_
        refine rf_R_ist pm_M190 T2007 (pc' := 14) rfl e2009 (by decide) (by decide) rfl ⟨_, rfl, sf_upd (sf_upd (sf_upd (sf_upd b1995 (sf_weak sf_kn1 (by decide) (by decide)) _) (sf_weak sf_kn1 (by decide) (by decide)) _) (sf_weak sf_kn1 (by decide) (by decide)) _) (sf_weak sf_kn1 (by decide) (by decide)) _⟩ rfl (fun h2011 T2012 F2013 e2014 => ?_)
        have F2015 := F2010.trans F2013 (by decide)
        refine pm_R_lo pm_M190 (pc' := 17) (ls' := [.ref 41, .int 4]) (st' := []) rfl rfl rfl ?_
        refine pm_R_br pm_M190 (pc' := 2) rfl rfl ?_
        refine pm_R_lo pm_M190 (pc' := 3) rfl rfl rfl ?_
        refine pm_R_op pm_M190 (pc' := 4) (st' := [.int 4, .int 4]) rfl rfl rfl ?_
        refine pm_R_br pm_M190 (pc' := 20) (st' := []) rfl rfl ?_
        refine pm_R_ret pm_M190 (r := none) rfl rfl ?_
        show pm_R _ 192 111 [.ref 41, .long a0, pm_no, .int a1, .int 1] [] _ _
        refine pm_R_lo pm_M192 (pc' := 112) rfl rfl rfl ?_
        refine rf_R_get pm_M192 T2012 (pc' := 115) (v := .ref 52) rfl rfl rfl rfl ?_
        refine pm_R_op pm_M192 (pc' := 116) (st' := [.int 0, .ref 52]) (pm_q192_1 (Nat.le_of_ble_eq_true rfl)) rfl rfl ?_
        refine pm_R_lo pm_M192 (pc' := 118) (pm_q192_1 (Nat.le_of_ble_eq_true rfl)) rfl rfl ?_
        refine rf_R_ist pm_M192 T2012 (pc' := 119) (pm_q192_1 (Nat.le_of_ble_eq_true rfl)) e2014 (by decide) (by decide) rfl ⟨_, rfl, sf_upd (sf_upd (sf_upd (sf_upd (sf_upd b1995 (sf_weak sf_kn1 (by decide) (by decide)) _) (sf_weak sf_kn1 (by decide) (by decide)) _) (sf_weak sf_kn1 (by decide) (by decide)) _) (sf_weak sf_kn1 (by decide) (by decide)) _) (sf_weak sf_k1 (by decide) (by decide)) _⟩ rfl (fun h2016 T2017 F2018 e2019 => ?_)
        have F2020 := F2015.trans F2018 (by decide)
        refine pm_R_lo pm_M192 (pc' := 120) (pm_q192_1 (Nat.le_of_ble_eq_true rfl)) rfl rfl ?_
        refine pm_R_op pm_M192 (pc' := 121) (st' := [.int 1, .ref 41]) (pm_q192_1 (Nat.le_of_ble_eq_true rfl)) rfl rfl ?_
        refine pm_R_op pm_M192 (pc' := 123) (st' := [.int 9, .int 1, .ref 41]) (pm_q192_1 (Nat.le_of_ble_eq_true rfl)) rfl rfl ?_
        refine pm_R_op pm_M192 (pc' := 124) (st' := [.int (-1), .int 9, .int 1, .ref 41]) (pm_q192_1 (Nat.le_of_ble_eq_true rfl)) rfl rfl ?_
        refine pm_R_cv pm_M192 (pc' := 127) (a := 41) (ra := [.int (-1), .int 9, .int 1]) (rest := []) (ls' := [.ref 41, .int 1, .int 9, .int (-1)]) (pm_q192_1 (Nat.le_of_ble_eq_true rfl)) rfl (Or.inl rfl) pm_M183 T2017.2.1 rfl (by decide) (Nat.lt_of_lt_of_le (by decide) T2017.1) rfl rfl (Nat.le_of_ble_eq_true rfl) rfl rfl ?_
        refine rf_c183_1_9 (d := d + 0) T2017  (fun m2023 w2024 h2025 T2026 F2027 W2028 X2029 => ?_) (fun m2032 w2033 h2034 T2035 F2036 W2037 X2038 X2039 X2040 X2041 X2042 => ?_) (fun m2045 w2046 h2047 T2048 F2049 W2050 X2051 X2052 X2053 B2054 B2055 => ?_)
        · have F2056 := F2020.trans F2027 (by decide)
          have W2057 : rf_W [10, 12, 13, 14, 16, 17, 18, 22] m m2023 := W1989.trans W2028 (by decide)
          have B2058 : sf_B 0 600 (m2023 10) := T2026.2.2.1 10
          have B2059 : sf_B 0 4 (m2023 17) := T2026.2.2.1 17
          have B2060 : sf_B 0 1 (m2023 22) := T2026.2.2.1 22
          show pm_R _ 192 127 [.ref 41, .long a0, pm_no, .int a1, .int 1] [.int 0] _ _
          have R2061 : (m 10).toInt ≤ (m2023 10).toInt := (sf_aux70 _ _ _ R1992 X2029)
          refine pm_R_br pm_M192 (pc' := 130) (st' := []) (pm_q192_1 (Nat.le_of_ble_eq_true rfl)) rfl ?_
          refine pm_R_op pm_M192 (pc' := 131) (st' := [.int 0]) (pm_q192_1 (Nat.le_of_ble_eq_true rfl)) rfl rfl ?_
          exact pm_R_ret pm_M192 (r := some (.int 0)) (pm_q192_1 (Nat.le_of_ble_eq_true rfl)) rfl (K0 m2023 w2024 h2025 T2026 F2056 W2057 (sf_aux51 _ _ R2061))
        · have F2062 := F2020.trans F2036 (by decide)
          have W2063 : rf_W [10, 12, 13, 14, 16, 17, 18, 22] m m2032 := W1989.trans W2037 (by decide)
          have B2064 : sf_B 0 600 (m2032 10) := T2035.2.2.1 10
          have B2065 : sf_B 0 4 (m2032 17) := T2035.2.2.1 17
          have B2066 : sf_B 0 1 (m2032 22) := T2035.2.2.1 22
          show pm_R _ 192 127 [.ref 41, .long a0, pm_no, .int a1, .int 1] [.int 1] _ _
          have R2067 : (m 10).toInt ≤ (m2032 10).toInt := (sf_aux70 _ _ _ R1992 X2042)
          obtain ⟨v2068, B2069, e2070⟩ := X2038 _ e2019
          refine pm_R_br pm_M192 (pc' := 132) (st' := []) (pm_q192_1 (Nat.le_of_ble_eq_true rfl)) rfl ?_
          refine pm_R_lo pm_M192 (pc' := 134) (pm_q192_1 (Nat.le_of_ble_eq_true rfl)) rfl rfl ?_
          refine pm_R_op pm_M192 (pc' := 135) (st' := [.int 1, .int 1]) (pm_q192_1 (Nat.le_of_ble_eq_true rfl)) rfl rfl ?_
          refine pm_R_br pm_M192 (pc' := 150) (st' := []) (pm_q192_1 (Nat.le_of_ble_eq_true rfl)) rfl ?_
          refine pm_R_lo pm_M192 (pc' := 151) (pm_q192_1 (Nat.le_of_ble_eq_true rfl)) rfl rfl ?_
          refine pm_R_op pm_M192 (pc' := 152) (st' := [.int 2, .ref 41]) (pm_q192_1 (Nat.le_of_ble_eq_true rfl)) rfl rfl ?_
          refine pm_R_op pm_M192 (pc' := 154) (st' := [.int 9, .int 2, .ref 41]) (pm_q192_1 (Nat.le_of_ble_eq_true rfl)) rfl rfl ?_
          refine pm_R_op pm_M192 (pc' := 155) (st' := [.int (-1), .int 9, .int 2, .ref 41]) (pm_q192_1 (Nat.le_of_ble_eq_true rfl)) rfl rfl ?_
          refine pm_R_cv pm_M192 (pc' := 158) (a := 41) (ra := [.int (-1), .int 9, .int 2]) (rest := []) (ls' := [.ref 41, .int 2, .int 9, .int (-1)]) (pm_q192_1 (Nat.le_of_ble_eq_true rfl)) rfl (Or.inl rfl) pm_M183 T2035.2.1 rfl (by decide) (Nat.lt_of_lt_of_le (by decide) T2035.1) rfl rfl (Nat.le_of_ble_eq_true rfl) rfl rfl ?_
          refine rf_c183_2_9 (d := d + 0) T2035  (fun m2073 w2074 h2075 T2076 F2077 W2078 X2079 => ?_) (fun m2082 w2083 h2084 T2085 F2086 W2087 X2088 X2089 X2090 X2091 X2092 => ?_) (fun m2095 w2096 h2097 T2098 F2099 W2100 X2101 X2102 X2103 B2104 B2105 => ?_)
          · have F2106 := F2062.trans F2077 (by decide)
            have W2107 : rf_W [10, 12, 13, 14, 16, 17, 18, 22] m m2073 := W2063.trans W2078 (by decide)
            have B2108 : sf_B 0 600 (m2073 10) := T2076.2.2.1 10
            have B2109 : sf_B 0 4 (m2073 17) := T2076.2.2.1 17
            have B2110 : sf_B 0 1 (m2073 22) := T2076.2.2.1 22
            show pm_R _ 192 158 [.ref 41, .long a0, pm_no, .int a1, .int 1] [.int 0] _ _
            have R2111 : (m 10).toInt ≤ (m2073 10).toInt := (sf_aux70 _ _ _ R2067 X2079)
            refine pm_R_br pm_M192 (pc' := 161) (st' := []) (pm_q192_1 (Nat.le_of_ble_eq_true rfl)) rfl ?_
            refine pm_R_op pm_M192 (pc' := 162) (st' := [.int 0]) (pm_q192_1 (Nat.le_of_ble_eq_true rfl)) rfl rfl ?_
            exact pm_R_ret pm_M192 (r := some (.int 0)) (pm_q192_1 (Nat.le_of_ble_eq_true rfl)) rfl (K0 m2073 w2074 h2075 T2076 F2106 W2107 (sf_aux51 _ _ R2111))
          · have F2112 := F2062.trans F2086 (by decide)
            have W2113 : rf_W [10, 12, 13, 14, 16, 17, 18, 22] m m2082 := W2063.trans W2087 (by decide)
            have B2114 : sf_B 0 600 (m2082 10) := T2085.2.2.1 10
            have B2115 : sf_B 0 4 (m2082 17) := T2085.2.2.1 17
            have B2116 : sf_B 0 1 (m2082 22) := T2085.2.2.1 22
            show pm_R _ 192 158 [.ref 41, .long a0, pm_no, .int a1, .int 1] [.int 1] _ _
            have R2117 : (m 10).toInt ≤ (m2082 10).toInt := (sf_aux70 _ _ _ R2067 X2092)
            obtain ⟨v2118, B2119, e2120⟩ := X2088 _ e2070
            refine pm_R_br pm_M192 (pc' := 163) (st' := []) (pm_q192_1 (Nat.le_of_ble_eq_true rfl)) rfl ?_
            refine pm_R_lo pm_M192 (pc' := 164) (pm_q192_1 (Nat.le_of_ble_eq_true rfl)) rfl rfl ?_
            refine pm_R_op pm_M192 (pc' := 165) (st' := [.int 0, .ref 41]) (pm_q192_1 (Nat.le_of_ble_eq_true rfl)) rfl rfl ?_
            refine pm_R_op pm_M192 (pc' := 166) (st' := [.int 1, .int 0, .ref 41]) (pm_q192_1 (Nat.le_of_ble_eq_true rfl)) rfl rfl ?_
            refine pm_R_op pm_M192 (pc' := 167) (st' := [.int 3, .int 1, .int 0, .ref 41]) (pm_q192_1 (Nat.le_of_ble_eq_true rfl)) rfl rfl ?_
            refine pm_R_op pm_M192 (pc' := 169) (st' := [.int 8, .int 3, .int 1, .int 0, .ref 41]) (pm_q192_1 (Nat.le_of_ble_eq_true rfl)) rfl rfl ?_
            refine pm_R_op pm_M192 (pc' := 170) (st' := [.int 0, .int 8, .int 3, .int 1, .int 0, .ref 41]) (pm_q192_1 (Nat.le_of_ble_eq_true rfl)) rfl rfl ?_
            refine pm_R_cv pm_M192 (pc' := 173) (a := 41) (ra := [.int 0, .int 8, .int 3, .int 1, .int 0]) (rest := []) (ls' := [.ref 41, .int 0, .int 1, .int 3, .int 8, .int 0, pm_no, pm_no]) (pm_q192_1 (Nat.le_of_ble_eq_true rfl)) rfl (Or.inl rfl) pm_M185 T2085.2.1 rfl (by decide) (Nat.lt_of_lt_of_le (by decide) T2085.1) rfl rfl (Nat.le_of_ble_eq_true rfl) rfl rfl ?_
            have e2121 := (F2086.cell (by decide) (F2036.cell (by decide) (F2018.cell (by decide) (F2013.cell (by decide) (F2008.cell (by decide) (F2003.cell (by decide) (F1998.cell (by decide) (F1982.cell (by decide) e3))))))))
            refine rf_c185_l (d := d + 2) T2085 (⟨f2, e2121, ct4, fun z => (bd5 (sf_aux73 _ _ _ _ ek1988 X2039 X2089 z))⟩) (fun _ g eg => by rw [e2120] at eg; cases eg; exact ⟨sf_eqL (Eq.trans (sf_upd_nec (k := Int32.toNatClampNeg 2) (j := Int32.toNatClampNeg 0) (by decide)) (Eq.trans (sf_upd_nec (k := Int32.toNatClampNeg 1) (j := Int32.toNatClampNeg 0) (by decide)) sf_upd_eq)) (sf_weak sf_k1 (by decide) (by decide)), sf_eqL (Eq.trans (sf_upd_nec (k := Int32.toNatClampNeg 2) (j := Int32.toNatClampNeg 1) (by decide)) sf_upd_eq) B2069, sf_eqL sf_upd_eq (sf_weak B2119 (by decide) (by decide))⟩) (fun m2124 w2125 h2126 T2127 F2128 W2129 X2130 => ?_)
            have F2131 := F2112.trans F2128 (by decide)
            have B2132 : sf_B 0 600 (m2124 10) := by rw [W2129 10 (by decide)]; exact B2114
            have ek2133 : (m2124 10).toInt = ((m2082 10)).toInt := by rw [W2129 10 (by decide)]
            have B2134 : sf_B 0 4 (m2124 17) := by rw [W2129 17 (by decide)]; exact (sf_eqT X2089 (sf_eqT X2039 B1987))
            have ek2135 : (m2124 17).toInt = ((m2032 17)).toInt := by rw [W2129 17 (by decide)]; exact X2089
            have B2136 : sf_B 0 1 (m2124 22) := by rw [W2129 22 (by decide)]; exact (sf_eqT X2090 (sf_eqT X2040 B1991))
            have ek2137 : (m2124 22).toInt = ((m2032 22)).toInt := by rw [W2129 22 (by decide)]; exact X2090
            have W2138 : rf_W [10, 12, 13, 14, 16, 17, 18, 22] m m2124 := W2113.trans W2129 (by decide)
            show pm_R _ 192 173 [.ref 41, .long a0, pm_no, .int a1, .int 1] [] _ _
            obtain ⟨f2139, e2140, ct2141, bd2142⟩ := X2130
            refine pm_R_op pm_M192 (pc' := 174) (st' := [.int 1]) (pm_q192_1 (Nat.le_of_ble_eq_true rfl)) rfl rfl ?_
            exact pm_R_ret pm_M192 (r := some (.int 1)) (pm_q192_1 (Nat.le_of_ble_eq_true rfl)) rfl (K1 m2124 w2125 h2126 T2127 F2131 W2138 (⟨f2139, e2140, ct2141, fun z => (bd2142 z)⟩) (sf_aux39 _ _ _ ek2133 R2117))
          · have F2143 := F2062.trans F2099 (by decide)
            have W2144 : rf_W [10, 12, 13, 14, 16, 17, 18, 22] m m2095 := W2063.trans W2100 (by decide)
            have B2145 : sf_B 0 600 (m2095 10) := T2098.2.2.1 10
            have B2146 : sf_B 0 4 (m2095 17) := T2098.2.2.1 17
            have B2147 : sf_B 0 1 (m2095 22) := T2098.2.2.1 22
            show pm_R _ 192 158 [.ref 41, .long a0, pm_no, .int a1, .int 1] [.int 1] _ _
            have R2148 : (m 10).toInt ≤ (m2095 10).toInt := (sf_aux70 _ _ _ R2067 X2103)
            obtain ⟨v2149, B2150, e2151⟩ := X2101 _ e2070
            refine pm_R_br pm_M192 (pc' := 163) (st' := []) (pm_q192_1 (Nat.le_of_ble_eq_true rfl)) rfl ?_
            refine pm_R_lo pm_M192 (pc' := 164) (pm_q192_1 (Nat.le_of_ble_eq_true rfl)) rfl rfl ?_
            refine pm_R_op pm_M192 (pc' := 165) (st' := [.int 0, .ref 41]) (pm_q192_1 (Nat.le_of_ble_eq_true rfl)) rfl rfl ?_
            refine pm_R_op pm_M192 (pc' := 166) (st' := [.int 1, .int 0, .ref 41]) (pm_q192_1 (Nat.le_of_ble_eq_true rfl)) rfl rfl ?_
            refine pm_R_op pm_M192 (pc' := 167) (st' := [.int 3, .int 1, .int 0, .ref 41]) (pm_q192_1 (Nat.le_of_ble_eq_true rfl)) rfl rfl ?_
            refine pm_R_op pm_M192 (pc' := 169) (st' := [.int 8, .int 3, .int 1, .int 0, .ref 41]) (pm_q192_1 (Nat.le_of_ble_eq_true rfl)) rfl rfl ?_
            refine pm_R_op pm_M192 (pc' := 170) (st' := [.int 0, .int 8, .int 3, .int 1, .int 0, .ref 41]) (pm_q192_1 (Nat.le_of_ble_eq_true rfl)) rfl rfl ?_
            refine pm_R_cv pm_M192 (pc' := 173) (a := 41) (ra := [.int 0, .int 8, .int 3, .int 1, .int 0]) (rest := []) (ls' := [.ref 41, .int 0, .int 1, .int 3, .int 8, .int 0, pm_no, pm_no]) (pm_q192_1 (Nat.le_of_ble_eq_true rfl)) rfl (Or.inl rfl) pm_M185 T2098.2.1 rfl (by decide) (Nat.lt_of_lt_of_le (by decide) T2098.1) rfl rfl (Nat.le_of_ble_eq_true rfl) rfl rfl ?_
            have e2152 := (F2099.cell (by decide) (F2036.cell (by decide) (F2018.cell (by decide) (F2013.cell (by decide) (F2008.cell (by decide) (F2003.cell (by decide) (F1998.cell (by decide) (F1982.cell (by decide) e3))))))))
            refine rf_c185_l (d := d + 2) T2098 (⟨f2, e2152, ct4, fun z => (sf_pos B2104 (by decide) z)⟩) (fun z => sf_pos B2104 (by decide) z) (fun m2155 w2156 h2157 T2158 F2159 W2160 X2161 => ?_)
            have F2162 := F2143.trans F2159 (by decide)
            have B2163 : sf_B 0 600 (m2155 10) := by rw [W2160 10 (by decide)]; exact B2145
            have ek2164 : (m2155 10).toInt = ((m2095 10)).toInt := by rw [W2160 10 (by decide)]
            have B2165 : sf_B 1 4 (m2155 17) := by rw [W2160 17 (by decide)]; exact B2104
            have ek2166 : (m2155 17).toInt = ((m2095 17)).toInt := by rw [W2160 17 (by decide)]
            have B2167 : sf_B 0 0 (m2155 22) := by rw [W2160 22 (by decide)]; exact B2105
            have ek2168 : (m2155 22).toInt = ((m2095 22)).toInt := by rw [W2160 22 (by decide)]
            have W2169 : rf_W [10, 12, 13, 14, 16, 17, 18, 22] m m2155 := W2144.trans W2160 (by decide)
            show pm_R _ 192 173 [.ref 41, .long a0, pm_no, .int a1, .int 1] [] _ _
            obtain ⟨f2170, e2171, ct2172, bd2173⟩ := X2161
            refine pm_R_op pm_M192 (pc' := 174) (st' := [.int 1]) (pm_q192_1 (Nat.le_of_ble_eq_true rfl)) rfl rfl ?_
            exact pm_R_ret pm_M192 (r := some (.int 1)) (pm_q192_1 (Nat.le_of_ble_eq_true rfl)) rfl (K1 m2155 w2156 h2157 T2158 F2162 W2169 (⟨f2170, e2171, ct2172, fun z => (sf_pos B2165 (by decide) z)⟩) (sf_aux39 _ _ _ ek2164 R2148))
        · have F2174 := F2020.trans F2049 (by decide)
          have W2175 : rf_W [10, 12, 13, 14, 16, 17, 18, 22] m m2045 := W1989.trans W2050 (by decide)
          have B2176 : sf_B 0 600 (m2045 10) := T2048.2.2.1 10
          have B2177 : sf_B 0 4 (m2045 17) := T2048.2.2.1 17
          have B2178 : sf_B 0 1 (m2045 22) := T2048.2.2.1 22
          show pm_R _ 192 127 [.ref 41, .long a0, pm_no, .int a1, .int 1] [.int 1] _ _
          have R2179 : (m 10).toInt ≤ (m2045 10).toInt := (sf_aux70 _ _ _ R1992 X2053)
          obtain ⟨v2180, B2181, e2182⟩ := X2051 _ e2019
          refine pm_R_br pm_M192 (pc' := 132) (st' := []) (pm_q192_1 (Nat.le_of_ble_eq_true rfl)) rfl ?_
          refine pm_R_lo pm_M192 (pc' := 134) (pm_q192_1 (Nat.le_of_ble_eq_true rfl)) rfl rfl ?_
          refine pm_R_op pm_M192 (pc' := 135) (st' := [.int 1, .int 1]) (pm_q192_1 (Nat.le_of_ble_eq_true rfl)) rfl rfl ?_
          refine pm_R_br pm_M192 (pc' := 150) (st' := []) (pm_q192_1 (Nat.le_of_ble_eq_true rfl)) rfl ?_
          refine pm_R_lo pm_M192 (pc' := 151) (pm_q192_1 (Nat.le_of_ble_eq_true rfl)) rfl rfl ?_
          refine pm_R_op pm_M192 (pc' := 152) (st' := [.int 2, .ref 41]) (pm_q192_1 (Nat.le_of_ble_eq_true rfl)) rfl rfl ?_
          refine pm_R_op pm_M192 (pc' := 154) (st' := [.int 9, .int 2, .ref 41]) (pm_q192_1 (Nat.le_of_ble_eq_true rfl)) rfl rfl ?_
          refine pm_R_op pm_M192 (pc' := 155) (st' := [.int (-1), .int 9, .int 2, .ref 41]) (pm_q192_1 (Nat.le_of_ble_eq_true rfl)) rfl rfl ?_
          refine pm_R_cv pm_M192 (pc' := 158) (a := 41) (ra := [.int (-1), .int 9, .int 2]) (rest := []) (ls' := [.ref 41, .int 2, .int 9, .int (-1)]) (pm_q192_1 (Nat.le_of_ble_eq_true rfl)) rfl (Or.inl rfl) pm_M183 T2048.2.1 rfl (by decide) (Nat.lt_of_lt_of_le (by decide) T2048.1) rfl rfl (Nat.le_of_ble_eq_true rfl) rfl rfl ?_
          refine rf_c183_2_9 (d := d + 0) T2048  (fun m2185 w2186 h2187 T2188 F2189 W2190 X2191 => ?_) (fun m2194 w2195 h2196 T2197 F2198 W2199 X2200 X2201 X2202 X2203 X2204 => ?_) (fun m2207 w2208 h2209 T2210 F2211 W2212 X2213 X2214 X2215 B2216 B2217 => ?_)
          · have F2218 := F2174.trans F2189 (by decide)
            have W2219 : rf_W [10, 12, 13, 14, 16, 17, 18, 22] m m2185 := W2175.trans W2190 (by decide)
            have B2220 : sf_B 0 600 (m2185 10) := T2188.2.2.1 10
            have B2221 : sf_B 0 4 (m2185 17) := T2188.2.2.1 17
            have B2222 : sf_B 0 1 (m2185 22) := T2188.2.2.1 22
            show pm_R _ 192 158 [.ref 41, .long a0, pm_no, .int a1, .int 1] [.int 0] _ _
            have R2223 : (m 10).toInt ≤ (m2185 10).toInt := (sf_aux70 _ _ _ R2179 X2191)
            refine pm_R_br pm_M192 (pc' := 161) (st' := []) (pm_q192_1 (Nat.le_of_ble_eq_true rfl)) rfl ?_
            refine pm_R_op pm_M192 (pc' := 162) (st' := [.int 0]) (pm_q192_1 (Nat.le_of_ble_eq_true rfl)) rfl rfl ?_
            exact pm_R_ret pm_M192 (r := some (.int 0)) (pm_q192_1 (Nat.le_of_ble_eq_true rfl)) rfl (K0 m2185 w2186 h2187 T2188 F2218 W2219 (sf_aux51 _ _ R2223))
          · have F2224 := F2174.trans F2198 (by decide)
            have W2225 : rf_W [10, 12, 13, 14, 16, 17, 18, 22] m m2194 := W2175.trans W2199 (by decide)
            have B2226 : sf_B 0 600 (m2194 10) := T2197.2.2.1 10
            have B2227 : sf_B 0 4 (m2194 17) := T2197.2.2.1 17
            have B2228 : sf_B 0 1 (m2194 22) := T2197.2.2.1 22
            show pm_R _ 192 158 [.ref 41, .long a0, pm_no, .int a1, .int 1] [.int 1] _ _
            have R2229 : (m 10).toInt ≤ (m2194 10).toInt := (sf_aux70 _ _ _ R2179 X2204)
            obtain ⟨v2230, B2231, e2232⟩ := X2200 _ e2182
            refine pm_R_br pm_M192 (pc' := 163) (st' := []) (pm_q192_1 (Nat.le_of_ble_eq_true rfl)) rfl ?_
            refine pm_R_lo pm_M192 (pc' := 164) (pm_q192_1 (Nat.le_of_ble_eq_true rfl)) rfl rfl ?_
            refine pm_R_op pm_M192 (pc' := 165) (st' := [.int 0, .ref 41]) (pm_q192_1 (Nat.le_of_ble_eq_true rfl)) rfl rfl ?_
            refine pm_R_op pm_M192 (pc' := 166) (st' := [.int 1, .int 0, .ref 41]) (pm_q192_1 (Nat.le_of_ble_eq_true rfl)) rfl rfl ?_
            refine pm_R_op pm_M192 (pc' := 167) (st' := [.int 3, .int 1, .int 0, .ref 41]) (pm_q192_1 (Nat.le_of_ble_eq_true rfl)) rfl rfl ?_
            refine pm_R_op pm_M192 (pc' := 169) (st' := [.int 8, .int 3, .int 1, .int 0, .ref 41]) (pm_q192_1 (Nat.le_of_ble_eq_true rfl)) rfl rfl ?_
            refine pm_R_op pm_M192 (pc' := 170) (st' := [.int 0, .int 8, .int 3, .int 1, .int 0, .ref 41]) (pm_q192_1 (Nat.le_of_ble_eq_true rfl)) rfl rfl ?_
            refine pm_R_cv pm_M192 (pc' := 173) (a := 41) (ra := [.int 0, .int 8, .int 3, .int 1, .int 0]) (rest := []) (ls' := [.ref 41, .int 0, .int 1, .int 3, .int 8, .int 0, pm_no, pm_no]) (pm_q192_1 (Nat.le_of_ble_eq_true rfl)) rfl (Or.inl rfl) pm_M185 T2197.2.1 rfl (by decide) (Nat.lt_of_lt_of_le (by decide) T2197.1) rfl rfl (Nat.le_of_ble_eq_true rfl) rfl rfl ?_
            have e2233 := (F2198.cell (by decide) (F2049.cell (by decide) (F2018.cell (by decide) (F2013.cell (by decide) (F2008.cell (by decide) (F2003.cell (by decide) (F1998.cell (by decide) (F1982.cell (by decide) e3))))))))
            refine rf_c185_l (d := d + 2) T2197 (⟨f2, e2233, ct4, fun z => (sf_pos (sf_eqT X2201 B2054) (by decide) z)⟩) (fun z => sf_pos (sf_eqT X2201 B2054) (by decide) z) (fun m2236 w2237 h2238 T2239 F2240 W2241 X2242 => ?_)
            have F2243 := F2224.trans F2240 (by decide)
            have B2244 : sf_B 0 600 (m2236 10) := by rw [W2241 10 (by decide)]; exact B2226
            have ek2245 : (m2236 10).toInt = ((m2194 10)).toInt := by rw [W2241 10 (by decide)]
            have B2246 : sf_B 1 4 (m2236 17) := by rw [W2241 17 (by decide)]; exact (sf_eqT X2201 B2054)
            have ek2247 : (m2236 17).toInt = ((m2045 17)).toInt := by rw [W2241 17 (by decide)]; exact X2201
            have B2248 : sf_B 0 0 (m2236 22) := by rw [W2241 22 (by decide)]; exact (sf_eqT X2202 B2055)
            have ek2249 : (m2236 22).toInt = ((m2045 22)).toInt := by rw [W2241 22 (by decide)]; exact X2202
            have W2250 : rf_W [10, 12, 13, 14, 16, 17, 18, 22] m m2236 := W2225.trans W2241 (by decide)
            show pm_R _ 192 173 [.ref 41, .long a0, pm_no, .int a1, .int 1] [] _ _
            obtain ⟨f2251, e2252, ct2253, bd2254⟩ := X2242
            refine pm_R_op pm_M192 (pc' := 174) (st' := [.int 1]) (pm_q192_1 (Nat.le_of_ble_eq_true rfl)) rfl rfl ?_
            exact pm_R_ret pm_M192 (r := some (.int 1)) (pm_q192_1 (Nat.le_of_ble_eq_true rfl)) rfl (K1 m2236 w2237 h2238 T2239 F2243 W2250 (⟨f2251, e2252, ct2253, fun z => (sf_pos B2246 (by decide) z)⟩) (sf_aux39 _ _ _ ek2245 R2229))
          · have F2255 := F2174.trans F2211 (by decide)
            have W2256 : rf_W [10, 12, 13, 14, 16, 17, 18, 22] m m2207 := W2175.trans W2212 (by decide)
            have B2257 : sf_B 0 600 (m2207 10) := T2210.2.2.1 10
            have B2258 : sf_B 0 4 (m2207 17) := T2210.2.2.1 17
            have B2259 : sf_B 0 1 (m2207 22) := T2210.2.2.1 22
            show pm_R _ 192 158 [.ref 41, .long a0, pm_no, .int a1, .int 1] [.int 1] _ _
            have R2260 : (m 10).toInt ≤ (m2207 10).toInt := (sf_aux70 _ _ _ R2179 X2215)
            obtain ⟨v2261, B2262, e2263⟩ := X2213 _ e2182
            refine pm_R_br pm_M192 (pc' := 163) (st' := []) (pm_q192_1 (Nat.le_of_ble_eq_true rfl)) rfl ?_
            refine pm_R_lo pm_M192 (pc' := 164) (pm_q192_1 (Nat.le_of_ble_eq_true rfl)) rfl rfl ?_
            refine pm_R_op pm_M192 (pc' := 165) (st' := [.int 0, .ref 41]) (pm_q192_1 (Nat.le_of_ble_eq_true rfl)) rfl rfl ?_
            refine pm_R_op pm_M192 (pc' := 166) (st' := [.int 1, .int 0, .ref 41]) (pm_q192_1 (Nat.le_of_ble_eq_true rfl)) rfl rfl ?_
            refine pm_R_op pm_M192 (pc' := 167) (st' := [.int 3, .int 1, .int 0, .ref 41]) (pm_q192_1 (Nat.le_of_ble_eq_true rfl)) rfl rfl ?_
            refine pm_R_op pm_M192 (pc' := 169) (st' := [.int 8, .int 3, .int 1, .int 0, .ref 41]) (pm_q192_1 (Nat.le_of_ble_eq_true rfl)) rfl rfl ?_
            refine pm_R_op pm_M192 (pc' := 170) (st' := [.int 0, .int 8, .int 3, .int 1, .int 0, .ref 41]) (pm_q192_1 (Nat.le_of_ble_eq_true rfl)) rfl rfl ?_
            refine pm_R_cv pm_M192 (pc' := 173) (a := 41) (ra := [.int 0, .int 8, .int 3, .int 1, .int 0]) (rest := []) (ls' := [.ref 41, .int 0, .int 1, .int 3, .int 8, .int 0, pm_no, pm_no]) (pm_q192_1 (Nat.le_of_ble_eq_true rfl)) rfl (Or.inl rfl) pm_M185 T2210.2.1 rfl (by decide) (Nat.lt_of_lt_of_le (by decide) T2210.1) rfl rfl (Nat.le_of_ble_eq_true rfl) rfl rfl ?_
            have e2264 := (F2211.cell (by decide) (F2049.cell (by decide) (F2018.cell (by decide) (F2013.cell (by decide) (F2008.cell (by decide) (F2003.cell (by decide) (F1998.cell (by decide) (F1982.cell (by decide) e3))))))))
            refine rf_c185_l (d := d + 2) T2210 (⟨f2, e2264, ct4, fun z => (sf_pos B2216 (by decide) z)⟩) (fun z => sf_pos B2216 (by decide) z) (fun m2267 w2268 h2269 T2270 F2271 W2272 X2273 => ?_)
            have F2274 := F2255.trans F2271 (by decide)
            have B2275 : sf_B 0 600 (m2267 10) := by rw [W2272 10 (by decide)]; exact B2257
            have ek2276 : (m2267 10).toInt = ((m2207 10)).toInt := by rw [W2272 10 (by decide)]
            have B2277 : sf_B 1 4 (m2267 17) := by rw [W2272 17 (by decide)]; exact B2216
            have ek2278 : (m2267 17).toInt = ((m2207 17)).toInt := by rw [W2272 17 (by decide)]
            have B2279 : sf_B 0 0 (m2267 22) := by rw [W2272 22 (by decide)]; exact B2217
            have ek2280 : (m2267 22).toInt = ((m2207 22)).toInt := by rw [W2272 22 (by decide)]
            have W2281 : rf_W [10, 12, 13, 14, 16, 17, 18, 22] m m2267 := W2256.trans W2272 (by decide)
            show pm_R _ 192 173 [.ref 41, .long a0, pm_no, .int a1, .int 1] [] _ _
            obtain ⟨f2282, e2283, ct2284, bd2285⟩ := X2273
            refine pm_R_op pm_M192 (pc' := 174) (st' := [.int 1]) (pm_q192_1 (Nat.le_of_ble_eq_true rfl)) rfl rfl ?_
            exact pm_R_ret pm_M192 (r := some (.int 1)) (pm_q192_1 (Nat.le_of_ble_eq_true rfl)) rfl (K1 m2267 w2268 h2269 T2270 F2274 W2281 (⟨f2282, e2283, ct2284, fun z => (sf_pos B2277 (by decide) z)⟩) (sf_aux39 _ _ _ ek2276 R2260))
      · have B2286 : sf_B 8 8 (f2 0) := sf_eqL (Classical.not_not.mp c1974) sf_k8
        refine pm_R_lo pm_M192 (pc' := 98) rfl rfl rfl ?_
        refine pm_R_op pm_M192 (pc' := 99) (st' := [.int 3, .ref 41]) rfl rfl rfl ?_
        refine pm_R_lo pm_M192 (pc' := 100) rfl rfl rfl ?_
        refine pm_R_cv pm_M192 (pc' := 103) (a := 41) (ra := [.int a1, .int 3]) (rest := []) (ls' := [.ref 41, .int 3, .int a1]) rfl rfl (Or.inl rfl) pm_M182 T.2.1 rfl (by decide) (Nat.lt_of_lt_of_le (by decide) T.1) rfl rfl (Nat.le_of_ble_eq_true rfl) rfl rfl ?_
        refine rf_c182 (d := d + 2) T (sf_weak sf_k3 (by decide) (by decide)) Ba1 (fun m2289 w2290 h2291 T2292 F2293 W2294 B2295 => ?_)
        have F2296 := (rf_G.refl [41, 51, 52] h).trans F2293 (by decide)
        have B2297 : sf_B 0 600 (m2289 10) := by rw [W2294 10 (by decide)]; exact B1
        have ek2298 : (m2289 10).toInt = ((m 10)).toInt := by rw [W2294 10 (by decide)]
        have W2299 : rf_W [10, 12, 13, 14, 16, 17, 18, 22] m m2289 := (rf_W.refl [10, 12, 13, 14, 16, 17, 18, 22] m).trans W2294 (by decide)
        have B2300 : sf_B 0 4 (m2289 17) := T2292.2.2.1 17
        have B2301 : sf_B 0 1 (m2289 22) := T2292.2.2.1 22
        show pm_R _ 192 103 [.ref 41, .long a0, pm_no, .int a1, .int 1] [] _ _
        refine pm_R_lo pm_M192 (pc' := 104) rfl rfl rfl ?_
        refine pm_R_cv pm_M192 (pc' := 107) (a := 41) (ra := []) (rest := []) (ls' := [.ref 41, pm_no, pm_no]) rfl rfl (Or.inl rfl) pm_M179 T2292.2.1 rfl (by decide) (Nat.lt_of_lt_of_le (by decide) T2292.1) rfl rfl (Nat.le_of_ble_eq_true rfl) rfl rfl ?_
        refine rf_c179 (d := d + 1) T2292  (fun m2304 w2305 h2306 T2307 F2308 W2309 X2310 X2311 => ?_)
        have F2312 := F2296.trans F2308 (by decide)
        have B2313 : sf_B 1 4 (m2304 17) := by rw [W2309 17 (by decide)]; exact B2295
        have ek2314 : (m2304 17).toInt = ((m2289 17)).toInt := by rw [W2309 17 (by decide)]
        have B2315 : sf_B 0 1 (m2304 22) := by rw [W2309 22 (by decide)]; exact B2301
        have ek2316 : (m2304 22).toInt = ((m2289 22)).toInt := by rw [W2309 22 (by decide)]
        have W2317 : rf_W [10, 12, 13, 14, 16, 17, 18, 22] m m2304 := W2299.trans W2309 (by decide)
        have B2318 : sf_B 0 600 (m2304 10) := T2307.2.2.1 10
        show pm_R _ 192 107 [.ref 41, .long a0, pm_no, .int a1, .int 1] [] _ _
        have R2319 : (m 10).toInt ≤ (m2304 10).toInt := (sf_aux53 _ _ _ ek2298 X2310)
        refine pm_R_lo pm_M192 (pc' := 108) rfl rfl rfl ?_
        refine pm_R_cv pm_M192 (pc' := 111) (a := 41) (ra := []) (rest := []) (ls' := [.ref 41, pm_no]) rfl rfl (Or.inl rfl) pm_M190 T2307.2.1 rfl (by decide) (Nat.lt_of_lt_of_le (by decide) T2307.1) rfl rfl (Nat.le_of_ble_eq_true rfl) rfl rfl ?_
        refine pm_R_op pm_M190 (pc' := 1) (st' := [.int 0]) rfl rfl rfl ?_
        refine pm_R_lo pm_M190 (pc' := 2) (ls' := [.ref 41, .int 0]) (st' := []) rfl rfl rfl ?_
        refine pm_R_lo pm_M190 (pc' := 3) rfl rfl rfl ?_
        refine pm_R_op pm_M190 (pc' := 4) (st' := [.int 4, .int 0]) rfl rfl rfl ?_
        refine pm_R_br pm_M190 (pc' := 7) (st' := []) rfl rfl ?_
        refine pm_R_lo pm_M190 (pc' := 8) rfl rfl rfl ?_
        refine rf_R_get pm_M190 T2307 (pc' := 11) (v := .ref 52) rfl rfl rfl rfl ?_
        refine pm_R_lo pm_M190 (pc' := 12) rfl rfl rfl ?_
        refine pm_R_op pm_M190 (pc' := 13) (st' := [.int (-1), .int 0, .ref 52]) rfl rfl rfl ?_
        obtain ⟨f2320, e2321, b2322⟩ := T2307.2.2.2.1 52 (by decide) (by decide)
        refine rf_R_ist pm_M190 T2307 (pc' := 14) rfl e2321 (by decide) (by decide) rfl ⟨_, rfl, sf_upd b2322 (sf_weak sf_kn1 (by decide) (by decide)) _⟩ rfl (fun h2323 T2324 F2325 e2326 => ?_)
        have F2327 := F2312.trans F2325 (by decide)
        refine pm_R_lo pm_M190 (pc' := 17) (ls' := [.ref 41, .int 1]) (st' := []) rfl rfl rfl ?_
        refine pm_R_br pm_M190 (pc' := 2) rfl rfl ?_
        refine pm_R_lo pm_M190 (pc' := 3) rfl rfl rfl ?_
        refine pm_R_op pm_M190 (pc' := 4) (st' := [.int 4, .int 1]) rfl rfl rfl ?_
        refine pm_R_br pm_M190 (pc' := 7) (st' := []) rfl rfl ?_
        refine pm_R_lo pm_M190 (pc' := 8) rfl rfl rfl ?_
        refine rf_R_get pm_M190 T2324 (pc' := 11) (v := .ref 52) rfl rfl rfl rfl ?_
        refine pm_R_lo pm_M190 (pc' := 12) rfl rfl rfl ?_
        refine pm_R_op pm_M190 (pc' := 13) (st' := [.int (-1), .int 1, .ref 52]) rfl rfl rfl ?_
        refine rf_R_ist pm_M190 T2324 (pc' := 14) rfl e2326 (by decide) (by decide) rfl ⟨_, rfl, sf_upd (sf_upd b2322 (sf_weak sf_kn1 (by decide) (by decide)) _) (sf_weak sf_kn1 (by decide) (by decide)) _⟩ rfl (fun h2328 T2329 F2330 e2331 => ?_)
        have F2332 := F2327.trans F2330 (by decide)
        refine pm_R_lo pm_M190 (pc' := 17) (ls' := [.ref 41, .int 2]) (st' := []) rfl rfl rfl ?_
        refine pm_R_br pm_M190 (pc' := 2) rfl rfl ?_
        refine pm_R_lo pm_M190 (pc' := 3) rfl rfl rfl ?_
        refine pm_R_op pm_M190 (pc' := 4) (st' := [.int 4, .int 2]) rfl rfl rfl ?_
        refine pm_R_br pm_M190 (pc' := 7) (st' := []) rfl rfl ?_
        refine pm_R_lo pm_M190 (pc' := 8) rfl rfl rfl ?_
        refine rf_R_get pm_M190 T2329 (pc' := 11) (v := .ref 52) rfl rfl rfl rfl ?_
        refine pm_R_lo pm_M190 (pc' := 12) rfl rfl rfl ?_
        refine pm_R_op pm_M190 (pc' := 13) (st' := [.int (-1), .int 2, .ref 52]) rfl rfl rfl ?_
        refine rf_R_ist pm_M190 T2329 (pc' := 14) rfl e2331 (by decide) (by decide) rfl ⟨_, rfl, sf_upd (sf_upd (sf_upd b2322 (sf_weak sf_kn1 (by decide) (by decide)) _) (sf_weak sf_kn1 (by decide) (by decide)) _) (sf_weak sf_kn1 (by decide) (by decide)) _⟩ rfl (fun h2333 T2334 F2335 e2336 => ?_)
        have F2337 := F2332.trans F2335 (by decide)
        refine pm_R_lo pm_M190 (pc' := 17) (ls' := [.ref 41, .int 3]) (st' := []) rfl rfl rfl ?_
        refine pm_R_br pm_M190 (pc' := 2) rfl rfl ?_
        refine pm_R_lo pm_M190 (pc' := 3) rfl rfl rfl ?_
        refine pm_R_op pm_M190 (pc' := 4) (st' := [.int 4, .int 3]) rfl rfl rfl ?_
        refine pm_R_br pm_M190 (pc' := 7) (st' := []) rfl rfl ?_
        refine pm_R_lo pm_M190 (pc' := 8) rfl rfl rfl ?_
        refine rf_R_get pm_M190 T2334 (pc' := 11) (v := .ref 52) rfl rfl rfl rfl ?_
        refine pm_R_lo pm_M190 (pc' := 12) rfl rfl rfl ?_
        refine pm_R_op pm_M190 (pc' := 13) (st' := [.int (-1), .int 3, .ref 52]) rfl rfl rfl ?_
        refine rf_R_ist pm_M190 T2334 (pc' := 14) rfl e2336 (by decide) (by decide) rfl ⟨_, rfl, sf_upd (sf_upd (sf_upd (sf_upd b2322 (sf_weak sf_kn1 (by decide) (by decide)) _) (sf_weak sf_kn1 (by decide) (by decide)) _) (sf_weak sf_kn1 (by decide) (by decide)) _) (sf_weak sf_kn1 (by decide) (by decide)) _⟩ rfl (fun h2338 T2339 F2340 e2341 => ?_)
        have F2342 := F2337.trans F2340 (by decide)
        refine pm_R_lo pm_M190 (pc' := 17) (ls' := [.ref 41, .int 4]) (st' := []) rfl rfl rfl ?_
        refine pm_R_br pm_M190 (pc' := 2) rfl rfl ?_
        refine pm_R_lo pm_M190 (pc' := 3) rfl rfl rfl ?_
        refine pm_R_op pm_M190 (pc' := 4) (st' := [.int 4, .int 4]) rfl rfl rfl ?_
        refine pm_R_br pm_M190 (pc' := 20) (st' := []) rfl rfl ?_
        refine pm_R_ret pm_M190 (r := none) rfl rfl ?_
        show pm_R _ 192 111 [.ref 41, .long a0, pm_no, .int a1, .int 1] [] _ _
        refine pm_R_lo pm_M192 (pc' := 112) rfl rfl rfl ?_
        refine rf_R_get pm_M192 T2339 (pc' := 115) (v := .ref 52) rfl rfl rfl rfl ?_
        refine pm_R_op pm_M192 (pc' := 116) (st' := [.int 0, .ref 52]) (pm_q192_1 (Nat.le_of_ble_eq_true rfl)) rfl rfl ?_
        refine pm_R_lo pm_M192 (pc' := 118) (pm_q192_1 (Nat.le_of_ble_eq_true rfl)) rfl rfl ?_
        refine rf_R_ist pm_M192 T2339 (pc' := 119) (pm_q192_1 (Nat.le_of_ble_eq_true rfl)) e2341 (by decide) (by decide) rfl ⟨_, rfl, sf_upd (sf_upd (sf_upd (sf_upd (sf_upd b2322 (sf_weak sf_kn1 (by decide) (by decide)) _) (sf_weak sf_kn1 (by decide) (by decide)) _) (sf_weak sf_kn1 (by decide) (by decide)) _) (sf_weak sf_kn1 (by decide) (by decide)) _) (sf_weak sf_k1 (by decide) (by decide)) _⟩ rfl (fun h2343 T2344 F2345 e2346 => ?_)
        have F2347 := F2342.trans F2345 (by decide)
        refine pm_R_lo pm_M192 (pc' := 120) (pm_q192_1 (Nat.le_of_ble_eq_true rfl)) rfl rfl ?_
        refine pm_R_op pm_M192 (pc' := 121) (st' := [.int 1, .ref 41]) (pm_q192_1 (Nat.le_of_ble_eq_true rfl)) rfl rfl ?_
        refine pm_R_op pm_M192 (pc' := 123) (st' := [.int 9, .int 1, .ref 41]) (pm_q192_1 (Nat.le_of_ble_eq_true rfl)) rfl rfl ?_
        refine pm_R_op pm_M192 (pc' := 124) (st' := [.int (-1), .int 9, .int 1, .ref 41]) (pm_q192_1 (Nat.le_of_ble_eq_true rfl)) rfl rfl ?_
        refine pm_R_cv pm_M192 (pc' := 127) (a := 41) (ra := [.int (-1), .int 9, .int 1]) (rest := []) (ls' := [.ref 41, .int 1, .int 9, .int (-1)]) (pm_q192_1 (Nat.le_of_ble_eq_true rfl)) rfl (Or.inl rfl) pm_M183 T2344.2.1 rfl (by decide) (Nat.lt_of_lt_of_le (by decide) T2344.1) rfl rfl (Nat.le_of_ble_eq_true rfl) rfl rfl ?_
        refine rf_c183_1_9 (d := d + 0) T2344  (fun m2350 w2351 h2352 T2353 F2354 W2355 X2356 => ?_) (fun m2359 w2360 h2361 T2362 F2363 W2364 X2365 X2366 X2367 X2368 X2369 => ?_) (fun m2372 w2373 h2374 T2375 F2376 W2377 X2378 X2379 X2380 B2381 B2382 => ?_)
        · have F2383 := F2347.trans F2354 (by decide)
          have W2384 : rf_W [10, 12, 13, 14, 16, 17, 18, 22] m m2350 := W2317.trans W2355 (by decide)
          have B2385 : sf_B 0 600 (m2350 10) := T2353.2.2.1 10
          have B2386 : sf_B 0 4 (m2350 17) := T2353.2.2.1 17
          have B2387 : sf_B 0 1 (m2350 22) := T2353.2.2.1 22
          show pm_R _ 192 127 [.ref 41, .long a0, pm_no, .int a1, .int 1] [.int 0] _ _
          have R2388 : (m 10).toInt ≤ (m2350 10).toInt := (sf_aux70 _ _ _ R2319 X2356)
          refine pm_R_br pm_M192 (pc' := 130) (st' := []) (pm_q192_1 (Nat.le_of_ble_eq_true rfl)) rfl ?_
          refine pm_R_op pm_M192 (pc' := 131) (st' := [.int 0]) (pm_q192_1 (Nat.le_of_ble_eq_true rfl)) rfl rfl ?_
          exact pm_R_ret pm_M192 (r := some (.int 0)) (pm_q192_1 (Nat.le_of_ble_eq_true rfl)) rfl (K0 m2350 w2351 h2352 T2353 F2383 W2384 (sf_aux51 _ _ R2388))
        · have F2389 := F2347.trans F2363 (by decide)
          have W2390 : rf_W [10, 12, 13, 14, 16, 17, 18, 22] m m2359 := W2317.trans W2364 (by decide)
          have B2391 : sf_B 0 600 (m2359 10) := T2362.2.2.1 10
          have B2392 : sf_B 0 4 (m2359 17) := T2362.2.2.1 17
          have B2393 : sf_B 0 1 (m2359 22) := T2362.2.2.1 22
          show pm_R _ 192 127 [.ref 41, .long a0, pm_no, .int a1, .int 1] [.int 1] _ _
          have R2394 : (m 10).toInt ≤ (m2359 10).toInt := (sf_aux70 _ _ _ R2319 X2369)
          obtain ⟨v2395, B2396, e2397⟩ := X2365 _ e2346
          refine pm_R_br pm_M192 (pc' := 132) (st' := []) (pm_q192_1 (Nat.le_of_ble_eq_true rfl)) rfl ?_
          refine pm_R_lo pm_M192 (pc' := 134) (pm_q192_1 (Nat.le_of_ble_eq_true rfl)) rfl rfl ?_
          refine pm_R_op pm_M192 (pc' := 135) (st' := [.int 1, .int 1]) (pm_q192_1 (Nat.le_of_ble_eq_true rfl)) rfl rfl ?_
          refine pm_R_br pm_M192 (pc' := 150) (st' := []) (pm_q192_1 (Nat.le_of_ble_eq_true rfl)) rfl ?_
          refine pm_R_lo pm_M192 (pc' := 151) (pm_q192_1 (Nat.le_of_ble_eq_true rfl)) rfl rfl ?_
          refine pm_R_op pm_M192 (pc' := 152) (st' := [.int 2, .ref 41]) (pm_q192_1 (Nat.le_of_ble_eq_true rfl)) rfl rfl ?_
          refine pm_R_op pm_M192 (pc' := 154) (st' := [.int 9, .int 2, .ref 41]) (pm_q192_1 (Nat.le_of_ble_eq_true rfl)) rfl rfl ?_
          refine pm_R_op pm_M192 (pc' := 155) (st' := [.int (-1), .int 9, .int 2, .ref 41]) (pm_q192_1 (Nat.le_of_ble_eq_true rfl)) rfl rfl ?_
          refine pm_R_cv pm_M192 (pc' := 158) (a := 41) (ra := [.int (-1), .int 9, .int 2]) (rest := []) (ls' := [.ref 41, .int 2, .int 9, .int (-1)]) (pm_q192_1 (Nat.le_of_ble_eq_true rfl)) rfl (Or.inl rfl) pm_M183 T2362.2.1 rfl (by decide) (Nat.lt_of_lt_of_le (by decide) T2362.1) rfl rfl (Nat.le_of_ble_eq_true rfl) rfl rfl ?_
          refine rf_c183_2_9 (d := d + 0) T2362  (fun m2400 w2401 h2402 T2403 F2404 W2405 X2406 => ?_) (fun m2409 w2410 h2411 T2412 F2413 W2414 X2415 X2416 X2417 X2418 X2419 => ?_) (fun m2422 w2423 h2424 T2425 F2426 W2427 X2428 X2429 X2430 B2431 B2432 => ?_)
          · have F2433 := F2389.trans F2404 (by decide)
            have W2434 : rf_W [10, 12, 13, 14, 16, 17, 18, 22] m m2400 := W2390.trans W2405 (by decide)
            have B2435 : sf_B 0 600 (m2400 10) := T2403.2.2.1 10
            have B2436 : sf_B 0 4 (m2400 17) := T2403.2.2.1 17
            have B2437 : sf_B 0 1 (m2400 22) := T2403.2.2.1 22
            show pm_R _ 192 158 [.ref 41, .long a0, pm_no, .int a1, .int 1] [.int 0] _ _
            have R2438 : (m 10).toInt ≤ (m2400 10).toInt := (sf_aux70 _ _ _ R2394 X2406)
            refine pm_R_br pm_M192 (pc' := 161) (st' := []) (pm_q192_1 (Nat.le_of_ble_eq_true rfl)) rfl ?_
            refine pm_R_op pm_M192 (pc' := 162) (st' := [.int 0]) (pm_q192_1 (Nat.le_of_ble_eq_true rfl)) rfl rfl ?_
            exact pm_R_ret pm_M192 (r := some (.int 0)) (pm_q192_1 (Nat.le_of_ble_eq_true rfl)) rfl (K0 m2400 w2401 h2402 T2403 F2433 W2434 (sf_aux51 _ _ R2438))
          · have F2439 := F2389.trans F2413 (by decide)
            have W2440 : rf_W [10, 12, 13, 14, 16, 17, 18, 22] m m2409 := W2390.trans W2414 (by decide)
            have B2441 : sf_B 0 600 (m2409 10) := T2412.2.2.1 10
            have B2442 : sf_B 0 4 (m2409 17) := T2412.2.2.1 17
            have B2443 : sf_B 0 1 (m2409 22) := T2412.2.2.1 22
            show pm_R _ 192 158 [.ref 41, .long a0, pm_no, .int a1, .int 1] [.int 1] _ _
            have R2444 : (m 10).toInt ≤ (m2409 10).toInt := (sf_aux70 _ _ _ R2394 X2419)
            obtain ⟨v2445, B2446, e2447⟩ := X2415 _ e2397
            refine pm_R_br pm_M192 (pc' := 163) (st' := []) (pm_q192_1 (Nat.le_of_ble_eq_true rfl)) rfl ?_
            refine pm_R_lo pm_M192 (pc' := 164) (pm_q192_1 (Nat.le_of_ble_eq_true rfl)) rfl rfl ?_
            refine pm_R_op pm_M192 (pc' := 165) (st' := [.int 0, .ref 41]) (pm_q192_1 (Nat.le_of_ble_eq_true rfl)) rfl rfl ?_
            refine pm_R_op pm_M192 (pc' := 166) (st' := [.int 1, .int 0, .ref 41]) (pm_q192_1 (Nat.le_of_ble_eq_true rfl)) rfl rfl ?_
            refine pm_R_op pm_M192 (pc' := 167) (st' := [.int 3, .int 1, .int 0, .ref 41]) (pm_q192_1 (Nat.le_of_ble_eq_true rfl)) rfl rfl ?_
            refine pm_R_op pm_M192 (pc' := 169) (st' := [.int 8, .int 3, .int 1, .int 0, .ref 41]) (pm_q192_1 (Nat.le_of_ble_eq_true rfl)) rfl rfl ?_
            refine pm_R_op pm_M192 (pc' := 170) (st' := [.int 0, .int 8, .int 3, .int 1, .int 0, .ref 41]) (pm_q192_1 (Nat.le_of_ble_eq_true rfl)) rfl rfl ?_
            refine pm_R_cv pm_M192 (pc' := 173) (a := 41) (ra := [.int 0, .int 8, .int 3, .int 1, .int 0]) (rest := []) (ls' := [.ref 41, .int 0, .int 1, .int 3, .int 8, .int 0, pm_no, pm_no]) (pm_q192_1 (Nat.le_of_ble_eq_true rfl)) rfl (Or.inl rfl) pm_M185 T2412.2.1 rfl (by decide) (Nat.lt_of_lt_of_le (by decide) T2412.1) rfl rfl (Nat.le_of_ble_eq_true rfl) rfl rfl ?_
            have e2448 := (F2413.cell (by decide) (F2363.cell (by decide) (F2345.cell (by decide) (F2340.cell (by decide) (F2335.cell (by decide) (F2330.cell (by decide) (F2325.cell (by decide) (F2308.cell (by decide) (F2293.cell (by decide) e3)))))))))
            refine rf_c185_l (d := d + 2) T2412 (⟨f2, e2448, ct4, fun z => (sf_pos (sf_eqT X2416 (sf_eqT X2366 B2313)) (by decide) z)⟩) (fun z => sf_pos (sf_eqT X2416 (sf_eqT X2366 B2313)) (by decide) z) (fun m2451 w2452 h2453 T2454 F2455 W2456 X2457 => ?_)
            have F2458 := F2439.trans F2455 (by decide)
            have B2459 : sf_B 0 600 (m2451 10) := by rw [W2456 10 (by decide)]; exact B2441
            have ek2460 : (m2451 10).toInt = ((m2409 10)).toInt := by rw [W2456 10 (by decide)]
            have B2461 : sf_B 1 4 (m2451 17) := by rw [W2456 17 (by decide)]; exact (sf_eqT X2416 (sf_eqT X2366 B2313))
            have ek2462 : (m2451 17).toInt = ((m2359 17)).toInt := by rw [W2456 17 (by decide)]; exact X2416
            have B2463 : sf_B 0 1 (m2451 22) := by rw [W2456 22 (by decide)]; exact (sf_eqT X2417 (sf_eqT X2367 B2315))
            have ek2464 : (m2451 22).toInt = ((m2359 22)).toInt := by rw [W2456 22 (by decide)]; exact X2417
            have W2465 : rf_W [10, 12, 13, 14, 16, 17, 18, 22] m m2451 := W2440.trans W2456 (by decide)
            show pm_R _ 192 173 [.ref 41, .long a0, pm_no, .int a1, .int 1] [] _ _
            obtain ⟨f2466, e2467, ct2468, bd2469⟩ := X2457
            refine pm_R_op pm_M192 (pc' := 174) (st' := [.int 1]) (pm_q192_1 (Nat.le_of_ble_eq_true rfl)) rfl rfl ?_
            exact pm_R_ret pm_M192 (r := some (.int 1)) (pm_q192_1 (Nat.le_of_ble_eq_true rfl)) rfl (K1 m2451 w2452 h2453 T2454 F2458 W2465 (⟨f2466, e2467, ct2468, fun z => (sf_pos B2461 (by decide) z)⟩) (sf_aux39 _ _ _ ek2460 R2444))
          · have F2470 := F2389.trans F2426 (by decide)
            have W2471 : rf_W [10, 12, 13, 14, 16, 17, 18, 22] m m2422 := W2390.trans W2427 (by decide)
            have B2472 : sf_B 0 600 (m2422 10) := T2425.2.2.1 10
            have B2473 : sf_B 0 4 (m2422 17) := T2425.2.2.1 17
            have B2474 : sf_B 0 1 (m2422 22) := T2425.2.2.1 22
            show pm_R _ 192 158 [.ref 41, .long a0, pm_no, .int a1, .int 1] [.int 1] _ _
            have R2475 : (m 10).toInt ≤ (m2422 10).toInt := (sf_aux70 _ _ _ R2394 X2430)
            obtain ⟨v2476, B2477, e2478⟩ := X2428 _ e2397
            refine pm_R_br pm_M192 (pc' := 163) (st' := []) (pm_q192_1 (Nat.le_of_ble_eq_true rfl)) rfl ?_
            refine pm_R_lo pm_M192 (pc' := 164) (pm_q192_1 (Nat.le_of_ble_eq_true rfl)) rfl rfl ?_
            refine pm_R_op pm_M192 (pc' := 165) (st' := [.int 0, .ref 41]) (pm_q192_1 (Nat.le_of_ble_eq_true rfl)) rfl rfl ?_
            refine pm_R_op pm_M192 (pc' := 166) (st' := [.int 1, .int 0, .ref 41]) (pm_q192_1 (Nat.le_of_ble_eq_true rfl)) rfl rfl ?_
            refine pm_R_op pm_M192 (pc' := 167) (st' := [.int 3, .int 1, .int 0, .ref 41]) (pm_q192_1 (Nat.le_of_ble_eq_true rfl)) rfl rfl ?_
            refine pm_R_op pm_M192 (pc' := 169) (st' := [.int 8, .int 3, .int 1, .int 0, .ref 41]) (pm_q192_1 (Nat.le_of_ble_eq_true rfl)) rfl rfl ?_
            refine pm_R_op pm_M192 (pc' := 170) (st' := [.int 0, .int 8, .int 3, .int 1, .int 0, .ref 41]) (pm_q192_1 (Nat.le_of_ble_eq_true rfl)) rfl rfl ?_
            refine pm_R_cv pm_M192 (pc' := 173) (a := 41) (ra := [.int 0, .int 8, .int 3, .int 1, .int 0]) (rest := []) (ls' := [.ref 41, .int 0, .int 1, .int 3, .int 8, .int 0, pm_no, pm_no]) (pm_q192_1 (Nat.le_of_ble_eq_true rfl)) rfl (Or.inl rfl) pm_M185 T2425.2.1 rfl (by decide) (Nat.lt_of_lt_of_le (by decide) T2425.1) rfl rfl (Nat.le_of_ble_eq_true rfl) rfl rfl ?_
            have e2479 := (F2426.cell (by decide) (F2363.cell (by decide) (F2345.cell (by decide) (F2340.cell (by decide) (F2335.cell (by decide) (F2330.cell (by decide) (F2325.cell (by decide) (F2308.cell (by decide) (F2293.cell (by decide) e3)))))))))
            refine rf_c185_l (d := d + 2) T2425 (⟨f2, e2479, ct4, fun z => (sf_pos B2431 (by decide) z)⟩) (fun z => sf_pos B2431 (by decide) z) (fun m2482 w2483 h2484 T2485 F2486 W2487 X2488 => ?_)
            have F2489 := F2470.trans F2486 (by decide)
            have B2490 : sf_B 0 600 (m2482 10) := by rw [W2487 10 (by decide)]; exact B2472
            have ek2491 : (m2482 10).toInt = ((m2422 10)).toInt := by rw [W2487 10 (by decide)]
            have B2492 : sf_B 1 4 (m2482 17) := by rw [W2487 17 (by decide)]; exact B2431
            have ek2493 : (m2482 17).toInt = ((m2422 17)).toInt := by rw [W2487 17 (by decide)]
            have B2494 : sf_B 0 0 (m2482 22) := by rw [W2487 22 (by decide)]; exact B2432
            have ek2495 : (m2482 22).toInt = ((m2422 22)).toInt := by rw [W2487 22 (by decide)]
            have W2496 : rf_W [10, 12, 13, 14, 16, 17, 18, 22] m m2482 := W2471.trans W2487 (by decide)
            show pm_R _ 192 173 [.ref 41, .long a0, pm_no, .int a1, .int 1] [] _ _
            obtain ⟨f2497, e2498, ct2499, bd2500⟩ := X2488
            refine pm_R_op pm_M192 (pc' := 174) (st' := [.int 1]) (pm_q192_1 (Nat.le_of_ble_eq_true rfl)) rfl rfl ?_
            exact pm_R_ret pm_M192 (r := some (.int 1)) (pm_q192_1 (Nat.le_of_ble_eq_true rfl)) rfl (K1 m2482 w2483 h2484 T2485 F2489 W2496 (⟨f2497, e2498, ct2499, fun z => (sf_pos B2492 (by decide) z)⟩) (sf_aux39 _ _ _ ek2491 R2475))
        · have F2501 := F2347.trans F2376 (by decide)
          have W2502 : rf_W [10, 12, 13, 14, 16, 17, 18, 22] m m2372 := W2317.trans W2377 (by decide)
          have B2503 : sf_B 0 600 (m2372 10) := T2375.2.2.1 10
          have B2504 : sf_B 0 4 (m2372 17) := T2375.2.2.1 17
          have B2505 : sf_B 0 1 (m2372 22) := T2375.2.2.1 22
          show pm_R _ 192 127 [.ref 41, .long a0, pm_no, .int a1, .int 1] [.int 1] _ _
          have R2506 : (m 10).toInt ≤ (m2372 10).toInt := (sf_aux70 _ _ _ R2319 X2380)
          obtain ⟨v2507, B2508, e2509⟩ := X2378 _ e2346
          refine pm_R_br pm_M192 (pc' := 132) (st' := []) (pm_q192_1 (Nat.le_of_ble_eq_true rfl)) rfl ?_
          refine pm_R_lo pm_M192 (pc' := 134) (pm_q192_1 (Nat.le_of_ble_eq_true rfl)) rfl rfl ?_
          refine pm_R_op pm_M192 (pc' := 135) (st' := [.int 1, .int 1]) (pm_q192_1 (Nat.le_of_ble_eq_true rfl)) rfl rfl ?_
          refine pm_R_br pm_M192 (pc' := 150) (st' := []) (pm_q192_1 (Nat.le_of_ble_eq_true rfl)) rfl ?_
          refine pm_R_lo pm_M192 (pc' := 151) (pm_q192_1 (Nat.le_of_ble_eq_true rfl)) rfl rfl ?_
          refine pm_R_op pm_M192 (pc' := 152) (st' := [.int 2, .ref 41]) (pm_q192_1 (Nat.le_of_ble_eq_true rfl)) rfl rfl ?_
          refine pm_R_op pm_M192 (pc' := 154) (st' := [.int 9, .int 2, .ref 41]) (pm_q192_1 (Nat.le_of_ble_eq_true rfl)) rfl rfl ?_
          refine pm_R_op pm_M192 (pc' := 155) (st' := [.int (-1), .int 9, .int 2, .ref 41]) (pm_q192_1 (Nat.le_of_ble_eq_true rfl)) rfl rfl ?_
          refine pm_R_cv pm_M192 (pc' := 158) (a := 41) (ra := [.int (-1), .int 9, .int 2]) (rest := []) (ls' := [.ref 41, .int 2, .int 9, .int (-1)]) (pm_q192_1 (Nat.le_of_ble_eq_true rfl)) rfl (Or.inl rfl) pm_M183 T2375.2.1 rfl (by decide) (Nat.lt_of_lt_of_le (by decide) T2375.1) rfl rfl (Nat.le_of_ble_eq_true rfl) rfl rfl ?_
          refine rf_c183_2_9 (d := d + 0) T2375  (fun m2512 w2513 h2514 T2515 F2516 W2517 X2518 => ?_) (fun m2521 w2522 h2523 T2524 F2525 W2526 X2527 X2528 X2529 X2530 X2531 => ?_) (fun m2534 w2535 h2536 T2537 F2538 W2539 X2540 X2541 X2542 B2543 B2544 => ?_)
          · have F2545 := F2501.trans F2516 (by decide)
            have W2546 : rf_W [10, 12, 13, 14, 16, 17, 18, 22] m m2512 := W2502.trans W2517 (by decide)
            have B2547 : sf_B 0 600 (m2512 10) := T2515.2.2.1 10
            have B2548 : sf_B 0 4 (m2512 17) := T2515.2.2.1 17
            have B2549 : sf_B 0 1 (m2512 22) := T2515.2.2.1 22
            show pm_R _ 192 158 [.ref 41, .long a0, pm_no, .int a1, .int 1] [.int 0] _ _
            have R2550 : (m 10).toInt ≤ (m2512 10).toInt := (sf_aux70 _ _ _ R2506 X2518)
            refine pm_R_br pm_M192 (pc' := 161) (st' := []) (pm_q192_1 (Nat.le_of_ble_eq_true rfl)) rfl ?_
            refine pm_R_op pm_M192 (pc' := 162) (st' := [.int 0]) (pm_q192_1 (Nat.le_of_ble_eq_true rfl)) rfl rfl ?_
            exact pm_R_ret pm_M192 (r := some (.int 0)) (pm_q192_1 (Nat.le_of_ble_eq_true rfl)) rfl (K0 m2512 w2513 h2514 T2515 F2545 W2546 (sf_aux51 _ _ R2550))
          · have F2551 := F2501.trans F2525 (by decide)
            have W2552 : rf_W [10, 12, 13, 14, 16, 17, 18, 22] m m2521 := W2502.trans W2526 (by decide)
            have B2553 : sf_B 0 600 (m2521 10) := T2524.2.2.1 10
            have B2554 : sf_B 0 4 (m2521 17) := T2524.2.2.1 17
            have B2555 : sf_B 0 1 (m2521 22) := T2524.2.2.1 22
            show pm_R _ 192 158 [.ref 41, .long a0, pm_no, .int a1, .int 1] [.int 1] _ _
            have R2556 : (m 10).toInt ≤ (m2521 10).toInt := (sf_aux70 _ _ _ R2506 X2531)
            obtain ⟨v2557, B2558, e2559⟩ := X2527 _ e2509
            refine pm_R_br pm_M192 (pc' := 163) (st' := []) (pm_q192_1 (Nat.le_of_ble_eq_true rfl)) rfl ?_
            refine pm_R_lo pm_M192 (pc' := 164) (pm_q192_1 (Nat.le_of_ble_eq_true rfl)) rfl rfl ?_
            refine pm_R_op pm_M192 (pc' := 165) (st' := [.int 0, .ref 41]) (pm_q192_1 (Nat.le_of_ble_eq_true rfl)) rfl rfl ?_
            refine pm_R_op pm_M192 (pc' := 166) (st' := [.int 1, .int 0, .ref 41]) (pm_q192_1 (Nat.le_of_ble_eq_true rfl)) rfl rfl ?_
            refine pm_R_op pm_M192 (pc' := 167) (st' := [.int 3, .int 1, .int 0, .ref 41]) (pm_q192_1 (Nat.le_of_ble_eq_true rfl)) rfl rfl ?_
            refine pm_R_op pm_M192 (pc' := 169) (st' := [.int 8, .int 3, .int 1, .int 0, .ref 41]) (pm_q192_1 (Nat.le_of_ble_eq_true rfl)) rfl rfl ?_
            refine pm_R_op pm_M192 (pc' := 170) (st' := [.int 0, .int 8, .int 3, .int 1, .int 0, .ref 41]) (pm_q192_1 (Nat.le_of_ble_eq_true rfl)) rfl rfl ?_
            refine pm_R_cv pm_M192 (pc' := 173) (a := 41) (ra := [.int 0, .int 8, .int 3, .int 1, .int 0]) (rest := []) (ls' := [.ref 41, .int 0, .int 1, .int 3, .int 8, .int 0, pm_no, pm_no]) (pm_q192_1 (Nat.le_of_ble_eq_true rfl)) rfl (Or.inl rfl) pm_M185 T2524.2.1 rfl (by decide) (Nat.lt_of_lt_of_le (by decide) T2524.1) rfl rfl (Nat.le_of_ble_eq_true rfl) rfl rfl ?_
            have e2560 := (F2525.cell (by decide) (F2376.cell (by decide) (F2345.cell (by decide) (F2340.cell (by decide) (F2335.cell (by decide) (F2330.cell (by decide) (F2325.cell (by decide) (F2308.cell (by decide) (F2293.cell (by decide) e3)))))))))
            refine rf_c185_l (d := d + 2) T2524 (⟨f2, e2560, ct4, fun z => (sf_pos (sf_eqT X2528 B2381) (by decide) z)⟩) (fun z => sf_pos (sf_eqT X2528 B2381) (by decide) z) (fun m2563 w2564 h2565 T2566 F2567 W2568 X2569 => ?_)
            have F2570 := F2551.trans F2567 (by decide)
            have B2571 : sf_B 0 600 (m2563 10) := by rw [W2568 10 (by decide)]; exact B2553
            have ek2572 : (m2563 10).toInt = ((m2521 10)).toInt := by rw [W2568 10 (by decide)]
            have B2573 : sf_B 1 4 (m2563 17) := by rw [W2568 17 (by decide)]; exact (sf_eqT X2528 B2381)
            have ek2574 : (m2563 17).toInt = ((m2372 17)).toInt := by rw [W2568 17 (by decide)]; exact X2528
            have B2575 : sf_B 0 0 (m2563 22) := by rw [W2568 22 (by decide)]; exact (sf_eqT X2529 B2382)
            have ek2576 : (m2563 22).toInt = ((m2372 22)).toInt := by rw [W2568 22 (by decide)]; exact X2529
            have W2577 : rf_W [10, 12, 13, 14, 16, 17, 18, 22] m m2563 := W2552.trans W2568 (by decide)
            show pm_R _ 192 173 [.ref 41, .long a0, pm_no, .int a1, .int 1] [] _ _
            obtain ⟨f2578, e2579, ct2580, bd2581⟩ := X2569
            refine pm_R_op pm_M192 (pc' := 174) (st' := [.int 1]) (pm_q192_1 (Nat.le_of_ble_eq_true rfl)) rfl rfl ?_
            exact pm_R_ret pm_M192 (r := some (.int 1)) (pm_q192_1 (Nat.le_of_ble_eq_true rfl)) rfl (K1 m2563 w2564 h2565 T2566 F2570 W2577 (⟨f2578, e2579, ct2580, fun z => (sf_pos B2573 (by decide) z)⟩) (sf_aux39 _ _ _ ek2572 R2556))
          · have F2582 := F2501.trans F2538 (by decide)
            have W2583 : rf_W [10, 12, 13, 14, 16, 17, 18, 22] m m2534 := W2502.trans W2539 (by decide)
            have B2584 : sf_B 0 600 (m2534 10) := T2537.2.2.1 10
            have B2585 : sf_B 0 4 (m2534 17) := T2537.2.2.1 17
            have B2586 : sf_B 0 1 (m2534 22) := T2537.2.2.1 22
            show pm_R _ 192 158 [.ref 41, .long a0, pm_no, .int a1, .int 1] [.int 1] _ _
            have R2587 : (m 10).toInt ≤ (m2534 10).toInt := (sf_aux70 _ _ _ R2506 X2542)
            obtain ⟨v2588, B2589, e2590⟩ := X2540 _ e2509
            refine pm_R_br pm_M192 (pc' := 163) (st' := []) (pm_q192_1 (Nat.le_of_ble_eq_true rfl)) rfl ?_
            refine pm_R_lo pm_M192 (pc' := 164) (pm_q192_1 (Nat.le_of_ble_eq_true rfl)) rfl rfl ?_
            refine pm_R_op pm_M192 (pc' := 165) (st' := [.int 0, .ref 41]) (pm_q192_1 (Nat.le_of_ble_eq_true rfl)) rfl rfl ?_
            refine pm_R_op pm_M192 (pc' := 166) (st' := [.int 1, .int 0, .ref 41]) (pm_q192_1 (Nat.le_of_ble_eq_true rfl)) rfl rfl ?_
            refine pm_R_op pm_M192 (pc' := 167) (st' := [.int 3, .int 1, .int 0, .ref 41]) (pm_q192_1 (Nat.le_of_ble_eq_true rfl)) rfl rfl ?_
            refine pm_R_op pm_M192 (pc' := 169) (st' := [.int 8, .int 3, .int 1, .int 0, .ref 41]) (pm_q192_1 (Nat.le_of_ble_eq_true rfl)) rfl rfl ?_
            refine pm_R_op pm_M192 (pc' := 170) (st' := [.int 0, .int 8, .int 3, .int 1, .int 0, .ref 41]) (pm_q192_1 (Nat.le_of_ble_eq_true rfl)) rfl rfl ?_
            refine pm_R_cv pm_M192 (pc' := 173) (a := 41) (ra := [.int 0, .int 8, .int 3, .int 1, .int 0]) (rest := []) (ls' := [.ref 41, .int 0, .int 1, .int 3, .int 8, .int 0, pm_no, pm_no]) (pm_q192_1 (Nat.le_of_ble_eq_true rfl)) rfl (Or.inl rfl) pm_M185 T2537.2.1 rfl (by decide) (Nat.lt_of_lt_of_le (by decide) T2537.1) rfl rfl (Nat.le_of_ble_eq_true rfl) rfl rfl ?_
            have e2591 := (F2538.cell (by decide) (F2376.cell (by decide) (F2345.cell (by decide) (F2340.cell (by decide) (F2335.cell (by decide) (F2330.cell (by decide) (F2325.cell (by decide) (F2308.cell (by decide) (F2293.cell (by decide) e3)))))))))
            refine rf_c185_l (d := d + 2) T2537 (⟨f2, e2591, ct4, fun z => (sf_pos B2543 (by decide) z)⟩) (fun z => sf_pos B2543 (by decide) z) (fun m2594 w2595 h2596 T2597 F2598 W2599 X2600 => ?_)
            have F2601 := F2582.trans F2598 (by decide)
            have B2602 : sf_B 0 600 (m2594 10) := by rw [W2599 10 (by decide)]; exact B2584
            have ek2603 : (m2594 10).toInt = ((m2534 10)).toInt := by rw [W2599 10 (by decide)]
            have B2604 : sf_B 1 4 (m2594 17) := by rw [W2599 17 (by decide)]; exact B2543
            have ek2605 : (m2594 17).toInt = ((m2534 17)).toInt := by rw [W2599 17 (by decide)]
            have B2606 : sf_B 0 0 (m2594 22) := by rw [W2599 22 (by decide)]; exact B2544
            have ek2607 : (m2594 22).toInt = ((m2534 22)).toInt := by rw [W2599 22 (by decide)]
            have W2608 : rf_W [10, 12, 13, 14, 16, 17, 18, 22] m m2594 := W2583.trans W2599 (by decide)
            show pm_R _ 192 173 [.ref 41, .long a0, pm_no, .int a1, .int 1] [] _ _
            obtain ⟨f2609, e2610, ct2611, bd2612⟩ := X2600
            refine pm_R_op pm_M192 (pc' := 174) (st' := [.int 1]) (pm_q192_1 (Nat.le_of_ble_eq_true rfl)) rfl rfl ?_
            exact pm_R_ret pm_M192 (r := some (.int 1)) (pm_q192_1 (Nat.le_of_ble_eq_true rfl)) rfl (K1 m2594 w2595 h2596 T2597 F2601 W2608 (⟨f2609, e2610, ct2611, fun z => (sf_pos B2604 (by decide) z)⟩) (sf_aux39 _ _ _ ek2603 R2587))
  · have B2613 : sf_B 0 0 z7 := sf_eqL (Classical.not_not.mp c9) sf_k0
    have B2614 : lf_B 474148660594 474148660594 a0 := lf_eqB e8 B2613 (⟨by decide, by decide⟩ : lf_B 474148660594 474148660594 474148660594)
    refine pm_R_op pm_M192 (pc' := 9) (st' := [.int 0]) rfl rfl rfl ?_
    refine pm_R_br pm_M192 (pc' := 73) rfl rfl ?_
    refine pm_R_lo pm_M192 (pc' := 75) (ls' := [.ref 41, .long a0, pm_no, .int a1, .int 0]) (st' := []) rfl rfl rfl ?_
    refine pm_R_lo pm_M192 (pc' := 77) rfl rfl rfl ?_
    refine pm_R_op pm_M192 (pc' := 78) (st' := [.int (-1), .int 0]) rfl rfl rfl ?_
    refine pm_R_br pm_M192 (pc' := 86) (st' := []) rfl rfl ?_
    refine pm_R_lo pm_M192 (pc' := 87) rfl rfl rfl ?_
    refine rf_R_get pm_M192 T (pc' := 90) (v := .ref 51) rfl rfl rfl rfl ?_
    refine pm_R_op pm_M192 (pc' := 91) (st' := [.int 0, .ref 51]) rfl rfl rfl ?_
    refine pm_R_iald pm_M192 (pc' := 92) (v := (f2 0)) rfl e3 (Nat.lt_of_lt_of_le (by decide) T.1) rfl rfl rfl ?_
    refine pm_R_op pm_M192 (pc' := 94) (st' := [.int 8, .int (f2 0)]) rfl rfl rfl ?_
    refine pm_R_icmp pm_M192 (t := 103) (pc' := 97) rfl rfl rfl (fun c2617 => ?_) (fun c2617 => ?_)
    · have B2618 : sf_B 0 7 (f2 0) := sf_neH0 c2617 sf_k8 ct4
      refine pm_R_lo pm_M192 (pc' := 104) rfl rfl rfl ?_
      refine pm_R_cv pm_M192 (pc' := 107) (a := 41) (ra := []) (rest := []) (ls' := [.ref 41, pm_no, pm_no]) rfl rfl (Or.inl rfl) pm_M179 T.2.1 rfl (by decide) (Nat.lt_of_lt_of_le (by decide) T.1) rfl rfl (Nat.le_of_ble_eq_true rfl) rfl rfl ?_
      refine rf_c179 (d := d + 1) T  (fun m2621 w2622 h2623 T2624 F2625 W2626 X2627 X2628 => ?_)
      have F2629 := (rf_G.refl [41, 51, 52] h).trans F2625 (by decide)
      have B2630 : sf_B 0 4 (m2621 17) := by rw [W2626 17 (by decide)]; exact B6
      have ek2631 : (m2621 17).toInt = ((m 17)).toInt := by rw [W2626 17 (by decide)]
      have W2632 : rf_W [10, 12, 13, 14, 16, 17, 18, 22] m m2621 := (rf_W.refl [10, 12, 13, 14, 16, 17, 18, 22] m).trans W2626 (by decide)
      have B2633 : sf_B 0 600 (m2621 10) := T2624.2.2.1 10
      have B2634 : sf_B 0 1 (m2621 22) := T2624.2.2.1 22
      show pm_R _ 192 107 [.ref 41, .long a0, pm_no, .int a1, .int 0] [] _ _
      have R2635 : (m 10).toInt ≤ (m2621 10).toInt := (sf_aux51 _ _ X2627)
      refine pm_R_lo pm_M192 (pc' := 108) rfl rfl rfl ?_
      refine pm_R_cv pm_M192 (pc' := 111) (a := 41) (ra := []) (rest := []) (ls' := [.ref 41, pm_no]) rfl rfl (Or.inl rfl) pm_M190 T2624.2.1 rfl (by decide) (Nat.lt_of_lt_of_le (by decide) T2624.1) rfl rfl (Nat.le_of_ble_eq_true rfl) rfl rfl ?_
      refine pm_R_op pm_M190 (pc' := 1) (st' := [.int 0]) rfl rfl rfl ?_
      refine pm_R_lo pm_M190 (pc' := 2) (ls' := [.ref 41, .int 0]) (st' := []) rfl rfl rfl ?_
      refine pm_R_lo pm_M190 (pc' := 3) rfl rfl rfl ?_
      refine pm_R_op pm_M190 (pc' := 4) (st' := [.int 4, .int 0]) rfl rfl rfl ?_
      refine pm_R_br pm_M190 (pc' := 7) (st' := []) rfl rfl ?_
      refine pm_R_lo pm_M190 (pc' := 8) rfl rfl rfl ?_
      refine rf_R_get pm_M190 T2624 (pc' := 11) (v := .ref 52) rfl rfl rfl rfl ?_
      refine pm_R_lo pm_M190 (pc' := 12) rfl rfl rfl ?_
      refine pm_R_op pm_M190 (pc' := 13) (st' := [.int (-1), .int 0, .ref 52]) rfl rfl rfl ?_
      obtain ⟨f2636, e2637, b2638⟩ := T2624.2.2.2.1 52 (by decide) (by decide)
      refine rf_R_ist pm_M190 T2624 (pc' := 14) rfl e2637 (by decide) (by decide) rfl ⟨_, rfl, sf_upd b2638 (sf_weak sf_kn1 (by decide) (by decide)) _⟩ rfl (fun h2639 T2640 F2641 e2642 => ?_)
      have F2643 := F2629.trans F2641 (by decide)
      refine pm_R_lo pm_M190 (pc' := 17) (ls' := [.ref 41, .int 1]) (st' := []) rfl rfl rfl ?_
      refine pm_R_br pm_M190 (pc' := 2) rfl rfl ?_
      refine pm_R_lo pm_M190 (pc' := 3) rfl rfl rfl ?_
      refine pm_R_op pm_M190 (pc' := 4) (st' := [.int 4, .int 1]) rfl rfl rfl ?_
      refine pm_R_br pm_M190 (pc' := 7) (st' := []) rfl rfl ?_
      refine pm_R_lo pm_M190 (pc' := 8) rfl rfl rfl ?_
      refine rf_R_get pm_M190 T2640 (pc' := 11) (v := .ref 52) rfl rfl rfl rfl ?_
      refine pm_R_lo pm_M190 (pc' := 12) rfl rfl rfl ?_
      refine pm_R_op pm_M190 (pc' := 13) (st' := [.int (-1), .int 1, .ref 52]) rfl rfl rfl ?_
      refine rf_R_ist pm_M190 T2640 (pc' := 14) rfl e2642 (by decide) (by decide) rfl ⟨_, rfl, sf_upd (sf_upd b2638 (sf_weak sf_kn1 (by decide) (by decide)) _) (sf_weak sf_kn1 (by decide) (by decide)) _⟩ rfl (fun h2644 T2645 F2646 e2647 => ?_)
      have F2648 := F2643.trans F2646 (by decide)
      refine pm_R_lo pm_M190 (pc' := 17) (ls' := [.ref 41, .int 2]) (st' := []) rfl rfl rfl ?_
      refine pm_R_br pm_M190 (pc' := 2) rfl rfl ?_
      refine pm_R_lo pm_M190 (pc' := 3) rfl rfl rfl ?_
      refine pm_R_op pm_M190 (pc' := 4) (st' := [.int 4, .int 2]) rfl rfl rfl ?_
      refine pm_R_br pm_M190 (pc' := 7) (st' := []) rfl rfl ?_
      refine pm_R_lo pm_M190 (pc' := 8) rfl rfl rfl ?_
      refine rf_R_get pm_M190 T2645 (pc' := 11) (v := .ref 52) rfl rfl rfl rfl ?_
      refine pm_R_lo pm_M190 (pc' := 12) rfl rfl rfl ?_
      refine pm_R_op pm_M190 (pc' := 13) (st' := [.int (-1), .int 2, .ref 52]) rfl rfl rfl ?_
      refine rf_R_ist pm_M190 T2645 (pc' := 14) rfl e2647 (by decide) (by decide) rfl ⟨_, rfl, sf_upd (sf_upd (sf_upd b2638 (sf_weak sf_kn1 (by decide) (by decide)) _) (sf_weak sf_kn1 (by decide) (by decide)) _) (sf_weak sf_kn1 (by decide) (by decide)) _⟩ rfl (fun h2649 T2650 F2651 e2652 => ?_)
      have F2653 := F2648.trans F2651 (by decide)
      refine pm_R_lo pm_M190 (pc' := 17) (ls' := [.ref 41, .int 3]) (st' := []) rfl rfl rfl ?_
      refine pm_R_br pm_M190 (pc' := 2) rfl rfl ?_
      refine pm_R_lo pm_M190 (pc' := 3) rfl rfl rfl ?_
      refine pm_R_op pm_M190 (pc' := 4) (st' := [.int 4, .int 3]) rfl rfl rfl ?_
      refine pm_R_br pm_M190 (pc' := 7) (st' := []) rfl rfl ?_
      refine pm_R_lo pm_M190 (pc' := 8) rfl rfl rfl ?_
      refine rf_R_get pm_M190 T2650 (pc' := 11) (v := .ref 52) rfl rfl rfl rfl ?_
      refine pm_R_lo pm_M190 (pc' := 12) rfl rfl rfl ?_
      refine pm_R_op pm_M190 (pc' := 13) (st' := [.int (-1), .int 3, .ref 52]) rfl rfl rfl ?_
      refine rf_R_ist pm_M190 T2650 (pc' := 14) rfl e2652 (by decide) (by decide) rfl ⟨_, rfl, sf_upd (sf_upd (sf_upd (sf_upd b2638 (sf_weak sf_kn1 (by decide) (by decide)) _) (sf_weak sf_kn1 (by decide) (by decide)) _) (sf_weak sf_kn1 (by decide) (by decide)) _) (sf_weak sf_kn1 (by decide) (by decide)) _⟩ rfl (fun h2654 T2655 F2656 e2657 => ?_)
      have F2658 := F2653.trans F2656 (by decide)
      refine pm_R_lo pm_M190 (pc' := 17) (ls' := [.ref 41, .int 4]) (st' := []) rfl rfl rfl ?_
      refine pm_R_br pm_M190 (pc' := 2) rfl rfl ?_
      refine pm_R_lo pm_M190 (pc' := 3) rfl rfl rfl ?_
      refine pm_R_op pm_M190 (pc' := 4) (st' := [.int 4, .int 4]) rfl rfl rfl ?_
      refine pm_R_br pm_M190 (pc' := 20) (st' := []) rfl rfl ?_
      refine pm_R_ret pm_M190 (r := none) rfl rfl ?_
      show pm_R _ 192 111 [.ref 41, .long a0, pm_no, .int a1, .int 0] [] _ _
      refine pm_R_lo pm_M192 (pc' := 112) rfl rfl rfl ?_
      refine rf_R_get pm_M192 T2655 (pc' := 115) (v := .ref 52) rfl rfl rfl rfl ?_
      refine pm_R_op pm_M192 (pc' := 116) (st' := [.int 0, .ref 52]) (pm_q192_1 (Nat.le_of_ble_eq_true rfl)) rfl rfl ?_
      refine pm_R_lo pm_M192 (pc' := 118) (pm_q192_1 (Nat.le_of_ble_eq_true rfl)) rfl rfl ?_
      refine rf_R_ist pm_M192 T2655 (pc' := 119) (pm_q192_1 (Nat.le_of_ble_eq_true rfl)) e2657 (by decide) (by decide) rfl ⟨_, rfl, sf_upd (sf_upd (sf_upd (sf_upd (sf_upd b2638 (sf_weak sf_kn1 (by decide) (by decide)) _) (sf_weak sf_kn1 (by decide) (by decide)) _) (sf_weak sf_kn1 (by decide) (by decide)) _) (sf_weak sf_kn1 (by decide) (by decide)) _) (sf_weak sf_k0 (by decide) (by decide)) _⟩ rfl (fun h2659 T2660 F2661 e2662 => ?_)
      have F2663 := F2658.trans F2661 (by decide)
      refine pm_R_lo pm_M192 (pc' := 120) (pm_q192_1 (Nat.le_of_ble_eq_true rfl)) rfl rfl ?_
      refine pm_R_op pm_M192 (pc' := 121) (st' := [.int 1, .ref 41]) (pm_q192_1 (Nat.le_of_ble_eq_true rfl)) rfl rfl ?_
      refine pm_R_op pm_M192 (pc' := 123) (st' := [.int 9, .int 1, .ref 41]) (pm_q192_1 (Nat.le_of_ble_eq_true rfl)) rfl rfl ?_
      refine pm_R_op pm_M192 (pc' := 124) (st' := [.int (-1), .int 9, .int 1, .ref 41]) (pm_q192_1 (Nat.le_of_ble_eq_true rfl)) rfl rfl ?_
      refine pm_R_cv pm_M192 (pc' := 127) (a := 41) (ra := [.int (-1), .int 9, .int 1]) (rest := []) (ls' := [.ref 41, .int 1, .int 9, .int (-1)]) (pm_q192_1 (Nat.le_of_ble_eq_true rfl)) rfl (Or.inl rfl) pm_M183 T2660.2.1 rfl (by decide) (Nat.lt_of_lt_of_le (by decide) T2660.1) rfl rfl (Nat.le_of_ble_eq_true rfl) rfl rfl ?_
      refine rf_c183_1_9 (d := d + 0) T2660  (fun m2666 w2667 h2668 T2669 F2670 W2671 X2672 => ?_) (fun m2675 w2676 h2677 T2678 F2679 W2680 X2681 X2682 X2683 X2684 X2685 => ?_) (fun m2688 w2689 h2690 T2691 F2692 W2693 X2694 X2695 X2696 B2697 B2698 => ?_)
      · have F2699 := F2663.trans F2670 (by decide)
        have W2700 : rf_W [10, 12, 13, 14, 16, 17, 18, 22] m m2666 := W2632.trans W2671 (by decide)
        have B2701 : sf_B 0 600 (m2666 10) := T2669.2.2.1 10
        have B2702 : sf_B 0 4 (m2666 17) := T2669.2.2.1 17
        have B2703 : sf_B 0 1 (m2666 22) := T2669.2.2.1 22
        show pm_R _ 192 127 [.ref 41, .long a0, pm_no, .int a1, .int 0] [.int 0] _ _
        have R2704 : (m 10).toInt ≤ (m2666 10).toInt := (sf_aux70 _ _ _ R2635 X2672)
        refine pm_R_br pm_M192 (pc' := 130) (st' := []) (pm_q192_1 (Nat.le_of_ble_eq_true rfl)) rfl ?_
        refine pm_R_op pm_M192 (pc' := 131) (st' := [.int 0]) (pm_q192_1 (Nat.le_of_ble_eq_true rfl)) rfl rfl ?_
        exact pm_R_ret pm_M192 (r := some (.int 0)) (pm_q192_1 (Nat.le_of_ble_eq_true rfl)) rfl (K0 m2666 w2667 h2668 T2669 F2699 W2700 (sf_aux51 _ _ R2704))
      · have F2705 := F2663.trans F2679 (by decide)
        have W2706 : rf_W [10, 12, 13, 14, 16, 17, 18, 22] m m2675 := W2632.trans W2680 (by decide)
        have B2707 : sf_B 0 600 (m2675 10) := T2678.2.2.1 10
        have B2708 : sf_B 0 4 (m2675 17) := T2678.2.2.1 17
        have B2709 : sf_B 0 1 (m2675 22) := T2678.2.2.1 22
        show pm_R _ 192 127 [.ref 41, .long a0, pm_no, .int a1, .int 0] [.int 1] _ _
        have R2710 : (m 10).toInt ≤ (m2675 10).toInt := (sf_aux70 _ _ _ R2635 X2685)
        obtain ⟨v2711, B2712, e2713⟩ := X2681 _ e2662
        refine pm_R_br pm_M192 (pc' := 132) (st' := []) (pm_q192_1 (Nat.le_of_ble_eq_true rfl)) rfl ?_
        refine pm_R_lo pm_M192 (pc' := 134) (pm_q192_1 (Nat.le_of_ble_eq_true rfl)) rfl rfl ?_
        refine pm_R_op pm_M192 (pc' := 135) (st' := [.int 1, .int 0]) (pm_q192_1 (Nat.le_of_ble_eq_true rfl)) rfl rfl ?_
        refine pm_R_br pm_M192 (pc' := 138) (st' := []) (pm_q192_1 (Nat.le_of_ble_eq_true rfl)) rfl ?_
        refine pm_R_lo pm_M192 (pc' := 140) (pm_q192_1 (Nat.le_of_ble_eq_true rfl)) rfl rfl ?_
        refine pm_R_op pm_M192 (pc' := 141) (st' := [.int 2, .int 0]) (pm_q192_1 (Nat.le_of_ble_eq_true rfl)) rfl rfl ?_
        refine pm_R_br pm_M192 (pc' := 144) (st' := []) (pm_q192_1 (Nat.le_of_ble_eq_true rfl)) rfl ?_
        refine pm_R_lo pm_M192 (pc' := 146) (pm_q192_1 (Nat.le_of_ble_eq_true rfl)) rfl rfl ?_
        refine pm_R_op pm_M192 (pc' := 147) (st' := [.int 3, .int 0]) (pm_q192_1 (Nat.le_of_ble_eq_true rfl)) rfl rfl ?_
        refine pm_R_br pm_M192 (pc' := 163) (st' := []) (pm_q192_1 (Nat.le_of_ble_eq_true rfl)) rfl ?_
        refine pm_R_lo pm_M192 (pc' := 164) (pm_q192_1 (Nat.le_of_ble_eq_true rfl)) rfl rfl ?_
        refine pm_R_op pm_M192 (pc' := 165) (st' := [.int 0, .ref 41]) (pm_q192_1 (Nat.le_of_ble_eq_true rfl)) rfl rfl ?_
        refine pm_R_op pm_M192 (pc' := 166) (st' := [.int 1, .int 0, .ref 41]) (pm_q192_1 (Nat.le_of_ble_eq_true rfl)) rfl rfl ?_
        refine pm_R_op pm_M192 (pc' := 167) (st' := [.int 3, .int 1, .int 0, .ref 41]) (pm_q192_1 (Nat.le_of_ble_eq_true rfl)) rfl rfl ?_
        refine pm_R_op pm_M192 (pc' := 169) (st' := [.int 8, .int 3, .int 1, .int 0, .ref 41]) (pm_q192_1 (Nat.le_of_ble_eq_true rfl)) rfl rfl ?_
        refine pm_R_op pm_M192 (pc' := 170) (st' := [.int 0, .int 8, .int 3, .int 1, .int 0, .ref 41]) (pm_q192_1 (Nat.le_of_ble_eq_true rfl)) rfl rfl ?_
        refine pm_R_cv pm_M192 (pc' := 173) (a := 41) (ra := [.int 0, .int 8, .int 3, .int 1, .int 0]) (rest := []) (ls' := [.ref 41, .int 0, .int 1, .int 3, .int 8, .int 0, pm_no, pm_no]) (pm_q192_1 (Nat.le_of_ble_eq_true rfl)) rfl (Or.inl rfl) pm_M185 T2678.2.1 rfl (by decide) (Nat.lt_of_lt_of_le (by decide) T2678.1) rfl rfl (Nat.le_of_ble_eq_true rfl) rfl rfl ?_
        have e2714 := (F2679.cell (by decide) (F2661.cell (by decide) (F2656.cell (by decide) (F2651.cell (by decide) (F2646.cell (by decide) (F2641.cell (by decide) (F2625.cell (by decide) e3)))))))
        refine rf_c185_l (d := d + 2) T2678 (⟨f2, e2714, ct4, fun z => (bd5 (sf_aux76 _ _ _ ek2631 X2682 z))⟩) (fun _ g eg => by rw [e2713] at eg; cases eg; exact ⟨sf_eqL (Eq.trans (sf_upd_nec (k := Int32.toNatClampNeg 1) (j := Int32.toNatClampNeg 0) (by decide)) sf_upd_eq) (sf_weak sf_k0 (by decide) (by decide)), sf_eqL sf_upd_eq B2712, sf_eqL (Eq.trans (sf_upd_nec (k := Int32.toNatClampNeg 1) (j := Int32.toNatClampNeg 2) (by decide)) (Eq.trans (sf_upd_nec (k := Int32.toNatClampNeg 0) (j := Int32.toNatClampNeg 2) (by decide)) (Eq.trans (sf_upd_nec (k := Int32.toNatClampNeg 3) (j := Int32.toNatClampNeg 2) (by decide)) sf_upd_eq))) (sf_weak sf_kn1 (by decide) (by decide))⟩) (fun m2717 w2718 h2719 T2720 F2721 W2722 X2723 => ?_)
        have F2724 := F2705.trans F2721 (by decide)
        have B2725 : sf_B 0 600 (m2717 10) := by rw [W2722 10 (by decide)]; exact B2707
        have ek2726 : (m2717 10).toInt = ((m2675 10)).toInt := by rw [W2722 10 (by decide)]
        have B2727 : sf_B 0 4 (m2717 17) := by rw [W2722 17 (by decide)]; exact (sf_eqT X2682 B2630)
        have ek2728 : (m2717 17).toInt = ((m2621 17)).toInt := by rw [W2722 17 (by decide)]; exact X2682
        have B2729 : sf_B 0 1 (m2717 22) := by rw [W2722 22 (by decide)]; exact (sf_eqT X2683 B2634)
        have ek2730 : (m2717 22).toInt = ((m2621 22)).toInt := by rw [W2722 22 (by decide)]; exact X2683
        have W2731 : rf_W [10, 12, 13, 14, 16, 17, 18, 22] m m2717 := W2706.trans W2722 (by decide)
        show pm_R _ 192 173 [.ref 41, .long a0, pm_no, .int a1, .int 0] [] _ _
        obtain ⟨f2732, e2733, ct2734, bd2735⟩ := X2723
        refine pm_R_op pm_M192 (pc' := 174) (st' := [.int 1]) (pm_q192_1 (Nat.le_of_ble_eq_true rfl)) rfl rfl ?_
        exact pm_R_ret pm_M192 (r := some (.int 1)) (pm_q192_1 (Nat.le_of_ble_eq_true rfl)) rfl (K1 m2717 w2718 h2719 T2720 F2724 W2731 (⟨f2732, e2733, ct2734, fun z => (bd2735 z)⟩) (sf_aux39 _ _ _ ek2726 R2710))
      · have F2736 := F2663.trans F2692 (by decide)
        have W2737 : rf_W [10, 12, 13, 14, 16, 17, 18, 22] m m2688 := W2632.trans W2693 (by decide)
        have B2738 : sf_B 0 600 (m2688 10) := T2691.2.2.1 10
        have B2739 : sf_B 0 4 (m2688 17) := T2691.2.2.1 17
        have B2740 : sf_B 0 1 (m2688 22) := T2691.2.2.1 22
        show pm_R _ 192 127 [.ref 41, .long a0, pm_no, .int a1, .int 0] [.int 1] _ _
        have R2741 : (m 10).toInt ≤ (m2688 10).toInt := (sf_aux70 _ _ _ R2635 X2696)
        obtain ⟨v2742, B2743, e2744⟩ := X2694 _ e2662
        refine pm_R_br pm_M192 (pc' := 132) (st' := []) (pm_q192_1 (Nat.le_of_ble_eq_true rfl)) rfl ?_
        refine pm_R_lo pm_M192 (pc' := 134) (pm_q192_1 (Nat.le_of_ble_eq_true rfl)) rfl rfl ?_
        refine pm_R_op pm_M192 (pc' := 135) (st' := [.int 1, .int 0]) (pm_q192_1 (Nat.le_of_ble_eq_true rfl)) rfl rfl ?_
        refine pm_R_br pm_M192 (pc' := 138) (st' := []) (pm_q192_1 (Nat.le_of_ble_eq_true rfl)) rfl ?_
        refine pm_R_lo pm_M192 (pc' := 140) (pm_q192_1 (Nat.le_of_ble_eq_true rfl)) rfl rfl ?_
        refine pm_R_op pm_M192 (pc' := 141) (st' := [.int 2, .int 0]) (pm_q192_1 (Nat.le_of_ble_eq_true rfl)) rfl rfl ?_
        refine pm_R_br pm_M192 (pc' := 144) (st' := []) (pm_q192_1 (Nat.le_of_ble_eq_true rfl)) rfl ?_
        refine pm_R_lo pm_M192 (pc' := 146) (pm_q192_1 (Nat.le_of_ble_eq_true rfl)) rfl rfl ?_
        refine pm_R_op pm_M192 (pc' := 147) (st' := [.int 3, .int 0]) (pm_q192_1 (Nat.le_of_ble_eq_true rfl)) rfl rfl ?_
        refine pm_R_br pm_M192 (pc' := 163) (st' := []) (pm_q192_1 (Nat.le_of_ble_eq_true rfl)) rfl ?_
        refine pm_R_lo pm_M192 (pc' := 164) (pm_q192_1 (Nat.le_of_ble_eq_true rfl)) rfl rfl ?_
        refine pm_R_op pm_M192 (pc' := 165) (st' := [.int 0, .ref 41]) (pm_q192_1 (Nat.le_of_ble_eq_true rfl)) rfl rfl ?_
        refine pm_R_op pm_M192 (pc' := 166) (st' := [.int 1, .int 0, .ref 41]) (pm_q192_1 (Nat.le_of_ble_eq_true rfl)) rfl rfl ?_
        refine pm_R_op pm_M192 (pc' := 167) (st' := [.int 3, .int 1, .int 0, .ref 41]) (pm_q192_1 (Nat.le_of_ble_eq_true rfl)) rfl rfl ?_
        refine pm_R_op pm_M192 (pc' := 169) (st' := [.int 8, .int 3, .int 1, .int 0, .ref 41]) (pm_q192_1 (Nat.le_of_ble_eq_true rfl)) rfl rfl ?_
        refine pm_R_op pm_M192 (pc' := 170) (st' := [.int 0, .int 8, .int 3, .int 1, .int 0, .ref 41]) (pm_q192_1 (Nat.le_of_ble_eq_true rfl)) rfl rfl ?_
        refine pm_R_cv pm_M192 (pc' := 173) (a := 41) (ra := [.int 0, .int 8, .int 3, .int 1, .int 0]) (rest := []) (ls' := [.ref 41, .int 0, .int 1, .int 3, .int 8, .int 0, pm_no, pm_no]) (pm_q192_1 (Nat.le_of_ble_eq_true rfl)) rfl (Or.inl rfl) pm_M185 T2691.2.1 rfl (by decide) (Nat.lt_of_lt_of_le (by decide) T2691.1) rfl rfl (Nat.le_of_ble_eq_true rfl) rfl rfl ?_
        have e2745 := (F2692.cell (by decide) (F2661.cell (by decide) (F2656.cell (by decide) (F2651.cell (by decide) (F2646.cell (by decide) (F2641.cell (by decide) (F2625.cell (by decide) e3)))))))
        refine rf_c185_l (d := d + 2) T2691 (⟨f2, e2745, ct4, fun z => (sf_pos B2697 (by decide) z)⟩) (fun z => sf_pos B2697 (by decide) z) (fun m2748 w2749 h2750 T2751 F2752 W2753 X2754 => ?_)
        have F2755 := F2736.trans F2752 (by decide)
        have B2756 : sf_B 0 600 (m2748 10) := by rw [W2753 10 (by decide)]; exact B2738
        have ek2757 : (m2748 10).toInt = ((m2688 10)).toInt := by rw [W2753 10 (by decide)]
        have B2758 : sf_B 1 4 (m2748 17) := by rw [W2753 17 (by decide)]; exact B2697
        have ek2759 : (m2748 17).toInt = ((m2688 17)).toInt := by rw [W2753 17 (by decide)]
        have B2760 : sf_B 0 0 (m2748 22) := by rw [W2753 22 (by decide)]; exact B2698
        have ek2761 : (m2748 22).toInt = ((m2688 22)).toInt := by rw [W2753 22 (by decide)]
        have W2762 : rf_W [10, 12, 13, 14, 16, 17, 18, 22] m m2748 := W2737.trans W2753 (by decide)
        show pm_R _ 192 173 [.ref 41, .long a0, pm_no, .int a1, .int 0] [] _ _
        obtain ⟨f2763, e2764, ct2765, bd2766⟩ := X2754
        refine pm_R_op pm_M192 (pc' := 174) (st' := [.int 1]) (pm_q192_1 (Nat.le_of_ble_eq_true rfl)) rfl rfl ?_
        exact pm_R_ret pm_M192 (r := some (.int 1)) (pm_q192_1 (Nat.le_of_ble_eq_true rfl)) rfl (K1 m2748 w2749 h2750 T2751 F2755 W2762 (⟨f2763, e2764, ct2765, fun z => (sf_pos B2758 (by decide) z)⟩) (sf_aux39 _ _ _ ek2757 R2741))
    · have B2767 : sf_B 8 8 (f2 0) := sf_eqL (Classical.not_not.mp c2617) sf_k8
      refine pm_R_lo pm_M192 (pc' := 98) rfl rfl rfl ?_
      refine pm_R_op pm_M192 (pc' := 99) (st' := [.int 3, .ref 41]) rfl rfl rfl ?_
      refine pm_R_lo pm_M192 (pc' := 100) rfl rfl rfl ?_
      refine pm_R_cv pm_M192 (pc' := 103) (a := 41) (ra := [.int a1, .int 3]) (rest := []) (ls' := [.ref 41, .int 3, .int a1]) rfl rfl (Or.inl rfl) pm_M182 T.2.1 rfl (by decide) (Nat.lt_of_lt_of_le (by decide) T.1) rfl rfl (Nat.le_of_ble_eq_true rfl) rfl rfl ?_
      refine rf_c182 (d := d + 2) T (sf_weak sf_k3 (by decide) (by decide)) Ba1 (fun m2770 w2771 h2772 T2773 F2774 W2775 B2776 => ?_)
      have F2777 := (rf_G.refl [41, 51, 52] h).trans F2774 (by decide)
      have B2778 : sf_B 0 600 (m2770 10) := by rw [W2775 10 (by decide)]; exact B1
      have ek2779 : (m2770 10).toInt = ((m 10)).toInt := by rw [W2775 10 (by decide)]
      have W2780 : rf_W [10, 12, 13, 14, 16, 17, 18, 22] m m2770 := (rf_W.refl [10, 12, 13, 14, 16, 17, 18, 22] m).trans W2775 (by decide)
      have B2781 : sf_B 0 4 (m2770 17) := T2773.2.2.1 17
      have B2782 : sf_B 0 1 (m2770 22) := T2773.2.2.1 22
      show pm_R _ 192 103 [.ref 41, .long a0, pm_no, .int a1, .int 0] [] _ _
      refine pm_R_lo pm_M192 (pc' := 104) rfl rfl rfl ?_
      refine pm_R_cv pm_M192 (pc' := 107) (a := 41) (ra := []) (rest := []) (ls' := [.ref 41, pm_no, pm_no]) rfl rfl (Or.inl rfl) pm_M179 T2773.2.1 rfl (by decide) (Nat.lt_of_lt_of_le (by decide) T2773.1) rfl rfl (Nat.le_of_ble_eq_true rfl) rfl rfl ?_
      refine rf_c179 (d := d + 1) T2773  (fun m2785 w2786 h2787 T2788 F2789 W2790 X2791 X2792 => ?_)
      have F2793 := F2777.trans F2789 (by decide)
      have B2794 : sf_B 1 4 (m2785 17) := by rw [W2790 17 (by decide)]; exact B2776
      have ek2795 : (m2785 17).toInt = ((m2770 17)).toInt := by rw [W2790 17 (by decide)]
      have B2796 : sf_B 0 1 (m2785 22) := by rw [W2790 22 (by decide)]; exact B2782
      have ek2797 : (m2785 22).toInt = ((m2770 22)).toInt := by rw [W2790 22 (by decide)]
      have W2798 : rf_W [10, 12, 13, 14, 16, 17, 18, 22] m m2785 := W2780.trans W2790 (by decide)
      have B2799 : sf_B 0 600 (m2785 10) := T2788.2.2.1 10
      show pm_R _ 192 107 [.ref 41, .long a0, pm_no, .int a1, .int 0] [] _ _
      have R2800 : (m 10).toInt ≤ (m2785 10).toInt := (sf_aux53 _ _ _ ek2779 X2791)
      refine pm_R_lo pm_M192 (pc' := 108) rfl rfl rfl ?_
      refine pm_R_cv pm_M192 (pc' := 111) (a := 41) (ra := []) (rest := []) (ls' := [.ref 41, pm_no]) rfl rfl (Or.inl rfl) pm_M190 T2788.2.1 rfl (by decide) (Nat.lt_of_lt_of_le (by decide) T2788.1) rfl rfl (Nat.le_of_ble_eq_true rfl) rfl rfl ?_
      refine pm_R_op pm_M190 (pc' := 1) (st' := [.int 0]) rfl rfl rfl ?_
      refine pm_R_lo pm_M190 (pc' := 2) (ls' := [.ref 41, .int 0]) (st' := []) rfl rfl rfl ?_
      refine pm_R_lo pm_M190 (pc' := 3) rfl rfl rfl ?_
      refine pm_R_op pm_M190 (pc' := 4) (st' := [.int 4, .int 0]) rfl rfl rfl ?_
      refine pm_R_br pm_M190 (pc' := 7) (st' := []) rfl rfl ?_
      refine pm_R_lo pm_M190 (pc' := 8) rfl rfl rfl ?_
      refine rf_R_get pm_M190 T2788 (pc' := 11) (v := .ref 52) rfl rfl rfl rfl ?_
      refine pm_R_lo pm_M190 (pc' := 12) rfl rfl rfl ?_
      refine pm_R_op pm_M190 (pc' := 13) (st' := [.int (-1), .int 0, .ref 52]) rfl rfl rfl ?_
      obtain ⟨f2801, e2802, b2803⟩ := T2788.2.2.2.1 52 (by decide) (by decide)
      refine rf_R_ist pm_M190 T2788 (pc' := 14) rfl e2802 (by decide) (by decide) rfl ⟨_, rfl, sf_upd b2803 (sf_weak sf_kn1 (by decide) (by decide)) _⟩ rfl (fun h2804 T2805 F2806 e2807 => ?_)
      have F2808 := F2793.trans F2806 (by decide)
      refine pm_R_lo pm_M190 (pc' := 17) (ls' := [.ref 41, .int 1]) (st' := []) rfl rfl rfl ?_
      refine pm_R_br pm_M190 (pc' := 2) rfl rfl ?_
      refine pm_R_lo pm_M190 (pc' := 3) rfl rfl rfl ?_
      refine pm_R_op pm_M190 (pc' := 4) (st' := [.int 4, .int 1]) rfl rfl rfl ?_
      refine pm_R_br pm_M190 (pc' := 7) (st' := []) rfl rfl ?_
      refine pm_R_lo pm_M190 (pc' := 8) rfl rfl rfl ?_
      refine rf_R_get pm_M190 T2805 (pc' := 11) (v := .ref 52) rfl rfl rfl rfl ?_
      refine pm_R_lo pm_M190 (pc' := 12) rfl rfl rfl ?_
      refine pm_R_op pm_M190 (pc' := 13) (st' := [.int (-1), .int 1, .ref 52]) rfl rfl rfl ?_
      refine rf_R_ist pm_M190 T2805 (pc' := 14) rfl e2807 (by decide) (by decide) rfl ⟨_, rfl, sf_upd (sf_upd b2803 (sf_weak sf_kn1 (by decide) (by decide)) _) (sf_weak sf_kn1 (by decide) (by decide)) _⟩ rfl (fun h2809 T2810 F2811 e2812 => ?_)
      have F2813 := F2808.trans F2811 (by decide)
      refine pm_R_lo pm_M190 (pc' := 17) (ls' := [.ref 41, .int 2]) (st' := []) rfl rfl rfl ?_
      refine pm_R_br pm_M190 (pc' := 2) rfl rfl ?_
      refine pm_R_lo pm_M190 (pc' := 3) rfl rfl rfl ?_
      refine pm_R_op pm_M190 (pc' := 4) (st' := [.int 4, .int 2]) rfl rfl rfl ?_
      refine pm_R_br pm_M190 (pc' := 7) (st' := []) rfl rfl ?_
      refine pm_R_lo pm_M190 (pc' := 8) rfl rfl rfl ?_
      refine rf_R_get pm_M190 T2810 (pc' := 11) (v := .ref 52) rfl rfl rfl rfl ?_
      refine pm_R_lo pm_M190 (pc' := 12) rfl rfl rfl ?_
      refine pm_R_op pm_M190 (pc' := 13) (st' := [.int (-1), .int 2, .ref 52]) rfl rfl rfl ?_
      refine rf_R_ist pm_M190 T2810 (pc' := 14) rfl e2812 (by decide) (by decide) rfl ⟨_, rfl, sf_upd (sf_upd (sf_upd b2803 (sf_weak sf_kn1 (by decide) (by decide)) _) (sf_weak sf_kn1 (by decide) (by decide)) _) (sf_weak sf_kn1 (by decide) (by decide)) _⟩ rfl (fun h2814 T2815 F2816 e2817 => ?_)
      have F2818 := F2813.trans F2816 (by decide)
      refine pm_R_lo pm_M190 (pc' := 17) (ls' := [.ref 41, .int 3]) (st' := []) rfl rfl rfl ?_
      refine pm_R_br pm_M190 (pc' := 2) rfl rfl ?_
      refine pm_R_lo pm_M190 (pc' := 3) rfl rfl rfl ?_
      refine pm_R_op pm_M190 (pc' := 4) (st' := [.int 4, .int 3]) rfl rfl rfl ?_
      refine pm_R_br pm_M190 (pc' := 7) (st' := []) rfl rfl ?_
      refine pm_R_lo pm_M190 (pc' := 8) rfl rfl rfl ?_
      refine rf_R_get pm_M190 T2815 (pc' := 11) (v := .ref 52) rfl rfl rfl rfl ?_
      refine pm_R_lo pm_M190 (pc' := 12) rfl rfl rfl ?_
      refine pm_R_op pm_M190 (pc' := 13) (st' := [.int (-1), .int 3, .ref 52]) rfl rfl rfl ?_
      refine rf_R_ist pm_M190 T2815 (pc' := 14) rfl e2817 (by decide) (by decide) rfl ⟨_, rfl, sf_upd (sf_upd (sf_upd (sf_upd b2803 (sf_weak sf_kn1 (by decide) (by decide)) _) (sf_weak sf_kn1 (by decide) (by decide)) _) (sf_weak sf_kn1 (by decide) (by decide)) _) (sf_weak sf_kn1 (by decide) (by decide)) _⟩ rfl (fun h2819 T2820 F2821 e2822 => ?_)
      have F2823 := F2818.trans F2821 (by decide)
      refine pm_R_lo pm_M190 (pc' := 17) (ls' := [.ref 41, .int 4]) (st' := []) rfl rfl rfl ?_
      refine pm_R_br pm_M190 (pc' := 2) rfl rfl ?_
      refine pm_R_lo pm_M190 (pc' := 3) rfl rfl rfl ?_
      refine pm_R_op pm_M190 (pc' := 4) (st' := [.int 4, .int 4]) rfl rfl rfl ?_
      refine pm_R_br pm_M190 (pc' := 20) (st' := []) rfl rfl ?_
      refine pm_R_ret pm_M190 (r := none) rfl rfl ?_
      show pm_R _ 192 111 [.ref 41, .long a0, pm_no, .int a1, .int 0] [] _ _
      refine pm_R_lo pm_M192 (pc' := 112) rfl rfl rfl ?_
      refine rf_R_get pm_M192 T2820 (pc' := 115) (v := .ref 52) rfl rfl rfl rfl ?_
      refine pm_R_op pm_M192 (pc' := 116) (st' := [.int 0, .ref 52]) (pm_q192_1 (Nat.le_of_ble_eq_true rfl)) rfl rfl ?_
      refine pm_R_lo pm_M192 (pc' := 118) (pm_q192_1 (Nat.le_of_ble_eq_true rfl)) rfl rfl ?_
      refine rf_R_ist pm_M192 T2820 (pc' := 119) (pm_q192_1 (Nat.le_of_ble_eq_true rfl)) e2822 (by decide) (by decide) rfl ⟨_, rfl, sf_upd (sf_upd (sf_upd (sf_upd (sf_upd b2803 (sf_weak sf_kn1 (by decide) (by decide)) _) (sf_weak sf_kn1 (by decide) (by decide)) _) (sf_weak sf_kn1 (by decide) (by decide)) _) (sf_weak sf_kn1 (by decide) (by decide)) _) (sf_weak sf_k0 (by decide) (by decide)) _⟩ rfl (fun h2824 T2825 F2826 e2827 => ?_)
      have F2828 := F2823.trans F2826 (by decide)
      refine pm_R_lo pm_M192 (pc' := 120) (pm_q192_1 (Nat.le_of_ble_eq_true rfl)) rfl rfl ?_
      refine pm_R_op pm_M192 (pc' := 121) (st' := [.int 1, .ref 41]) (pm_q192_1 (Nat.le_of_ble_eq_true rfl)) rfl rfl ?_
      refine pm_R_op pm_M192 (pc' := 123) (st' := [.int 9, .int 1, .ref 41]) (pm_q192_1 (Nat.le_of_ble_eq_true rfl)) rfl rfl ?_
      refine pm_R_op pm_M192 (pc' := 124) (st' := [.int (-1), .int 9, .int 1, .ref 41]) (pm_q192_1 (Nat.le_of_ble_eq_true rfl)) rfl rfl ?_
      refine pm_R_cv pm_M192 (pc' := 127) (a := 41) (ra := [.int (-1), .int 9, .int 1]) (rest := []) (ls' := [.ref 41, .int 1, .int 9, .int (-1)]) (pm_q192_1 (Nat.le_of_ble_eq_true rfl)) rfl (Or.inl rfl) pm_M183 T2825.2.1 rfl (by decide) (Nat.lt_of_lt_of_le (by decide) T2825.1) rfl rfl (Nat.le_of_ble_eq_true rfl) rfl rfl ?_
      refine rf_c183_1_9 (d := d + 0) T2825  (fun m2831 w2832 h2833 T2834 F2835 W2836 X2837 => ?_) (fun m2840 w2841 h2842 T2843 F2844 W2845 X2846 X2847 X2848 X2849 X2850 => ?_) (fun m2853 w2854 h2855 T2856 F2857 W2858 X2859 X2860 X2861 B2862 B2863 => ?_)
      · have F2864 := F2828.trans F2835 (by decide)
        have W2865 : rf_W [10, 12, 13, 14, 16, 17, 18, 22] m m2831 := W2798.trans W2836 (by decide)
        have B2866 : sf_B 0 600 (m2831 10) := T2834.2.2.1 10
        have B2867 : sf_B 0 4 (m2831 17) := T2834.2.2.1 17
        have B2868 : sf_B 0 1 (m2831 22) := T2834.2.2.1 22
        show pm_R _ 192 127 [.ref 41, .long a0, pm_no, .int a1, .int 0] [.int 0] _ _
        have R2869 : (m 10).toInt ≤ (m2831 10).toInt := (sf_aux70 _ _ _ R2800 X2837)
        refine pm_R_br pm_M192 (pc' := 130) (st' := []) (pm_q192_1 (Nat.le_of_ble_eq_true rfl)) rfl ?_
        refine pm_R_op pm_M192 (pc' := 131) (st' := [.int 0]) (pm_q192_1 (Nat.le_of_ble_eq_true rfl)) rfl rfl ?_
        exact pm_R_ret pm_M192 (r := some (.int 0)) (pm_q192_1 (Nat.le_of_ble_eq_true rfl)) rfl (K0 m2831 w2832 h2833 T2834 F2864 W2865 (sf_aux51 _ _ R2869))
      · have F2870 := F2828.trans F2844 (by decide)
        have W2871 : rf_W [10, 12, 13, 14, 16, 17, 18, 22] m m2840 := W2798.trans W2845 (by decide)
        have B2872 : sf_B 0 600 (m2840 10) := T2843.2.2.1 10
        have B2873 : sf_B 0 4 (m2840 17) := T2843.2.2.1 17
        have B2874 : sf_B 0 1 (m2840 22) := T2843.2.2.1 22
        show pm_R _ 192 127 [.ref 41, .long a0, pm_no, .int a1, .int 0] [.int 1] _ _
        have R2875 : (m 10).toInt ≤ (m2840 10).toInt := (sf_aux70 _ _ _ R2800 X2850)
        obtain ⟨v2876, B2877, e2878⟩ := X2846 _ e2827
        refine pm_R_br pm_M192 (pc' := 132) (st' := []) (pm_q192_1 (Nat.le_of_ble_eq_true rfl)) rfl ?_
        refine pm_R_lo pm_M192 (pc' := 134) (pm_q192_1 (Nat.le_of_ble_eq_true rfl)) rfl rfl ?_
        refine pm_R_op pm_M192 (pc' := 135) (st' := [.int 1, .int 0]) (pm_q192_1 (Nat.le_of_ble_eq_true rfl)) rfl rfl ?_
        refine pm_R_br pm_M192 (pc' := 138) (st' := []) (pm_q192_1 (Nat.le_of_ble_eq_true rfl)) rfl ?_
        refine pm_R_lo pm_M192 (pc' := 140) (pm_q192_1 (Nat.le_of_ble_eq_true rfl)) rfl rfl ?_
        refine pm_R_op pm_M192 (pc' := 141) (st' := [.int 2, .int 0]) (pm_q192_1 (Nat.le_of_ble_eq_true rfl)) rfl rfl ?_
        refine pm_R_br pm_M192 (pc' := 144) (st' := []) (pm_q192_1 (Nat.le_of_ble_eq_true rfl)) rfl ?_
        refine pm_R_lo pm_M192 (pc' := 146) (pm_q192_1 (Nat.le_of_ble_eq_true rfl)) rfl rfl ?_
        refine pm_R_op pm_M192 (pc' := 147) (st' := [.int 3, .int 0]) (pm_q192_1 (Nat.le_of_ble_eq_true rfl)) rfl rfl ?_
        refine pm_R_br pm_M192 (pc' := 163) (st' := []) (pm_q192_1 (Nat.le_of_ble_eq_true rfl)) rfl ?_
        refine pm_R_lo pm_M192 (pc' := 164) (pm_q192_1 (Nat.le_of_ble_eq_true rfl)) rfl rfl ?_
        refine pm_R_op pm_M192 (pc' := 165) (st' := [.int 0, .ref 41]) (pm_q192_1 (Nat.le_of_ble_eq_true rfl)) rfl rfl ?_
        refine pm_R_op pm_M192 (pc' := 166) (st' := [.int 1, .int 0, .ref 41]) (pm_q192_1 (Nat.le_of_ble_eq_true rfl)) rfl rfl ?_
        refine pm_R_op pm_M192 (pc' := 167) (st' := [.int 3, .int 1, .int 0, .ref 41]) (pm_q192_1 (Nat.le_of_ble_eq_true rfl)) rfl rfl ?_
        refine pm_R_op pm_M192 (pc' := 169) (st' := [.int 8, .int 3, .int 1, .int 0, .ref 41]) (pm_q192_1 (Nat.le_of_ble_eq_true rfl)) rfl rfl ?_
        refine pm_R_op pm_M192 (pc' := 170) (st' := [.int 0, .int 8, .int 3, .int 1, .int 0, .ref 41]) (pm_q192_1 (Nat.le_of_ble_eq_true rfl)) rfl rfl ?_
        refine pm_R_cv pm_M192 (pc' := 173) (a := 41) (ra := [.int 0, .int 8, .int 3, .int 1, .int 0]) (rest := []) (ls' := [.ref 41, .int 0, .int 1, .int 3, .int 8, .int 0, pm_no, pm_no]) (pm_q192_1 (Nat.le_of_ble_eq_true rfl)) rfl (Or.inl rfl) pm_M185 T2843.2.1 rfl (by decide) (Nat.lt_of_lt_of_le (by decide) T2843.1) rfl rfl (Nat.le_of_ble_eq_true rfl) rfl rfl ?_
        have e2879 := (F2844.cell (by decide) (F2826.cell (by decide) (F2821.cell (by decide) (F2816.cell (by decide) (F2811.cell (by decide) (F2806.cell (by decide) (F2789.cell (by decide) (F2774.cell (by decide) e3))))))))
        refine rf_c185_l (d := d + 2) T2843 (⟨f2, e2879, ct4, fun z => (sf_pos (sf_eqT X2847 B2794) (by decide) z)⟩) (fun z => sf_pos (sf_eqT X2847 B2794) (by decide) z) (fun m2882 w2883 h2884 T2885 F2886 W2887 X2888 => ?_)
        have F2889 := F2870.trans F2886 (by decide)
        have B2890 : sf_B 0 600 (m2882 10) := by rw [W2887 10 (by decide)]; exact B2872
        have ek2891 : (m2882 10).toInt = ((m2840 10)).toInt := by rw [W2887 10 (by decide)]
        have B2892 : sf_B 1 4 (m2882 17) := by rw [W2887 17 (by decide)]; exact (sf_eqT X2847 B2794)
        have ek2893 : (m2882 17).toInt = ((m2785 17)).toInt := by rw [W2887 17 (by decide)]; exact X2847
        have B2894 : sf_B 0 1 (m2882 22) := by rw [W2887 22 (by decide)]; exact (sf_eqT X2848 B2796)
        have ek2895 : (m2882 22).toInt = ((m2785 22)).toInt := by rw [W2887 22 (by decide)]; exact X2848
        have W2896 : rf_W [10, 12, 13, 14, 16, 17, 18, 22] m m2882 := W2871.trans W2887 (by decide)
        show pm_R _ 192 173 [.ref 41, .long a0, pm_no, .int a1, .int 0] [] _ _
        obtain ⟨f2897, e2898, ct2899, bd2900⟩ := X2888
        refine pm_R_op pm_M192 (pc' := 174) (st' := [.int 1]) (pm_q192_1 (Nat.le_of_ble_eq_true rfl)) rfl rfl ?_
        exact pm_R_ret pm_M192 (r := some (.int 1)) (pm_q192_1 (Nat.le_of_ble_eq_true rfl)) rfl (K1 m2882 w2883 h2884 T2885 F2889 W2896 (⟨f2897, e2898, ct2899, fun z => (sf_pos B2892 (by decide) z)⟩) (sf_aux39 _ _ _ ek2891 R2875))
      · have F2901 := F2828.trans F2857 (by decide)
        have W2902 : rf_W [10, 12, 13, 14, 16, 17, 18, 22] m m2853 := W2798.trans W2858 (by decide)
        have B2903 : sf_B 0 600 (m2853 10) := T2856.2.2.1 10
        have B2904 : sf_B 0 4 (m2853 17) := T2856.2.2.1 17
        have B2905 : sf_B 0 1 (m2853 22) := T2856.2.2.1 22
        show pm_R _ 192 127 [.ref 41, .long a0, pm_no, .int a1, .int 0] [.int 1] _ _
        have R2906 : (m 10).toInt ≤ (m2853 10).toInt := (sf_aux70 _ _ _ R2800 X2861)
        obtain ⟨v2907, B2908, e2909⟩ := X2859 _ e2827
        refine pm_R_br pm_M192 (pc' := 132) (st' := []) (pm_q192_1 (Nat.le_of_ble_eq_true rfl)) rfl ?_
        refine pm_R_lo pm_M192 (pc' := 134) (pm_q192_1 (Nat.le_of_ble_eq_true rfl)) rfl rfl ?_
        refine pm_R_op pm_M192 (pc' := 135) (st' := [.int 1, .int 0]) (pm_q192_1 (Nat.le_of_ble_eq_true rfl)) rfl rfl ?_
        refine pm_R_br pm_M192 (pc' := 138) (st' := []) (pm_q192_1 (Nat.le_of_ble_eq_true rfl)) rfl ?_
        refine pm_R_lo pm_M192 (pc' := 140) (pm_q192_1 (Nat.le_of_ble_eq_true rfl)) rfl rfl ?_
        refine pm_R_op pm_M192 (pc' := 141) (st' := [.int 2, .int 0]) (pm_q192_1 (Nat.le_of_ble_eq_true rfl)) rfl rfl ?_
        refine pm_R_br pm_M192 (pc' := 144) (st' := []) (pm_q192_1 (Nat.le_of_ble_eq_true rfl)) rfl ?_
        refine pm_R_lo pm_M192 (pc' := 146) (pm_q192_1 (Nat.le_of_ble_eq_true rfl)) rfl rfl ?_
        refine pm_R_op pm_M192 (pc' := 147) (st' := [.int 3, .int 0]) (pm_q192_1 (Nat.le_of_ble_eq_true rfl)) rfl rfl ?_
        refine pm_R_br pm_M192 (pc' := 163) (st' := []) (pm_q192_1 (Nat.le_of_ble_eq_true rfl)) rfl ?_
        refine pm_R_lo pm_M192 (pc' := 164) (pm_q192_1 (Nat.le_of_ble_eq_true rfl)) rfl rfl ?_
        refine pm_R_op pm_M192 (pc' := 165) (st' := [.int 0, .ref 41]) (pm_q192_1 (Nat.le_of_ble_eq_true rfl)) rfl rfl ?_
        refine pm_R_op pm_M192 (pc' := 166) (st' := [.int 1, .int 0, .ref 41]) (pm_q192_1 (Nat.le_of_ble_eq_true rfl)) rfl rfl ?_
        refine pm_R_op pm_M192 (pc' := 167) (st' := [.int 3, .int 1, .int 0, .ref 41]) (pm_q192_1 (Nat.le_of_ble_eq_true rfl)) rfl rfl ?_
        refine pm_R_op pm_M192 (pc' := 169) (st' := [.int 8, .int 3, .int 1, .int 0, .ref 41]) (pm_q192_1 (Nat.le_of_ble_eq_true rfl)) rfl rfl ?_
        refine pm_R_op pm_M192 (pc' := 170) (st' := [.int 0, .int 8, .int 3, .int 1, .int 0, .ref 41]) (pm_q192_1 (Nat.le_of_ble_eq_true rfl)) rfl rfl ?_
        refine pm_R_cv pm_M192 (pc' := 173) (a := 41) (ra := [.int 0, .int 8, .int 3, .int 1, .int 0]) (rest := []) (ls' := [.ref 41, .int 0, .int 1, .int 3, .int 8, .int 0, pm_no, pm_no]) (pm_q192_1 (Nat.le_of_ble_eq_true rfl)) rfl (Or.inl rfl) pm_M185 T2856.2.1 rfl (by decide) (Nat.lt_of_lt_of_le (by decide) T2856.1) rfl rfl (Nat.le_of_ble_eq_true rfl) rfl rfl ?_
        have e2910 := (F2857.cell (by decide) (F2826.cell (by decide) (F2821.cell (by decide) (F2816.cell (by decide) (F2811.cell (by decide) (F2806.cell (by decide) (F2789.cell (by decide) (F2774.cell (by decide) e3))))))))
        refine rf_c185_l (d := d + 2) T2856 (⟨f2, e2910, ct4, fun z => (sf_pos B2862 (by decide) z)⟩) (fun z => sf_pos B2862 (by decide) z) (fun m2913 w2914 h2915 T2916 F2917 W2918 X2919 => ?_)
        have F2920 := F2901.trans F2917 (by decide)
        have B2921 : sf_B 0 600 (m2913 10) := by rw [W2918 10 (by decide)]; exact B2903
        have ek2922 : (m2913 10).toInt = ((m2853 10)).toInt := by rw [W2918 10 (by decide)]
        have B2923 : sf_B 1 4 (m2913 17) := by rw [W2918 17 (by decide)]; exact B2862
        have ek2924 : (m2913 17).toInt = ((m2853 17)).toInt := by rw [W2918 17 (by decide)]
        have B2925 : sf_B 0 0 (m2913 22) := by rw [W2918 22 (by decide)]; exact B2863
        have ek2926 : (m2913 22).toInt = ((m2853 22)).toInt := by rw [W2918 22 (by decide)]
        have W2927 : rf_W [10, 12, 13, 14, 16, 17, 18, 22] m m2913 := W2902.trans W2918 (by decide)
        show pm_R _ 192 173 [.ref 41, .long a0, pm_no, .int a1, .int 0] [] _ _
        obtain ⟨f2928, e2929, ct2930, bd2931⟩ := X2919
        refine pm_R_op pm_M192 (pc' := 174) (st' := [.int 1]) (pm_q192_1 (Nat.le_of_ble_eq_true rfl)) rfl rfl ?_
        exact pm_R_ret pm_M192 (r := some (.int 1)) (pm_q192_1 (Nat.le_of_ble_eq_true rfl)) rfl (K1 m2913 w2914 h2915 T2916 F2920 W2927 (⟨f2928, e2929, ct2930, fun z => (sf_pos B2923 (by decide) z)⟩) (sf_aux39 _ _ _ ek2922 R2906))
