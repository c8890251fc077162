theorem sf_aux28 (v0 v1 v2 v3 v4 v5 v6 v7 : Int) (q0 : v0 = 144 * v1) (q1 : v2 = v3 + 1) (q2 : v4 = 12 * v2) (q3 : v5 = v0 + v4) (q4 : v6 = v5 + v7) : v6 = v6 := by omega
theorem sf_aux29 (v0 v1 v2 : Int) (q0 : v0 = v1 + 1) (q1 : 0 ≤ v2) (q2 : v2 ≤ 10) (q3 : 0 ≤ v1) (q4 : v1 ≤ 10) (q5 : v2 ≤ v1) : v2 ≤ v0 := by omega
theorem sf_aux30 (v0 v1 : Int) (q0 : v0 = v1 + 1) : v0 = v1 + 1 := by omega
theorem sf_aux31 (v0 : Int)  : v0 = v0 := by omega
theorem sf_aux32 (v0 v1 v2 : Int) (q0 : v0 = v1 + 1) (q1 : v2 = v0) : v2 = v1 + 1 := by omega
theorem sf_aux33 (v0 v1 v2 v3 v4 : Int) (q0 : v0 = v1 + 1) (q1 : v2 = v0) (q2 : v3 = v2 + 1) (q3 : v4 = v3) : v4 = v1 + 2 := by omega
theorem sf_aux34 (v0 : Int) (q0 : 0 ≤ v0) (q1 : v0 ≤ 11) : v0 ≤ v0 := by omega
set_option maxRecDepth 100000 in
set_option maxHeartbeats 4000000 in
/-- SilentTableModel.split -/
theorem rf_c232 {d : Nat} {m : Nat → Int32} {w : Int64} {h : pm_H} {Q : Option Value → pm_H → Prop} {a0 : Int32} (T : rf_T m w h) (Ba0 : sf_B 0 22 a0) (Bf31 : sf_B 0 21 (m 31)) (K : ∀ (m_q : Nat → Int32) (w_q : Int64) (h_q : pm_H), rf_T m_q w_q h_q → rf_G [41, 57, 58, 59, 60, 61, 62, 63] h h_q → rf_W [31] m m_q → rf_sp h h_q (m 31) (m_q 31) a0 → Q none h_q) : pm_R (d + 3) 232 0 [.ref 41, .int a0, pm_no, pm_no, pm_no, pm_no, pm_no, pm_no, pm_no, pm_no, pm_no, pm_no, pm_no] [] h Q := by
  refine pm_R_lo pm_M232 (pc_q := 1) rfl rfl rfl ?_
  refine rf_R_get pm_M232 T (pc_q := 4) (v := .ref 60) rfl rfl rfl rfl ?_
  refine pm_R_lo pm_M232 (pc_q := 5) rfl rfl rfl ?_
  obtain ⟨f1, e2, b3⟩ := T.2.2.2.1 60 (by decide) (by decide)
  refine rf_R_lld pm_M232 T (pc_q := 6) rfl e2 (by decide) (by decide) (sf_in Ba0 (by decide) (by decide)) rfl (fun z4 ez5 => ?_)
  have B6 : lf_B 0 9223372036854775807 z4 := ez5 ▸ b3 _
  refine pm_R_lo pm_M232 (pc_q := 7) (ls_q := [.ref 41, .int a0, .long z4, pm_no, pm_no, pm_no, pm_no, pm_no, pm_no, pm_no, pm_no, pm_no, pm_no]) (st_q := []) rfl rfl rfl ?_
  refine pm_R_lo pm_M232 (pc_q := 8) rfl rfl rfl ?_
  refine rf_R_get pm_M232 T (pc_q := 11) (v := .ref 58) rfl rfl rfl rfl ?_
  refine pm_R_lo pm_M232 (pc_q := 12) rfl rfl rfl ?_
  obtain ⟨f7, e8, b9⟩ := T.2.2.2.1 58 (by decide) (by decide)
  refine rf_R_ild pm_M232 T (pc_q := 13) rfl e8 (by decide) (sf_in Ba0 (by decide) (by decide)) rfl (fun z10 ez11 => ?_)
  have B12 : sf_B 0 11 z10 := ez11 ▸ b9 _
  refine pm_R_lo pm_M232 (pc_q := 15) (ls_q := [.ref 41, .int a0, .long z4, pm_no, .int z10, pm_no, pm_no, pm_no, pm_no, pm_no, pm_no, pm_no, pm_no]) (st_q := []) rfl rfl rfl ?_
  refine pm_R_lo pm_M232 (pc_q := 16) rfl rfl rfl ?_
  refine rf_R_get pm_M232 T (pc_q := 19) (v := .ref 59) rfl rfl rfl rfl ?_
  refine pm_R_lo pm_M232 (pc_q := 20) rfl rfl rfl ?_
  obtain ⟨f13, e14, b15⟩ := T.2.2.2.1 59 (by decide) (by decide)
  refine rf_R_ild pm_M232 T (pc_q := 21) rfl e14 (by decide) (sf_in Ba0 (by decide) (by decide)) rfl (fun z16 ez17 => ?_)
  have B18 : sf_B 0 11 z16 := ez17 ▸ b15 _
  refine pm_R_lo pm_M232 (pc_q := 23) (ls_q := [.ref 41, .int a0, .long z4, pm_no, .int z10, .int z16, pm_no, pm_no, pm_no, pm_no, pm_no, pm_no, pm_no]) (st_q := []) rfl rfl rfl ?_
  refine pm_R_lo pm_M232 (pc_q := 25) rfl rfl rfl ?_
  refine pm_R_lo pm_M232 (pc_q := 27) (ls_q := [.ref 41, .int a0, .long z4, pm_no, .int z10, .int z16, .int z10, pm_no, pm_no, pm_no, pm_no, pm_no, pm_no]) (st_q := []) rfl rfl rfl ?_
  have L_2687 : ∀ (N : Nat) (x6_2687 : Int32) (y2_2687 : Int64) (g7_2687 : Value) (g8_2687 : Value) (g9_2687 : Value), sf_B 0 11 x6_2687 → lf_B 0 9223372036854775807 y2_2687 → g7_2687.category = 1 → g9_2687.category = 1 → z10.toInt ≤ x6_2687.toInt → (11 - x6_2687.toInt).toNat = N → pm_R (d + 3) 232 27 [.ref 41, .int a0, .long y2_2687, pm_no, .int z10, .int z16, .int x6_2687, g7_2687, g8_2687, g9_2687, pm_no, pm_no, pm_no] [] h Q := by
    intro N
    induction N using Nat.strongRecOn with
    | ind N ih_2687 =>
      intro x6_2687 y2_2687 g7_2687 g8_2687 g9_2687 Bx6_2687 By2_2687 Cg7_2687 Cg9_2687 R0_2687 hN_2687
      refine pm_R_lo pm_M232 (pc_q := 29) rfl rfl rfl ?_
      refine pm_R_lo pm_M232 (pc_q := 31) rfl rfl rfl ?_
      refine pm_R_icmp pm_M232 (t := 192) (pc_q := 34) rfl rfl rfl (fun c2688 => ?_) (fun c2688 => ?_)
      · skip
        exact pm_R_ret pm_M232 (r := none) (pm_q232_1 (Nat.le_of_ble_eq_true rfl)) rfl (K m w h T (rf_G.refl [41, 57, 58, 59, 60, 61, 62, 63] h) (rf_W.refl [31] m) (fun f g ef eg => Or.inl ⟨ef, eg, rfl⟩))
      · have B2689 : sf_B 0 10 x6_2687 := sf_ltL (Int32.not_le.mp c2688) Bx6_2687 B18
        have B2690 : sf_B 0 10 z10 := sf_leT R0_2687 B12 B2689
        have B2691 : sf_B 1 11 z16 := sf_ltR (Int32.not_le.mp c2688) Bx6_2687 B18
        refine pm_R_op pm_M232 (pc_q := 35) (st_q := [.int 0]) rfl rfl rfl ?_
        refine pm_R_lo pm_M232 (pc_q := 37) (ls_q := [.ref 41, .int a0, .long y2_2687, pm_no, .int z10, .int z16, .int x6_2687, .int 0, g8_2687, g9_2687, pm_no, pm_no, pm_no]) (st_q := []) rfl rfl rfl ?_
        have L_4017 : ∀ (N : Nat) (x7_4017 : Int32) (y2_4017 : Int64) (g8_4017 : Value) (g9_4017 : Value), sf_B 0 10 x7_4017 → lf_B 0 9223372036854775807 y2_4017 → g9_4017.category = 1 → (10 - x7_4017.toInt).toNat = N → pm_R (d + 3) 232 37 [.ref 41, .int a0, .long y2_4017, pm_no, .int z10, .int z16, .int x6_2687, .int x7_4017, g8_4017, g9_4017, pm_no, pm_no, pm_no] [] h Q := by
          intro N
          induction N using Nat.strongRecOn with
          | ind N ih_4017 =>
            intro x7_4017 y2_4017 g8_4017 g9_4017 Bx7_4017 By2_4017 Cg9_4017 hN_4017
            refine pm_R_lo pm_M232 (pc_q := 39) rfl rfl rfl ?_
            refine pm_R_lo pm_M232 (pc_q := 40) rfl rfl rfl ?_
            refine pm_R_cv pm_M232 (pc_q := 43) (a := 41) (ra := []) (rest := [.int x7_4017]) (ls_q := [.ref 41]) rfl rfl (Or.inl rfl) pm_M209 T.2.1 rfl (by decide) (Nat.lt_of_lt_of_le (by decide) T.1) rfl rfl (Nat.le_of_ble_eq_true rfl) rfl rfl ?_
            refine pm_R_lo pm_M209 (pc_q := 1) rfl rfl rfl ?_
            refine rf_R_get pm_M209 T (pc_q := 4) (v := .ref 47) rfl rfl rfl rfl ?_
            refine pm_R_op pm_M209 (pc_q := 6) (st_q := [.int 100, .ref 47]) rfl rfl rfl ?_
            refine pm_R_lo pm_M209 (pc_q := 7) rfl rfl rfl ?_
            have B4018 : sf_B 0 1 (m 23) := T.2.2.1 23
            refine rf_R_get pm_M209 T (pc_q := 10) (v := .int (m 23)) rfl rfl rfl rfl ?_
            refine sf_R_imul pm_M209 (pc_q := 11) rfl rfl sf_k100 B4018 (by decide) (by decide) (by decide) (fun z4019 e4020 B4021 => ?_)
            obtain ⟨f4022, e4023, b4024⟩ := T.2.2.2.1 47 (by decide) (by decide)
            refine rf_R_ild pm_M209 T (pc_q := 12) rfl e4023 (by decide) (sf_in B4021 (by decide) (by decide)) rfl (fun z4025 ez4026 => ?_)
            have e4027 : (z4019).toInt = 100 * ((m 23)).toInt + 0 := (sf_aux2 _ _ e4020)
            have B4028 : sf_B 0 10 z4025 := ez4026 ▸ rf_p47a b4024 e4027 B4018 (by decide)
            refine pm_R_ret pm_M209 (r := some (.int z4025)) rfl (pm_ret_i _) ?_
            show pm_R _ 232 43 [.ref 41, .int a0, .long y2_4017, pm_no, .int z10, .int z16, .int x6_2687, .int x7_4017, g8_4017, g9_4017, pm_no, pm_no, pm_no] [.int z4025, .int x7_4017] _ _
            refine pm_R_icmp pm_M232 (t := 186) (pc_q := 46) rfl rfl rfl (fun c4029 => ?_) (fun c4029 => ?_)
            · skip
              refine sf_R_iinc pm_M232 (pc_q := 189) (ls_q := fun z => [.ref 41, .int a0, .long y2_4017, pm_no, .int z10, .int z16, .int z, .int x7_4017, g8_4017, g9_4017, pm_no, pm_no, pm_no]) (pm_q232_1 (Nat.le_of_ble_eq_true rfl)) B2689 rfl (by decide) (by decide) (by decide) (fun _ => rfl) rfl (fun z4030 e4031 B4032 => ?_)
              show pm_R _ 232 189 [.ref 41, .int a0, .long y2_4017, pm_no, .int z10, .int z16, .int z4030, .int x7_4017, g8_4017, g9_4017, pm_no, pm_no, pm_no] [] _ _
              refine pm_R_br pm_M232 (pc_q := 27) (pm_q232_1 (Nat.le_of_ble_eq_true rfl)) rfl ?_
              exact ih_2687 _ (sf_up hN_2687 e4031 B2689 (by decide) (by decide)) z4030 y2_4017 (.int x7_4017) (g8_4017) (g9_4017) (sf_weak B4032 (by decide) (by decide)) By2_4017 rfl Cg9_4017 (sf_aux29 _ _ _ e4031 B2690.1 B2690.2 B2689.1 B2689.2 R0_2687) rfl
            · have B4033 : sf_B 0 9 x7_4017 := sf_ltL (Int32.not_le.mp c4029) Bx7_4017 B4028
              have B4034 : sf_B 1 10 z4025 := sf_ltR (Int32.not_le.mp c4029) Bx7_4017 B4028
              refine pm_R_lo pm_M232 (pc_q := 47) rfl rfl rfl ?_
              refine pm_R_lo pm_M232 (pc_q := 49) rfl rfl rfl ?_
              refine pm_R_op pm_M232 (pc_q := 50) (st_q := [.int 0, .int x7_4017, .ref 41]) rfl rfl rfl ?_
              refine pm_R_cv pm_M232 (pc_q := 53) (a := 41) (ra := [.int 0, .int x7_4017]) (rest := []) (ls_q := [.ref 41, .int x7_4017, .int 0]) rfl rfl (Or.inl rfl) pm_M210 T.2.1 rfl (by decide) (Nat.lt_of_lt_of_le (by decide) T.1) rfl rfl (Nat.le_of_ble_eq_true rfl) rfl rfl ?_
              refine pm_R_lo pm_M210 (pc_q := 1) rfl rfl rfl ?_
              refine rf_R_get pm_M210 T (pc_q := 4) (v := .ref 47) rfl rfl rfl rfl ?_
              refine pm_R_op pm_M210 (pc_q := 6) (st_q := [.int 100, .ref 47]) rfl rfl rfl ?_
              refine pm_R_lo pm_M210 (pc_q := 7) rfl rfl rfl ?_
              refine rf_R_get pm_M210 T (pc_q := 10) (v := .int (m 23)) rfl rfl rfl rfl ?_
              refine sf_R_imulV pm_M210 (pc_q := 11) rfl rfl sf_k100 B4018 (by decide) (by decide) (by decide) e4020 ?_
              refine pm_R_op pm_M210 (pc_q := 12) (st_q := [.int 2, .int z4019, .ref 47]) rfl rfl rfl ?_
              refine sf_R_iadd pm_M210 (pc_q := 13) rfl rfl B4021 sf_k2 (by decide) (by decide) (fun z4035 e4036 B4037 => ?_)
              refine pm_R_op pm_M210 (pc_q := 14) (st_q := [.int 4, .int z4035, .ref 47]) rfl rfl rfl ?_
              refine pm_R_lo pm_M210 (pc_q := 15) rfl rfl rfl ?_
              refine sf_R_imul pm_M210 (pc_q := 16) rfl rfl sf_k4 B4033 (by decide) (by decide) (by decide) (fun z4038 e4039 B4040 => ?_)
              refine sf_R_iadd pm_M210 (pc_q := 17) rfl rfl B4037 B4040 (by decide) (by decide) (fun z4041 e4042 B4043 => ?_)
              refine pm_R_lo pm_M210 (pc_q := 18) rfl rfl rfl ?_
              refine sf_R_iadd pm_M210 (pc_q := 19) rfl rfl B4043 sf_k0 (by decide) (by decide) (fun z4044 e4045 B4046 => ?_)
              refine rf_R_ild pm_M210 T (pc_q := 20) rfl e4023 (by decide) (sf_in B4046 (by decide) (by decide)) rfl (fun z4047 ez4048 => ?_)
              have e4049 : (z4044).toInt = 100 * ((m 23)).toInt + 4 * (x7_4017).toInt + 2 := (sf_aux3 _ _ _ _ _ _ _ e4020 e4036 e4039 e4042 e4045)
              have B4050 : sf_B 0 5 z4047 := ez4048 ▸ rf_p47r b4024 e4049 B4018 B4033 (by decide) (by decide) (by decide)
              refine pm_R_ret pm_M210 (r := some (.int z4047)) rfl (pm_ret_i _) ?_
              show pm_R _ 232 53 [.ref 41, .int a0, .long y2_4017, pm_no, .int z10, .int z16, .int x6_2687, .int x7_4017, g8_4017, g9_4017, pm_no, pm_no, pm_no] [.int z4047] _ _
              refine pm_R_lo pm_M232 (pc_q := 54) rfl rfl rfl ?_
              refine rf_R_get pm_M232 T (pc_q := 57) (v := .ref 57) rfl rfl rfl rfl ?_
              refine pm_R_lo pm_M232 (pc_q := 58) rfl rfl rfl ?_
              obtain ⟨f4051, e4052, b4053⟩ := T.2.2.2.1 57 (by decide) (by decide)
              refine rf_R_ild pm_M232 T (pc_q := 59) rfl e4052 (by decide) (sf_in Ba0 (by decide) (by decide)) rfl (fun z4054 ez4055 => ?_)
              have B4056 : sf_B 0 5 z4054 := ez4055 ▸ b4053 _
              refine pm_R_icmp pm_M232 (t := 77) (pc_q := 62) rfl rfl rfl (fun c4057 => ?_) (fun c4057 => ?_)
              · skip
                refine pm_R_op pm_M232 (pc_q := 78) (st_q := [.long 0]) rfl rfl rfl ?_
                refine pm_R_lo pm_M232 (pc_q := 80) (ls_q := [.ref 41, .int a0, .long y2_4017, pm_no, .int z10, .int z16, .int x6_2687, .int x7_4017, .long 0, pm_no, pm_no, pm_no, pm_no]) (st_q := []) rfl rfl rfl ?_
                refine pm_R_lo pm_M232 (pc_q := 81) rfl rfl rfl ?_
                refine pm_R_lo pm_M232 (pc_q := 83) rfl rfl rfl ?_
                refine sf_R_lcmp pm_M232 (pc_q := 84) rfl rfl (fun z4058 e4059 => ?_)
                have B4060 : sf_B 0 2147483647 z4058 := sf_leR (Int32.not_lt.mp (lf_cmpGe e4059 By2_4017 (⟨by decide, by decide⟩ : lf_B 0 0 0) (by decide))) sf_k0 (sf_any z4058)
                refine pm_R_ifc pm_M232 (t := 175) (pc_q := 87) rfl rfl rfl (fun c4061 => ?_) (fun c4061 => absurd (Int32.not_le.mp c4061) (sf_nlt B4060 sf_k0 (by decide)))
                have k4062 := lf_ge e4059 B4060 (by decide)
                skip
                refine pm_R_lo pm_M232 (pc_q := 176) (pm_q232_1 (Nat.le_of_ble_eq_true rfl)) rfl rfl ?_
                refine pm_R_lo pm_M232 (pc_q := 178) (pm_q232_1 (Nat.le_of_ble_eq_true rfl)) rfl rfl ?_
                refine sf_R_lsubN pm_M232 (pc_q := 179) (pm_q232_1 (Nat.le_of_ble_eq_true rfl)) rfl By2_4017 (⟨by decide, by decide⟩ : lf_B 0 0 0) (by decide) k4062 (fun z4063 e4064 B4065 => ?_)
                refine pm_R_lo pm_M232 (pc_q := 180) (ls_q := [.ref 41, .int a0, .long z4063, pm_no, .int z10, .int z16, .int x6_2687, .int x7_4017, .long 0, pm_no, pm_no, pm_no, pm_no]) (st_q := []) (pm_q232_1 (Nat.le_of_ble_eq_true rfl)) rfl rfl ?_
                refine sf_R_iinc pm_M232 (pc_q := 183) (ls_q := fun z => [.ref 41, .int a0, .long z4063, pm_no, .int z10, .int z16, .int x6_2687, .int z, .long 0, pm_no, pm_no, pm_no, pm_no]) (pm_q232_1 (Nat.le_of_ble_eq_true rfl)) B4033 rfl (by decide) (by decide) (by decide) (fun _ => rfl) rfl (fun z4066 e4067 B4068 => ?_)
                show pm_R _ 232 183 [.ref 41, .int a0, .long z4063, pm_no, .int z10, .int z16, .int x6_2687, .int z4066, .long 0, pm_no, pm_no, pm_no, pm_no] [] _ _
                refine pm_R_br pm_M232 (pc_q := 37) (pm_q232_1 (Nat.le_of_ble_eq_true rfl)) rfl ?_
                exact ih_4017 _ (sf_up hN_4017 e4067 B4033 (by decide) (by decide)) z4066 z4063 (.long 0) (pm_no) (sf_weak B4068 (by decide) (by decide)) B4065 rfl rfl
              · refine pm_R_lo pm_M232 (pc_q := 63) rfl rfl rfl ?_
                refine pm_R_lo pm_M232 (pc_q := 65) rfl rfl rfl ?_
                refine pm_R_lo pm_M232 (pc_q := 67) rfl rfl rfl ?_
                refine pm_R_lo pm_M232 (pc_q := 69) rfl rfl rfl ?_
                refine pm_R_lo pm_M232 (pc_q := 71) rfl rfl rfl ?_
                refine pm_R_cv pm_M232 (pc_q := 74) (a := 41) (ra := [.int z16, .int x6_2687, .int z10, .int x7_4017]) (rest := []) (ls_q := [.ref 41, .int x7_4017, .int z10, .int x6_2687, .int z16]) rfl rfl (Or.inl rfl) pm_M211 T.2.1 rfl (by decide) (Nat.lt_of_lt_of_le (by decide) T.1) rfl rfl (Nat.le_of_ble_eq_true rfl) rfl rfl ?_
                refine pm_R_lo pm_M211 (pc_q := 1) rfl rfl rfl ?_
                refine rf_R_get pm_M211 T (pc_q := 4) (v := .ref 55) rfl rfl rfl rfl ?_
                refine pm_R_lo pm_M211 (pc_q := 5) rfl rfl rfl ?_
                refine pm_R_lo pm_M211 (pc_q := 6) rfl rfl rfl ?_
                refine pm_R_op pm_M211 (pc_q := 7) (st_q := [.int 1, .int x7_4017, .ref 41, .ref 55]) rfl rfl rfl ?_
                refine pm_R_cv pm_M211 (pc_q := 10) (a := 41) (ra := [.int 1, .int x7_4017]) (rest := [.ref 55]) (ls_q := [.ref 41, .int x7_4017, .int 1]) rfl rfl (Or.inl rfl) pm_M210 T.2.1 rfl (by decide) (Nat.lt_of_lt_of_le (by decide) T.1) rfl rfl (Nat.le_of_ble_eq_true rfl) rfl rfl ?_
                refine pm_R_lo pm_M210 (pc_q := 1) rfl rfl rfl ?_
                refine rf_R_get pm_M210 T (pc_q := 4) (v := .ref 47) rfl rfl rfl rfl ?_
                refine pm_R_op pm_M210 (pc_q := 6) (st_q := [.int 100, .ref 47]) rfl rfl rfl ?_
                refine pm_R_lo pm_M210 (pc_q := 7) rfl rfl rfl ?_
                refine rf_R_get pm_M210 T (pc_q := 10) (v := .int (m 23)) rfl rfl rfl rfl ?_
                refine sf_R_imulV pm_M210 (pc_q := 11) rfl rfl sf_k100 B4018 (by decide) (by decide) (by decide) e4020 ?_
                refine pm_R_op pm_M210 (pc_q := 12) (st_q := [.int 2, .int z4019, .ref 47]) rfl rfl rfl ?_
                refine sf_R_iaddV pm_M210 (pc_q := 13) rfl rfl B4021 sf_k2 (by decide) (by decide) e4036 ?_
                refine pm_R_op pm_M210 (pc_q := 14) (st_q := [.int 4, .int z4035, .ref 47]) rfl rfl rfl ?_
                refine pm_R_lo pm_M210 (pc_q := 15) rfl rfl rfl ?_
                refine sf_R_imulV pm_M210 (pc_q := 16) rfl rfl sf_k4 B4033 (by decide) (by decide) (by decide) e4039 ?_
                refine sf_R_iaddV pm_M210 (pc_q := 17) rfl rfl B4037 B4040 (by decide) (by decide) e4042 ?_
                refine pm_R_lo pm_M210 (pc_q := 18) rfl rfl rfl ?_
                refine sf_R_iadd pm_M210 (pc_q := 19) rfl rfl B4043 sf_k1 (by decide) (by decide) (fun z4069 e4070 B4071 => ?_)
                refine rf_R_ild pm_M210 T (pc_q := 20) rfl e4023 (by decide) (sf_in B4071 (by decide) (by decide)) rfl (fun z4072 ez4073 => ?_)
                have e4074 : (z4069).toInt = 100 * ((m 23)).toInt + 4 * (x7_4017).toInt + 3 := (sf_aux5 _ _ _ _ _ _ _ e4020 e4036 e4039 e4042 e4070)
                have B4075 : sf_B 0 5 z4072 := ez4073 ▸ rf_p47r b4024 e4074 B4018 B4033 (by decide) (by decide) (by decide)
                refine pm_R_ret pm_M210 (r := some (.int z4072)) rfl (pm_ret_i _) ?_
                show pm_R _ 211 10 [.ref 41, .int x7_4017, .int z10, .int x6_2687, .int z16] [.int z4072, .ref 55] _ _
                refine pm_R_lo pm_M211 (pc_q := 11) rfl rfl rfl ?_
                refine pm_R_lo pm_M211 (pc_q := 12) rfl rfl rfl ?_
                refine pm_R_cs pm_M211 (pc_q := 15) (ra := [.int x6_2687, .int z10, .int z4072]) (rest := [.ref 55]) (ls_q := [.int z4072, .int z10, .int x6_2687]) rfl rfl (Or.inl rfl) pm_M207 rfl rfl (Nat.le_of_ble_eq_true rfl) rfl rfl ?_
                refine pm_R_op pm_M207 (pc_q := 3) (st_q := [.int 144]) rfl rfl rfl ?_
                refine pm_R_lo pm_M207 (pc_q := 4) rfl rfl rfl ?_
                refine sf_R_imul pm_M207 (pc_q := 5) rfl rfl sf_k144 B4075 (by decide) (by decide) (by decide) (fun z4076 e4077 B4078 => ?_)
                refine pm_R_op pm_M207 (pc_q := 7) (st_q := [.int 12, .int z4076]) rfl rfl rfl ?_
                refine pm_R_lo pm_M207 (pc_q := 8) rfl rfl rfl ?_
                refine sf_R_imul pm_M207 (pc_q := 9) rfl rfl sf_k12 B2690 (by decide) (by decide) (by decide) (fun z4079 e4080 B4081 => ?_)
                refine sf_R_iadd pm_M207 (pc_q := 10) rfl rfl B4078 B4081 (by decide) (by decide) (fun z4082 e4083 B4084 => ?_)
                refine pm_R_lo pm_M207 (pc_q := 11) rfl rfl rfl ?_
                refine sf_R_iadd pm_M207 (pc_q := 12) rfl rfl B4084 B2689 (by decide) (by decide) (fun z4085 e4086 B4087 => ?_)
                refine pm_R_ret pm_M207 (r := some (.int z4085)) rfl (pm_ret_i _) ?_
                show pm_R _ 211 15 [.ref 41, .int x7_4017, .int z10, .int x6_2687, .int z16] [.int z4085, .ref 55] _ _
                obtain ⟨f4088, e4089, b4090⟩ := T.2.2.2.1 55 (by decide) (by decide)
                refine rf_R_lld pm_M211 T (pc_q := 16) rfl e4089 (by decide) (by decide) (sf_in B4087 (by decide) (by decide)) rfl (fun z4091 ez4092 => ?_)
                have B4093 : lf_B 0 1000000000000 z4091 := ez4092 ▸ b4090 _
                refine pm_R_lo pm_M211 (pc_q := 17) rfl rfl rfl ?_
                refine rf_R_get pm_M211 T (pc_q := 20) (v := .ref 55) rfl rfl rfl rfl ?_
                refine pm_R_lo pm_M211 (pc_q := 21) rfl rfl rfl ?_
                refine pm_R_lo pm_M211 (pc_q := 22) rfl rfl rfl ?_
                refine pm_R_op pm_M211 (pc_q := 23) (st_q := [.int 2, .int x7_4017, .ref 41, .ref 55, .long z4091]) rfl rfl rfl ?_
                refine pm_R_cv pm_M211 (pc_q := 26) (a := 41) (ra := [.int 2, .int x7_4017]) (rest := [.ref 55, .long z4091]) (ls_q := [.ref 41, .int x7_4017, .int 2]) rfl rfl (Or.inl rfl) pm_M210 T.2.1 rfl (by decide) (Nat.lt_of_lt_of_le (by decide) T.1) rfl rfl (Nat.le_of_ble_eq_true rfl) rfl rfl ?_
                refine pm_R_lo pm_M210 (pc_q := 1) rfl rfl rfl ?_
                refine rf_R_get pm_M210 T (pc_q := 4) (v := .ref 47) rfl rfl rfl rfl ?_
                refine pm_R_op pm_M210 (pc_q := 6) (st_q := [.int 100, .ref 47]) rfl rfl rfl ?_
                refine pm_R_lo pm_M210 (pc_q := 7) rfl rfl rfl ?_
                refine rf_R_get pm_M210 T (pc_q := 10) (v := .int (m 23)) rfl rfl rfl rfl ?_
                refine sf_R_imulV pm_M210 (pc_q := 11) rfl rfl sf_k100 B4018 (by decide) (by decide) (by decide) e4020 ?_
                refine pm_R_op pm_M210 (pc_q := 12) (st_q := [.int 2, .int z4019, .ref 47]) rfl rfl rfl ?_
                refine sf_R_iaddV pm_M210 (pc_q := 13) rfl rfl B4021 sf_k2 (by decide) (by decide) e4036 ?_
                refine pm_R_op pm_M210 (pc_q := 14) (st_q := [.int 4, .int z4035, .ref 47]) rfl rfl rfl ?_
                refine pm_R_lo pm_M210 (pc_q := 15) rfl rfl rfl ?_
                refine sf_R_imulV pm_M210 (pc_q := 16) rfl rfl sf_k4 B4033 (by decide) (by decide) (by decide) e4039 ?_
                refine sf_R_iaddV pm_M210 (pc_q := 17) rfl rfl B4037 B4040 (by decide) (by decide) e4042 ?_
                refine pm_R_lo pm_M210 (pc_q := 18) rfl rfl rfl ?_
                refine sf_R_iadd pm_M210 (pc_q := 19) rfl rfl B4043 sf_k2 (by decide) (by decide) (fun z4094 e4095 B4096 => ?_)
                refine rf_R_ild pm_M210 T (pc_q := 20) rfl e4023 (by decide) (sf_in B4096 (by decide) (by decide)) rfl (fun z4097 ez4098 => ?_)
                have e4099 : (z4094).toInt = 100 * ((m 23)).toInt + 4 * (x7_4017).toInt + 4 := (sf_aux6 _ _ _ _ _ _ _ e4020 e4036 e4039 e4042 e4095)
                have B4100 : sf_B 0 5 z4097 := ez4098 ▸ rf_p47r b4024 e4099 B4018 B4033 (by decide) (by decide) (by decide)
                refine pm_R_ret pm_M210 (r := some (.int z4097)) rfl (pm_ret_i _) ?_
                show pm_R _ 211 26 [.ref 41, .int x7_4017, .int z10, .int x6_2687, .int z16] [.int z4097, .ref 55, .long z4091] _ _
                refine pm_R_lo pm_M211 (pc_q := 27) rfl rfl rfl ?_
                refine pm_R_op pm_M211 (pc_q := 28) (st_q := [.int 1, .int x6_2687, .int z4097, .ref 55, .long z4091]) rfl rfl rfl ?_
                refine sf_R_iadd pm_M211 (pc_q := 29) rfl rfl B2689 sf_k1 (by decide) (by decide) (fun z4101 e4102 B4103 => ?_)
                refine pm_R_lo pm_M211 (pc_q := 31) rfl rfl rfl ?_
                refine pm_R_cs pm_M211 (pc_q := 34) (ra := [.int z16, .int z4101, .int z4097]) (rest := [.ref 55, .long z4091]) (ls_q := [.int z4097, .int z4101, .int z16]) rfl rfl (Or.inl rfl) pm_M207 rfl rfl (Nat.le_of_ble_eq_true rfl) rfl rfl ?_
                refine pm_R_op pm_M207 (pc_q := 3) (st_q := [.int 144]) rfl rfl rfl ?_
                refine pm_R_lo pm_M207 (pc_q := 4) rfl rfl rfl ?_
                refine sf_R_imul pm_M207 (pc_q := 5) rfl rfl sf_k144 B4100 (by decide) (by decide) (by decide) (fun z4104 e4105 B4106 => ?_)
                refine pm_R_op pm_M207 (pc_q := 7) (st_q := [.int 12, .int z4104]) rfl rfl rfl ?_
                refine pm_R_lo pm_M207 (pc_q := 8) rfl rfl rfl ?_
                refine sf_R_imul pm_M207 (pc_q := 9) rfl rfl sf_k12 B4103 (by decide) (by decide) (by decide) (fun z4107 e4108 B4109 => ?_)
                refine sf_R_iadd pm_M207 (pc_q := 10) rfl rfl B4106 B4109 (by decide) (by decide) (fun z4110 e4111 B4112 => ?_)
                refine pm_R_lo pm_M207 (pc_q := 11) rfl rfl rfl ?_
                refine sf_R_iadd pm_M207 (pc_q := 12) rfl rfl B4112 B2691 (by decide) (by decide) (fun z4113 e4114 B4115 => ?_)
                refine pm_R_ret pm_M207 (r := some (.int z4113)) rfl (pm_ret_i _) ?_
                show pm_R _ 211 34 [.ref 41, .int x7_4017, .int z10, .int x6_2687, .int z16] [.int z4113, .ref 55, .long z4091] _ _
                refine rf_R_lld pm_M211 T (pc_q := 35) rfl e4089 (by decide) (by decide) (sf_in B4115 (by decide) (by decide)) rfl (fun z4116 ez4117 => ?_)
                have B4118 : lf_B 0 1000000000000 z4116 := ez4117 ▸ b4090 _
                refine pm_R_cs pm_M211 (pc_q := 38) (ra := [.long z4116, .long z4091]) (rest := []) (ls_q := [.long z4091, pm_no, .long z4116, pm_no]) rfl rfl (Or.inl rfl) pm_M212 rfl rfl (Nat.le_of_ble_eq_true rfl) rfl rfl ?_
                refine rf_c212 (d := d + 0) B4093 B4118 (fun r4119 X4127 B4120 => ?_)
                show pm_R _ 211 38 [.ref 41, .int x7_4017, .int z10, .int x6_2687, .int z16] [.long r4119] _ _
                refine pm_R_ret pm_M211 (r := some (.long r4119)) rfl rfl ?_
                show pm_R _ 232 74 [.ref 41, .int a0, .long y2_4017, pm_no, .int z10, .int z16, .int x6_2687, .int x7_4017, g8_4017, g9_4017, pm_no, pm_no, pm_no] [.long r4119] _ _
                refine pm_R_br pm_M232 (pc_q := 78) rfl rfl ?_
                refine pm_R_lo pm_M232 (pc_q := 80) (ls_q := [.ref 41, .int a0, .long y2_4017, pm_no, .int z10, .int z16, .int x6_2687, .int x7_4017, .long r4119, pm_no, pm_no, pm_no, pm_no]) (st_q := []) rfl rfl rfl ?_
                refine pm_R_lo pm_M232 (pc_q := 81) rfl rfl rfl ?_
                refine pm_R_lo pm_M232 (pc_q := 83) rfl rfl rfl ?_
                refine sf_R_lcmp pm_M232 (pc_q := 84) rfl rfl (fun z4128 e4129 => ?_)
                refine pm_R_ifc pm_M232 (t := 175) (pc_q := 87) rfl rfl rfl (fun c4130 => ?_) (fun c4130 => ?_)
                · have B4131 : sf_B 0 2147483647 z4128 := sf_leR c4130 sf_k0 (sf_any z4128)
                  have k4132 := lf_ge e4129 B4131 (by decide)
                  refine pm_R_lo pm_M232 (pc_q := 176) (pm_q232_1 (Nat.le_of_ble_eq_true rfl)) rfl rfl ?_
                  refine pm_R_lo pm_M232 (pc_q := 178) (pm_q232_1 (Nat.le_of_ble_eq_true rfl)) rfl rfl ?_
                  refine sf_R_lsubN pm_M232 (pc_q := 179) (pm_q232_1 (Nat.le_of_ble_eq_true rfl)) rfl By2_4017 B4120 (by decide) k4132 (fun z4133 e4134 B4135 => ?_)
                  refine pm_R_lo pm_M232 (pc_q := 180) (ls_q := [.ref 41, .int a0, .long z4133, pm_no, .int z10, .int z16, .int x6_2687, .int x7_4017, .long r4119, pm_no, pm_no, pm_no, pm_no]) (st_q := []) (pm_q232_1 (Nat.le_of_ble_eq_true rfl)) rfl rfl ?_
                  refine sf_R_iinc pm_M232 (pc_q := 183) (ls_q := fun z => [.ref 41, .int a0, .long z4133, pm_no, .int z10, .int z16, .int x6_2687, .int z, .long r4119, pm_no, pm_no, pm_no, pm_no]) (pm_q232_1 (Nat.le_of_ble_eq_true rfl)) B4033 rfl (by decide) (by decide) (by decide) (fun _ => rfl) rfl (fun z4136 e4137 B4138 => ?_)
                  show pm_R _ 232 183 [.ref 41, .int a0, .long z4133, pm_no, .int z10, .int z16, .int x6_2687, .int z4136, .long r4119, pm_no, pm_no, pm_no, pm_no] [] _ _
                  refine pm_R_br pm_M232 (pc_q := 37) (pm_q232_1 (Nat.le_of_ble_eq_true rfl)) rfl ?_
                  exact ih_4017 _ (sf_up hN_4017 e4137 B4033 (by decide) (by decide)) z4136 z4133 (.long r4119) (pm_no) (sf_weak B4138 (by decide) (by decide)) B4135 rfl rfl
                · have B4139 : sf_B (-2147483648) (-1) z4128 := sf_ltL (Int32.not_le.mp c4130) (sf_any z4128) sf_k0
                  have k4140 := lf_lt e4129 B4139 (by decide)
                  have k4141 := sf_lneB e4129 B4139 (by decide)
                  refine pm_R_lo pm_M232 (pc_q := 88) rfl rfl rfl ?_
                  refine rf_R_get pm_M232 T (pc_q := 91) (v := .ref 55) rfl rfl rfl rfl ?_
                  refine pm_R_lo pm_M232 (pc_q := 92) rfl rfl rfl ?_
                  refine pm_R_lo pm_M232 (pc_q := 94) rfl rfl rfl ?_
                  refine pm_R_op pm_M232 (pc_q := 95) (st_q := [.int 2, .int x7_4017, .ref 41, .ref 55]) rfl rfl rfl ?_
                  refine pm_R_cv pm_M232 (pc_q := 98) (a := 41) (ra := [.int 2, .int x7_4017]) (rest := [.ref 55]) (ls_q := [.ref 41, .int x7_4017, .int 2]) rfl rfl (Or.inl rfl) pm_M210 T.2.1 rfl (by decide) (Nat.lt_of_lt_of_le (by decide) T.1) rfl rfl (Nat.le_of_ble_eq_true rfl) rfl rfl ?_
                  refine pm_R_lo pm_M210 (pc_q := 1) rfl rfl rfl ?_
                  refine rf_R_get pm_M210 T (pc_q := 4) (v := .ref 47) rfl rfl rfl rfl ?_
                  refine pm_R_op pm_M210 (pc_q := 6) (st_q := [.int 100, .ref 47]) rfl rfl rfl ?_
                  refine pm_R_lo pm_M210 (pc_q := 7) rfl rfl rfl ?_
                  refine rf_R_get pm_M210 T (pc_q := 10) (v := .int (m 23)) rfl rfl rfl rfl ?_
                  refine sf_R_imulV pm_M210 (pc_q := 11) rfl rfl sf_k100 B4018 (by decide) (by decide) (by decide) e4020 ?_
                  refine pm_R_op pm_M210 (pc_q := 12) (st_q := [.int 2, .int z4019, .ref 47]) rfl rfl rfl ?_
                  refine sf_R_iaddV pm_M210 (pc_q := 13) rfl rfl B4021 sf_k2 (by decide) (by decide) e4036 ?_
                  refine pm_R_op pm_M210 (pc_q := 14) (st_q := [.int 4, .int z4035, .ref 47]) rfl rfl rfl ?_
                  refine pm_R_lo pm_M210 (pc_q := 15) rfl rfl rfl ?_
                  refine sf_R_imulV pm_M210 (pc_q := 16) rfl rfl sf_k4 B4033 (by decide) (by decide) (by decide) e4039 ?_
                  refine sf_R_iaddV pm_M210 (pc_q := 17) rfl rfl B4037 B4040 (by decide) (by decide) e4042 ?_
                  refine pm_R_lo pm_M210 (pc_q := 18) rfl rfl rfl ?_
                  refine sf_R_iaddV pm_M210 (pc_q := 19) rfl rfl B4043 sf_k2 (by decide) (by decide) e4095 ?_
                  refine pm_R_iald pm_M210 (pc_q := 20) (v := z4097) rfl e4023 (Nat.lt_of_lt_of_le (by decide) T.1) (sf_in B4096 (by decide) (by decide)) ez4098 rfl ?_
                  refine pm_R_ret pm_M210 (r := some (.int z4097)) rfl (pm_ret_i _) ?_
                  show pm_R _ 232 98 [.ref 41, .int a0, .long y2_4017, pm_no, .int z10, .int z16, .int x6_2687, .int x7_4017, .long r4119, pm_no, pm_no, pm_no, pm_no] [.int z4097, .ref 55] _ _
                  refine pm_R_lo pm_M232 (pc_q := 100) rfl rfl rfl ?_
                  refine pm_R_op pm_M232 (pc_q := 101) (st_q := [.int 1, .int x6_2687, .int z4097, .ref 55]) rfl rfl rfl ?_
                  refine sf_R_iaddV pm_M232 (pc_q := 102) rfl rfl B2689 sf_k1 (by decide) (by decide) e4102 ?_
                  refine pm_R_lo pm_M232 (pc_q := 104) rfl rfl rfl ?_
                  refine pm_R_cs pm_M232 (pc_q := 107) (ra := [.int z16, .int z4101, .int z4097]) (rest := [.ref 55]) (ls_q := [.int z4097, .int z4101, .int z16]) rfl rfl (Or.inl rfl) pm_M207 rfl rfl (Nat.le_of_ble_eq_true rfl) rfl rfl ?_
                  refine pm_R_op pm_M207 (pc_q := 3) (st_q := [.int 144]) rfl rfl rfl ?_
                  refine pm_R_lo pm_M207 (pc_q := 4) rfl rfl rfl ?_
                  refine sf_R_imulV pm_M207 (pc_q := 5) rfl rfl sf_k144 B4100 (by decide) (by decide) (by decide) e4105 ?_
                  refine pm_R_op pm_M207 (pc_q := 7) (st_q := [.int 12, .int z4104]) rfl rfl rfl ?_
                  refine pm_R_lo pm_M207 (pc_q := 8) rfl rfl rfl ?_
                  refine sf_R_imulV pm_M207 (pc_q := 9) rfl rfl sf_k12 B4103 (by decide) (by decide) (by decide) e4108 ?_
                  refine sf_R_iaddV pm_M207 (pc_q := 10) rfl rfl B4106 B4109 (by decide) (by decide) e4111 ?_
                  refine pm_R_lo pm_M207 (pc_q := 11) rfl rfl rfl ?_
                  refine sf_R_iaddV pm_M207 (pc_q := 12) rfl rfl B4112 B2691 (by decide) (by decide) e4114 ?_
                  refine pm_R_ret pm_M207 (r := some (.int z4113)) rfl (pm_ret_i _) ?_
                  show pm_R _ 232 107 [.ref 41, .int a0, .long y2_4017, pm_no, .int z10, .int z16, .int x6_2687, .int x7_4017, .long r4119, pm_no, pm_no, pm_no, pm_no] [.int z4113, .ref 55] _ _
                  refine pm_R_lald pm_M232 (pc_q := 108) (v := z4116) rfl e4089 (by decide) (Nat.lt_of_lt_of_le (by decide) T.1) (sf_in B4115 (by decide) (by decide)) ez4117 rfl ?_
                  refine pm_R_lo pm_M232 (pc_q := 110) (ls_q := [.ref 41, .int a0, .long y2_4017, pm_no, .int z10, .int z16, .int x6_2687, .int x7_4017, .long r4119, pm_no, .long z4116, pm_no, pm_no]) (st_q := []) (pm_q232_1 (Nat.le_of_ble_eq_true rfl)) rfl rfl ?_
                  refine pm_R_lo pm_M232 (pc_q := 111) (pm_q232_1 (Nat.le_of_ble_eq_true rfl)) rfl rfl ?_
                  refine rf_R_get pm_M232 T (pc_q := 114) (v := .ref 61) (pm_q232_1 (Nat.le_of_ble_eq_true rfl)) rfl rfl rfl ?_
                  refine pm_R_lo pm_M232 (pc_q := 115) (pm_q232_1 (Nat.le_of_ble_eq_true rfl)) rfl rfl ?_
                  refine pm_R_lo pm_M232 (pc_q := 117) (pm_q232_1 (Nat.le_of_ble_eq_true rfl)) rfl rfl ?_
                  obtain ⟨f4146, e4147, b4148⟩ := T.2.2.2.1 61 (by decide) (by decide)
                  refine rf_R_ist pm_M232 T (pc_q := 118) (pm_q232_1 (Nat.le_of_ble_eq_true rfl)) e4147 (by decide) (by decide) (sf_in Ba0 (by decide) (by decide)) ⟨_, rfl, sf_upd b4148 (sf_weak B4033 (by decide) (by decide)) _⟩ rfl (fun h4149 T4150 F4151 e4152 => ?_)
                  have F4153 := (rf_G.refl [41, 57, 58, 59, 60, 61, 62, 63] h).trans F4151 (by decide)
                  refine pm_R_lo pm_M232 (pc_q := 119) (pm_q232_1 (Nat.le_of_ble_eq_true rfl)) rfl rfl ?_
                  refine rf_R_get pm_M232 T4150 (pc_q := 122) (v := .ref 62) (pm_q232_1 (Nat.le_of_ble_eq_true rfl)) rfl rfl rfl ?_
                  refine pm_R_lo pm_M232 (pc_q := 123) (pm_q232_1 (Nat.le_of_ble_eq_true rfl)) rfl rfl ?_
                  refine pm_R_lo pm_M232 (pc_q := 125) (pm_q232_1 (Nat.le_of_ble_eq_true rfl)) rfl rfl ?_
                  obtain ⟨f4154, e4155, b4156⟩ := T4150.2.2.2.1 62 (by decide) (by decide)
                  refine rf_R_ist pm_M232 T4150 (pc_q := 126) (pm_q232_1 (Nat.le_of_ble_eq_true rfl)) e4155 (by decide) (by decide) (sf_in Ba0 (by decide) (by decide)) ⟨_, rfl, sf_upd b4156 (sf_weak B2689 (by decide) (by decide)) _⟩ rfl (fun h4157 T4158 F4159 e4160 => ?_)
                  have F4161 := F4153.trans F4159 (by decide)
                  refine pm_R_lo pm_M232 (pc_q := 127) (pm_q232_1 (Nat.le_of_ble_eq_true rfl)) rfl rfl ?_
                  refine rf_R_get pm_M232 T4158 (pc_q := 130) (v := .ref 63) (pm_q232_1 (Nat.le_of_ble_eq_true rfl)) rfl rfl rfl ?_
                  refine pm_R_lo pm_M232 (pc_q := 131) (pm_q232_1 (Nat.le_of_ble_eq_true rfl)) rfl rfl ?_
                  refine pm_R_lo pm_M232 (pc_q := 132) (pm_q232_1 (Nat.le_of_ble_eq_true rfl)) rfl rfl ?_
                  refine pm_R_lo pm_M232 (pc_q := 133) (pm_q232_1 (Nat.le_of_ble_eq_true rfl)) rfl rfl ?_
                  refine pm_R_lo pm_M232 (pc_q := 135) (pm_q232_1 (Nat.le_of_ble_eq_true rfl)) rfl rfl ?_
                  refine pm_R_op pm_M232 (pc_q := 136) (st_q := [.int 1, .int x7_4017, .ref 41, .ref 41, .int a0, .ref 63]) (pm_q232_1 (Nat.le_of_ble_eq_true rfl)) rfl rfl ?_
                  refine pm_R_cv pm_M232 (pc_q := 139) (a := 41) (ra := [.int 1, .int x7_4017]) (rest := [.ref 41, .int a0, .ref 63]) (ls_q := [.ref 41, .int x7_4017, .int 1]) (pm_q232_1 (Nat.le_of_ble_eq_true rfl)) rfl (Or.inl rfl) pm_M210 T4158.2.1 rfl (by decide) (Nat.lt_of_lt_of_le (by decide) T4158.1) rfl rfl (Nat.le_of_ble_eq_true rfl) rfl rfl ?_
                  refine pm_R_lo pm_M210 (pc_q := 1) rfl rfl rfl ?_
                  refine rf_R_get pm_M210 T4158 (pc_q := 4) (v := .ref 47) rfl rfl rfl rfl ?_
                  refine pm_R_op pm_M210 (pc_q := 6) (st_q := [.int 100, .ref 47]) rfl rfl rfl ?_
                  refine pm_R_lo pm_M210 (pc_q := 7) rfl rfl rfl ?_
                  refine rf_R_get pm_M210 T4158 (pc_q := 10) (v := .int (m 23)) rfl rfl rfl rfl ?_
                  refine sf_R_imulV pm_M210 (pc_q := 11) rfl rfl sf_k100 B4018 (by decide) (by decide) (by decide) e4020 ?_
                  refine pm_R_op pm_M210 (pc_q := 12) (st_q := [.int 2, .int z4019, .ref 47]) rfl rfl rfl ?_
                  refine sf_R_iaddV pm_M210 (pc_q := 13) rfl rfl B4021 sf_k2 (by decide) (by decide) e4036 ?_
                  refine pm_R_op pm_M210 (pc_q := 14) (st_q := [.int 4, .int z4035, .ref 47]) rfl rfl rfl ?_
                  refine pm_R_lo pm_M210 (pc_q := 15) rfl rfl rfl ?_
                  refine sf_R_imulV pm_M210 (pc_q := 16) rfl rfl sf_k4 B4033 (by decide) (by decide) (by decide) e4039 ?_
                  refine sf_R_iaddV pm_M210 (pc_q := 17) rfl rfl B4037 B4040 (by decide) (by decide) e4042 ?_
                  refine pm_R_lo pm_M210 (pc_q := 18) rfl rfl rfl ?_
                  refine sf_R_iaddV pm_M210 (pc_q := 19) rfl rfl B4043 sf_k1 (by decide) (by decide) e4070 ?_
                  have e4162 := (F4159.cell (by decide) (F4151.cell (by decide) e4023))
                  refine pm_R_iald pm_M210 (pc_q := 20) (v := z4072) rfl e4162 (Nat.lt_of_lt_of_le (by decide) T4158.1) (sf_in B4071 (by decide) (by decide)) ez4073 rfl ?_
                  refine pm_R_ret pm_M210 (r := some (.int z4072)) rfl (pm_ret_i _) ?_
                  show pm_R _ 232 139 [.ref 41, .int a0, .long y2_4017, pm_no, .int z10, .int z16, .int x6_2687, .int x7_4017, .long r4119, pm_no, .long z4116, pm_no, pm_no] [.int z4072, .ref 41, .int a0, .ref 63] _ _
                  refine pm_R_lo pm_M232 (pc_q := 141) (pm_q232_1 (Nat.le_of_ble_eq_true rfl)) rfl rfl ?_
                  refine pm_R_lo pm_M232 (pc_q := 143) (pm_q232_1 (Nat.le_of_ble_eq_true rfl)) rfl rfl ?_
                  refine pm_R_lo pm_M232 (pc_q := 144) (pm_q232_1 (Nat.le_of_ble_eq_true rfl)) rfl rfl ?_
                  refine pm_R_lo pm_M232 (pc_q := 146) (pm_q232_1 (Nat.le_of_ble_eq_true rfl)) rfl rfl ?_
                  have k4166 := rf_nz k4140 By2_4017 (by decide) X4127 ez4117 ez4117 (sf_aux28 _ _ _ _ _ _ _ _ e4105 e4102 e4108 e4111 e4114)
                  have B4167 : lf_B 1 1000000000000 z4116 := lf_nz B4118 (by decide) k4166
                  refine sf_R_ldiv pm_M232 (pc_q := 147) (pm_q232_1 (Nat.le_of_ble_eq_true rfl)) rfl By2_4017 B4167 (by decide) (by decide) (fun z4165 e4168 B4169 => ?_)
                  refine pm_R_cv pm_M232 (pc_q := 150) (a := 41) (ra := [.long z4165, .int x6_2687, .int z10, .int z4072]) (rest := [.int a0, .ref 63]) (ls_q := [.ref 41, .int z4072, .int z10, .int x6_2687, .long z4165, pm_no]) (pm_q232_1 (Nat.le_of_ble_eq_true rfl)) rfl (Or.inl rfl) pm_M230 T4158.2.1 rfl (by decide) (Nat.lt_of_lt_of_le (by decide) T4158.1) rfl rfl (Nat.le_of_ble_eq_true rfl) rfl rfl ?_
                  refine pm_R_lo pm_M230 (pc_q := 1) rfl rfl rfl ?_
                  refine rf_R_get pm_M230 T4158 (pc_q := 4) (v := .ref 57) rfl rfl rfl rfl ?_
                  refine pm_R_lo pm_M230 (pc_q := 5) rfl rfl rfl ?_
                  refine rf_R_get pm_M230 T4158 (pc_q := 8) (v := .int (m 31)) rfl rfl rfl rfl ?_
                  refine pm_R_lo pm_M230 (pc_q := 9) rfl rfl rfl ?_
                  have e4170 := (F4159.cell (by decide) (F4151.cell (by decide) e4052))
                  refine rf_R_ist pm_M230 T4158 (pc_q := 10) rfl e4170 (by decide) (by decide) (sf_in Bf31 (by decide) (by decide)) ⟨_, rfl, sf_upd b4053 B4075 _⟩ rfl (fun h4171 T4172 F4173 e4174 => ?_)
                  have F4175 := F4161.trans F4173 (by decide)
                  refine pm_R_lo pm_M230 (pc_q := 11) rfl rfl rfl ?_
                  refine rf_R_get pm_M230 T4172 (pc_q := 14) (v := .ref 58) rfl rfl rfl rfl ?_
                  refine pm_R_lo pm_M230 (pc_q := 15) rfl rfl rfl ?_
                  refine rf_R_get pm_M230 T4172 (pc_q := 18) (v := .int (m 31)) rfl rfl rfl rfl ?_
                  refine pm_R_lo pm_M230 (pc_q := 19) rfl rfl rfl ?_
                  have e4176 := (F4173.cell (by decide) (F4159.cell (by decide) (F4151.cell (by decide) e8)))
                  refine rf_R_ist pm_M230 T4172 (pc_q := 20) rfl e4176 (by decide) (by decide) (sf_in Bf31 (by decide) (by decide)) ⟨_, rfl, sf_upd b9 (sf_weak B2690 (by decide) (by decide)) _⟩ rfl (fun h4177 T4178 F4179 e4180 => ?_)
                  have F4181 := F4175.trans F4179 (by decide)
                  refine pm_R_lo pm_M230 (pc_q := 21) rfl rfl rfl ?_
                  refine rf_R_get pm_M230 T4178 (pc_q := 24) (v := .ref 59) rfl rfl rfl rfl ?_
                  refine pm_R_lo pm_M230 (pc_q := 25) rfl rfl rfl ?_
                  refine rf_R_get pm_M230 T4178 (pc_q := 28) (v := .int (m 31)) rfl rfl rfl rfl ?_
                  refine pm_R_lo pm_M230 (pc_q := 29) rfl rfl rfl ?_
                  have e4182 := (F4179.cell (by decide) (F4173.cell (by decide) (F4159.cell (by decide) (F4151.cell (by decide) e14))))
                  refine rf_R_ist pm_M230 T4178 (pc_q := 30) rfl e4182 (by decide) (by decide) (sf_in Bf31 (by decide) (by decide)) ⟨_, rfl, sf_upd b15 (sf_weak B2689 (by decide) (by decide)) _⟩ rfl (fun h4183 T4184 F4185 e4186 => ?_)
                  have F4187 := F4181.trans F4185 (by decide)
                  refine pm_R_lo pm_M230 (pc_q := 31) rfl rfl rfl ?_
                  refine rf_R_get pm_M230 T4184 (pc_q := 34) (v := .ref 60) rfl rfl rfl rfl ?_
                  refine pm_R_lo pm_M230 (pc_q := 35) rfl rfl rfl ?_
                  refine rf_R_get pm_M230 T4184 (pc_q := 38) (v := .int (m 31)) rfl rfl rfl rfl ?_
                  refine pm_R_lo pm_M230 (pc_q := 40) rfl rfl rfl ?_
                  have e4188 := (F4185.cell (by decide) (F4179.cell (by decide) (F4173.cell (by decide) (F4159.cell (by decide) (F4151.cell (by decide) e2)))))
                  refine rf_R_lst pm_M230 T4184 (pc_q := 41) rfl e4188 (by decide) (by decide) (sf_in Bf31 (by decide) (by decide)) ⟨_, rfl, lf_upd b3 B4169 _⟩ rfl (fun h4189 T4190 F4191 e4192 => ?_)
                  have F4193 := F4187.trans F4191 (by decide)
                  refine pm_R_lo pm_M230 (pc_q := 42) rfl rfl rfl ?_
                  refine pm_R_op pm_M230 (pc_q := 43) (st_q := [.ref 41, .ref 41]) rfl rfl rfl ?_
                  refine rf_R_get pm_M230 T4190 (pc_q := 46) (v := .int (m 31)) rfl rfl rfl rfl ?_
                  refine pm_R_op pm_M230 (pc_q := 47) (st_q := [.int 1, .int (m 31), .ref 41]) rfl rfl rfl ?_
                  refine sf_R_iadd pm_M230 (pc_q := 48) rfl rfl Bf31 sf_k1 (by decide) (by decide) (fun z4194 e4195 B4196 => ?_)
                  refine rf_R_put pm_M230 T4190 (pc_q := 51) rfl rfl rfl (by decide) rfl rfl (sf_weak B4196 (by decide) (by decide)) rfl rfl (fun h4197 m4200 em4201 T4198 F4199 => ?_)
                  have F4202 := F4193.trans F4199 (by decide)
                  have B4203 : sf_B 1 22 (m4200 31) := by rw [em4201]; exact B4196
                  have ek4204 : (m4200 31).toInt = (z4194).toInt := by rw [em4201]; rfl
                  have W4205 : rf_W [31] m m4200 := by rw [em4201]; exact (rf_W.refl [31] m).put (by decide)
                  refine pm_R_lo pm_M230 (pc_q := 52) rfl rfl rfl ?_
                  refine rf_R_get pm_M230 T4198 (pc_q := 55) (v := .int (m4200 31)) rfl rfl rfl rfl ?_
                  refine pm_R_op pm_M230 (pc_q := 56) (st_q := [.int 1, .int (m4200 31)]) rfl rfl rfl ?_
                  refine sf_R_isub pm_M230 (pc_q := 57) rfl rfl B4203 sf_k1 (by decide) (by decide) (fun z4206 e4207 B4208 => ?_)
                  refine pm_R_ret pm_M230 (r := some (.int z4206)) rfl (pm_ret_i _) ?_
                  show pm_R _ 232 150 [.ref 41, .int a0, .long y2_4017, pm_no, .int z10, .int z16, .int x6_2687, .int x7_4017, .long r4119, pm_no, .long z4116, pm_no, pm_no] [.int z4206, .int a0, .ref 63] _ _
                  obtain ⟨f4209, e4210, b4211⟩ := T4198.2.2.2.1 63 (by decide) (by decide)
                  refine rf_R_ist pm_M232 T4198 (pc_q := 151) (pm_q232_1 (Nat.le_of_ble_eq_true rfl)) e4210 (by decide) (by decide) (sf_in Ba0 (by decide) (by decide)) ⟨_, rfl, sf_upd b4211 (sf_weak B4208 (by decide) (by decide)) _⟩ rfl (fun h4212 T4213 F4214 e4215 => ?_)
                  have F4216 := F4202.trans F4214 (by decide)
                  refine pm_R_lo pm_M232 (pc_q := 152) (pm_q232_1 (Nat.le_of_ble_eq_true rfl)) rfl rfl ?_
                  refine pm_R_lo pm_M232 (pc_q := 153) (pm_q232_1 (Nat.le_of_ble_eq_true rfl)) rfl rfl ?_
                  refine pm_R_lo pm_M232 (pc_q := 155) (pm_q232_1 (Nat.le_of_ble_eq_true rfl)) rfl rfl ?_
                  refine pm_R_op pm_M232 (pc_q := 156) (st_q := [.int 2, .int x7_4017, .ref 41, .ref 41]) (pm_q232_1 (Nat.le_of_ble_eq_true rfl)) rfl rfl ?_
                  refine pm_R_cv pm_M232 (pc_q := 159) (a := 41) (ra := [.int 2, .int x7_4017]) (rest := [.ref 41]) (ls_q := [.ref 41, .int x7_4017, .int 2]) (pm_q232_1 (Nat.le_of_ble_eq_true rfl)) rfl (Or.inl rfl) pm_M210 T4213.2.1 rfl (by decide) (Nat.lt_of_lt_of_le (by decide) T4213.1) rfl rfl (Nat.le_of_ble_eq_true rfl) rfl rfl ?_
                  refine pm_R_lo pm_M210 (pc_q := 1) rfl rfl rfl ?_
                  refine rf_R_get pm_M210 T4213 (pc_q := 4) (v := .ref 47) rfl rfl rfl rfl ?_
                  refine pm_R_op pm_M210 (pc_q := 6) (st_q := [.int 100, .ref 47]) rfl rfl rfl ?_
                  refine pm_R_lo pm_M210 (pc_q := 7) rfl rfl rfl ?_
                  have B4217 : sf_B 0 1 (m4200 23) := T4213.2.2.1 23
                  refine rf_R_get pm_M210 T4213 (pc_q := 10) (v := .int (m4200 23)) rfl rfl rfl rfl ?_
                  refine sf_R_imul pm_M210 (pc_q := 11) rfl rfl sf_k100 B4217 (by decide) (by decide) (by decide) (fun z4218 e4219 B4220 => ?_)
                  refine pm_R_op pm_M210 (pc_q := 12) (st_q := [.int 2, .int z4218, .ref 47]) rfl rfl rfl ?_
                  refine sf_R_iadd pm_M210 (pc_q := 13) rfl rfl B4220 sf_k2 (by decide) (by decide) (fun z4221 e4222 B4223 => ?_)
                  refine pm_R_op pm_M210 (pc_q := 14) (st_q := [.int 4, .int z4221, .ref 47]) rfl rfl rfl ?_
                  refine pm_R_lo pm_M210 (pc_q := 15) rfl rfl rfl ?_
                  refine sf_R_imulV pm_M210 (pc_q := 16) rfl rfl sf_k4 B4033 (by decide) (by decide) (by decide) e4039 ?_
                  refine sf_R_iadd pm_M210 (pc_q := 17) rfl rfl B4223 B4040 (by decide) (by decide) (fun z4224 e4225 B4226 => ?_)
                  refine pm_R_lo pm_M210 (pc_q := 18) rfl rfl rfl ?_
                  refine sf_R_iadd pm_M210 (pc_q := 19) rfl rfl B4226 sf_k2 (by decide) (by decide) (fun z4227 e4228 B4229 => ?_)
                  have e4230 := (F4214.cell (by decide) (F4199.cell (by decide) (F4191.cell (by decide) (F4185.cell (by decide) (F4179.cell (by decide) (F4173.cell (by decide) e4162))))))
                  refine rf_R_ild pm_M210 T4213 (pc_q := 20) rfl e4230 (by decide) (sf_in B4229 (by decide) (by decide)) rfl (fun z4231 ez4232 => ?_)
                  have e4233 : (z4227).toInt = 100 * ((m4200 23)).toInt + 4 * (x7_4017).toInt + 4 := (sf_aux6 _ _ _ _ _ _ _ e4219 e4222 e4039 e4225 e4228)
                  have B4234 : sf_B 0 5 z4231 := ez4232 ▸ rf_p47r b4024 e4233 B4217 B4033 (by decide) (by decide) (by decide)
                  refine pm_R_ret pm_M210 (r := some (.int z4231)) rfl (pm_ret_i _) ?_
                  show pm_R _ 232 159 [.ref 41, .int a0, .long y2_4017, pm_no, .int z10, .int z16, .int x6_2687, .int x7_4017, .long r4119, pm_no, .long z4116, pm_no, pm_no] [.int z4231, .ref 41] _ _
                  refine pm_R_lo pm_M232 (pc_q := 161) (pm_q232_1 (Nat.le_of_ble_eq_true rfl)) rfl rfl ?_
                  refine pm_R_op pm_M232 (pc_q := 162) (st_q := [.int 1, .int x6_2687, .int z4231, .ref 41]) (pm_q232_1 (Nat.le_of_ble_eq_true rfl)) rfl rfl ?_
                  refine sf_R_iaddV pm_M232 (pc_q := 163) (pm_q232_1 (Nat.le_of_ble_eq_true rfl)) rfl B2689 sf_k1 (by decide) (by decide) e4102 ?_
                  refine pm_R_lo pm_M232 (pc_q := 165) (pm_q232_1 (Nat.le_of_ble_eq_true rfl)) rfl rfl ?_
                  refine pm_R_lo pm_M232 (pc_q := 166) (pm_q232_1 (Nat.le_of_ble_eq_true rfl)) rfl rfl ?_
                  refine pm_R_lo pm_M232 (pc_q := 168) (pm_q232_1 (Nat.le_of_ble_eq_true rfl)) rfl rfl ?_
                  have k4236 := rf_nz k4140 By2_4017 (by decide) X4127 ez4117 ez4117 (sf_aux28 _ _ _ _ _ _ _ _ e4105 e4102 e4108 e4111 e4114)
                  have B4237 : lf_B 1 1000000000000 z4116 := lf_nz B4118 (by decide) k4236
                  refine sf_R_lrem pm_M232 (pc_q := 169) (pm_q232_1 (Nat.le_of_ble_eq_true rfl)) rfl By2_4017 B4237 (by decide) (by decide) (fun z4235 e4238 B4239 => ?_)
                  refine pm_R_cv pm_M232 (pc_q := 172) (a := 41) (ra := [.long z4235, .int z16, .int z4101, .int z4231]) (rest := []) (ls_q := [.ref 41, .int z4231, .int z4101, .int z16, .long z4235, pm_no]) (pm_q232_1 (Nat.le_of_ble_eq_true rfl)) rfl (Or.inl rfl) pm_M230 T4213.2.1 rfl (by decide) (Nat.lt_of_lt_of_le (by decide) T4213.1) rfl rfl (Nat.le_of_ble_eq_true rfl) rfl rfl ?_
                  refine pm_R_lo pm_M230 (pc_q := 1) rfl rfl rfl ?_
                  refine rf_R_get pm_M230 T4213 (pc_q := 4) (v := .ref 57) rfl rfl rfl rfl ?_
                  refine pm_R_lo pm_M230 (pc_q := 5) rfl rfl rfl ?_
                  refine rf_R_get pm_M230 T4213 (pc_q := 8) (v := .int (m4200 31)) rfl rfl rfl rfl ?_
                  refine pm_R_lo pm_M230 (pc_q := 9) rfl rfl rfl ?_
                  have e4240 := (F4214.cell (by decide) (F4199.cell (by decide) (F4191.cell (by decide) (F4185.cell (by decide) (F4179.cell (by decide) e4174)))))
                  refine rf_R_ist pm_M230 T4213 (pc_q := 10) rfl e4240 (by decide) (by decide) (sf_in B4203 (by decide) (by decide)) ⟨_, rfl, sf_upd (sf_upd b4053 B4075 _) B4234 _⟩ rfl (fun h4241 T4242 F4243 e4244 => ?_)
                  have F4245 := F4216.trans F4243 (by decide)
                  refine pm_R_lo pm_M230 (pc_q := 11) rfl rfl rfl ?_
                  refine rf_R_get pm_M230 T4242 (pc_q := 14) (v := .ref 58) rfl rfl rfl rfl ?_
                  refine pm_R_lo pm_M230 (pc_q := 15) rfl rfl rfl ?_
                  refine rf_R_get pm_M230 T4242 (pc_q := 18) (v := .int (m4200 31)) rfl rfl rfl rfl ?_
                  refine pm_R_lo pm_M230 (pc_q := 19) rfl rfl rfl ?_
                  have e4246 := (F4243.cell (by decide) (F4214.cell (by decide) (F4199.cell (by decide) (F4191.cell (by decide) (F4185.cell (by decide) e4180)))))
                  refine rf_R_ist pm_M230 T4242 (pc_q := 20) rfl e4246 (by decide) (by decide) (sf_in B4203 (by decide) (by decide)) ⟨_, rfl, sf_upd (sf_upd b9 (sf_weak B2690 (by decide) (by decide)) _) (sf_weak B4103 (by decide) (by decide)) _⟩ rfl (fun h4247 T4248 F4249 e4250 => ?_)
                  have F4251 := F4245.trans F4249 (by decide)
                  refine pm_R_lo pm_M230 (pc_q := 21) rfl rfl rfl ?_
                  refine rf_R_get pm_M230 T4248 (pc_q := 24) (v := .ref 59) rfl rfl rfl rfl ?_
                  refine pm_R_lo pm_M230 (pc_q := 25) rfl rfl rfl ?_
                  refine rf_R_get pm_M230 T4248 (pc_q := 28) (v := .int (m4200 31)) rfl rfl rfl rfl ?_
                  refine pm_R_lo pm_M230 (pc_q := 29) rfl rfl rfl ?_
                  have e4252 := (F4249.cell (by decide) (F4243.cell (by decide) (F4214.cell (by decide) (F4199.cell (by decide) (F4191.cell (by decide) e4186)))))
                  refine rf_R_ist pm_M230 T4248 (pc_q := 30) rfl e4252 (by decide) (by decide) (sf_in B4203 (by decide) (by decide)) ⟨_, rfl, sf_upd (sf_upd b15 (sf_weak B2689 (by decide) (by decide)) _) (sf_weak B2691 (by decide) (by decide)) _⟩ rfl (fun h4253 T4254 F4255 e4256 => ?_)
                  have F4257 := F4251.trans F4255 (by decide)
                  refine pm_R_lo pm_M230 (pc_q := 31) rfl rfl rfl ?_
                  refine rf_R_get pm_M230 T4254 (pc_q := 34) (v := .ref 60) rfl rfl rfl rfl ?_
                  refine pm_R_lo pm_M230 (pc_q := 35) rfl rfl rfl ?_
                  refine rf_R_get pm_M230 T4254 (pc_q := 38) (v := .int (m4200 31)) rfl rfl rfl rfl ?_
                  refine pm_R_lo pm_M230 (pc_q := 40) rfl rfl rfl ?_
                  have e4258 := (F4255.cell (by decide) (F4249.cell (by decide) (F4243.cell (by decide) (F4214.cell (by decide) (F4199.cell (by decide) e4192)))))
                  refine rf_R_lst pm_M230 T4254 (pc_q := 41) rfl e4258 (by decide) (by decide) (sf_in B4203 (by decide) (by decide)) ⟨_, rfl, lf_upd (lf_upd b3 B4169 _) (lf_weak B4239 (by decide) (by decide)) _⟩ rfl (fun h4259 T4260 F4261 e4262 => ?_)
                  have F4263 := F4257.trans F4261 (by decide)
                  refine pm_R_lo pm_M230 (pc_q := 42) rfl rfl rfl ?_
                  refine pm_R_op pm_M230 (pc_q := 43) (st_q := [.ref 41, .ref 41]) rfl rfl rfl ?_
                  refine rf_R_get pm_M230 T4260 (pc_q := 46) (v := .int (m4200 31)) rfl rfl rfl rfl ?_
                  refine pm_R_op pm_M230 (pc_q := 47) (st_q := [.int 1, .int (m4200 31), .ref 41]) rfl rfl rfl ?_
                  refine sf_R_iadd pm_M230 (pc_q := 48) rfl rfl B4203 sf_k1 (by decide) (by decide) (fun z4264 e4265 B4266 => ?_)
                  refine rf_R_put pm_M230 T4260 (pc_q := 51) rfl rfl rfl (by decide) rfl rfl (sf_weak B4266 (by decide) (by decide)) rfl rfl (fun h4267 m4270 em4271 T4268 F4269 => ?_)
                  have F4272 := F4263.trans F4269 (by decide)
                  have B4273 : sf_B 2 23 (m4270 31) := by rw [em4271]; exact B4266
                  have ek4274 : (m4270 31).toInt = (z4264).toInt := by rw [em4271]; rfl
                  have W4275 : rf_W [31] m m4270 := by rw [em4271]; exact W4205.put (by decide)
                  refine pm_R_lo pm_M230 (pc_q := 52) rfl rfl rfl ?_
                  refine rf_R_get pm_M230 T4268 (pc_q := 55) (v := .int (m4270 31)) rfl rfl rfl rfl ?_
                  refine pm_R_op pm_M230 (pc_q := 56) (st_q := [.int 1, .int (m4270 31)]) rfl rfl rfl ?_
                  refine sf_R_isub pm_M230 (pc_q := 57) rfl rfl B4273 sf_k1 (by decide) (by decide) (fun z4276 e4277 B4278 => ?_)
                  refine pm_R_ret pm_M230 (r := some (.int z4276)) rfl (pm_ret_i _) ?_
                  show pm_R _ 232 172 [.ref 41, .int a0, .long y2_4017, pm_no, .int z10, .int z16, .int x6_2687, .int x7_4017, .long r4119, pm_no, .long z4116, pm_no, pm_no] [.int z4276] _ _
                  refine pm_R_lo pm_M232 (pc_q := 174) (ls_q := [.ref 41, .int a0, .long y2_4017, pm_no, .int z10, .int z16, .int x6_2687, .int x7_4017, .long r4119, pm_no, .long z4116, pm_no, .int z4276]) (st_q := []) (pm_q232_1 (Nat.le_of_ble_eq_true rfl)) rfl rfl ?_
                  have e4279 := (F4269.cell (by decide) (F4261.cell (by decide) (F4255.cell (by decide) e4250)))
                  have e4280 := (F4269.cell (by decide) (F4261.cell (by decide) e4256))
                  have X4281 : rf_sp h h4267 (m 31) (m4270 31) a0 := by
                    intro f g ef eg
                    rw [e8] at ef
                    rw [e14] at eg
                    cases ef
                    cases eg
                    exact Or.inr ⟨x6_2687, z4101, (m 31), (m4200 31), z10, z16, ez11, ez17, R0_2687, Int32.lt_iff_toInt_lt.mp (Int32.not_le.mp c2688), (sf_aux30 _ _ e4102), (sf_aux31 _ ), (sf_aux32 _ _ _ e4195 ek4204), (sf_aux33 _ _ _ _ _ e4195 ek4204 e4265 ek4274), e4279, e4280⟩
                  exact pm_R_ret pm_M232 (r := none) (pm_q232_1 (Nat.le_of_ble_eq_true rfl)) rfl (K m4270 w h4267 T4268 F4272 W4275 X4281)
        exact L_4017 _ 0 y2_2687 (g8_2687) (g9_2687) (sf_weak sf_k0 (by decide) (by decide)) By2_2687 Cg9_2687 rfl
  exact L_2687 _ z10 z4 (pm_no) (pm_no) (pm_no) B12 B6 rfl rfl (sf_aux34 _ B12.1 B12.2) rfl

theorem sf_aux35 (v0 : Int) (q0 : 0 ≤ v0) (q1 : v0 ≤ 0) : v0 = 0 := by omega
theorem sf_aux36 (v0 v1 v2 : Int) (q0 : v0 = v1 + 1) (q1 : v2 = v0) (q2 : 0 ≤ v1) (q3 : v1 ≤ 0) : v2 = 1 := by omega
set_option maxRecDepth 100000 in
set_option maxHeartbeats 4000000 in
/-- SilentTableModel.findTree -/
theorem rf_c229 {d : Nat} {m : Nat → Int32} {w : Int64} {h : pm_H} {Q : Option Value → pm_H → Prop} {a0 : Int64} (T : rf_T m w h) (Ba0 : lf_B 0 9223372036854775807 a0) (Bf24 : sf_B 1 12 (m 24)) (K : ∀ (m_q : Nat → Int32) (w_q : Int64) (h_q : pm_H), rf_T m_q w_q h_q → rf_G [41, 57, 58, 59, 60, 61, 62, 63, 64, 65] h h_q → rf_W [31] m m_q → Q none h_q) : pm_R (d + 4) 229 0 [.ref 41, .long a0, pm_no, pm_no, pm_no] [] h Q := by
  refine pm_R_lo pm_M229 (pc_q := 1) rfl rfl rfl ?_
  refine pm_R_op pm_M229 (pc_q := 2) (st_q := [.int 0, .ref 41]) rfl rfl rfl ?_
  refine rf_R_put pm_M229 T (pc_q := 5) rfl rfl rfl (by decide) rfl rfl (sf_weak sf_k0 (by decide) (by decide)) rfl rfl (fun h1 m4 em5 T2 F3 => ?_)
  have F6 := (rf_G.refl [41, 57, 58, 59, 60, 61, 62, 63, 64, 65] h).trans F3 (by decide)
  have B7 : sf_B 1 12 (m4 24) := by rw [em5]; exact Bf24
  have B8 : sf_B 0 0 (m4 31) := by rw [em5]; exact sf_k0
  have W10 : rf_W [31] m m4 := by rw [em5]; exact (rf_W.refl [31] m).put (by decide)
  refine pm_R_lo pm_M229 (pc_q := 6) rfl rfl rfl ?_
  refine pm_R_op pm_M229 (pc_q := 7) (st_q := [.int 0, .ref 41]) rfl rfl rfl ?_
  refine pm_R_op pm_M229 (pc_q := 8) (st_q := [.int 0, .int 0, .ref 41]) rfl rfl rfl ?_
  refine pm_R_lo pm_M229 (pc_q := 9) rfl rfl rfl ?_
  refine rf_R_get pm_M229 T2 (pc_q := 12) (v := .int (m4 24)) rfl rfl rfl rfl ?_
  refine pm_R_op pm_M229 (pc_q := 13) (st_q := [.int 1, .int (m4 24), .int 0, .int 0, .ref 41]) rfl rfl rfl ?_
  refine sf_R_isub pm_M229 (pc_q := 14) rfl rfl B7 sf_k1 (by decide) (by decide) (fun z11 e12 B13 => ?_)
  refine pm_R_lo pm_M229 (pc_q := 15) rfl rfl rfl ?_
  refine pm_R_cv pm_M229 (pc_q := 18) (a := 41) (ra := [.long a0, .int z11, .int 0, .int 0]) (rest := []) (ls_q := [.ref 41, .int 0, .int 0, .int z11, .long a0, pm_no]) rfl rfl (Or.inl rfl) pm_M230 T2.2.1 rfl (by decide) (Nat.lt_of_lt_of_le (by decide) T2.1) rfl rfl (Nat.le_of_ble_eq_true rfl) rfl rfl ?_
  refine pm_R_lo pm_M230 (pc_q := 1) rfl rfl rfl ?_
  refine rf_R_get pm_M230 T2 (pc_q := 4) (v := .ref 57) rfl rfl rfl rfl ?_
  refine pm_R_lo pm_M230 (pc_q := 5) rfl rfl rfl ?_
  refine rf_R_get pm_M230 T2 (pc_q := 8) (v := .int (m4 31)) rfl rfl rfl rfl ?_
  refine pm_R_lo pm_M230 (pc_q := 9) rfl rfl rfl ?_
  obtain ⟨f14, e15, b16⟩ := T2.2.2.2.1 57 (by decide) (by decide)
  refine rf_R_ist pm_M230 T2 (pc_q := 10) rfl e15 (by decide) (by decide) (sf_in B8 (by decide) (by decide)) ⟨_, rfl, sf_upd b16 (sf_weak sf_k0 (by decide) (by decide)) _⟩ rfl (fun h17 T18 F19 e20 => ?_)
  have F21 := F6.trans F19 (by decide)
  refine pm_R_lo pm_M230 (pc_q := 11) rfl rfl rfl ?_
  refine rf_R_get pm_M230 T18 (pc_q := 14) (v := .ref 58) rfl rfl rfl rfl ?_
  refine pm_R_lo pm_M230 (pc_q := 15) rfl rfl rfl ?_
  refine rf_R_get pm_M230 T18 (pc_q := 18) (v := .int (m4 31)) rfl rfl rfl rfl ?_
  refine pm_R_lo pm_M230 (pc_q := 19) rfl rfl rfl ?_
  obtain ⟨f22, e23, b24⟩ := T18.2.2.2.1 58 (by decide) (by decide)
  refine rf_R_ist pm_M230 T18 (pc_q := 20) rfl e23 (by decide) (by decide) (sf_in B8 (by decide) (by decide)) ⟨_, rfl, sf_upd b24 (sf_weak sf_k0 (by decide) (by decide)) _⟩ rfl (fun h25 T26 F27 e28 => ?_)
  have F29 := F21.trans F27 (by decide)
  refine pm_R_lo pm_M230 (pc_q := 21) rfl rfl rfl ?_
  refine rf_R_get pm_M230 T26 (pc_q := 24) (v := .ref 59) rfl rfl rfl rfl ?_
  refine pm_R_lo pm_M230 (pc_q := 25) rfl rfl rfl ?_
  refine rf_R_get pm_M230 T26 (pc_q := 28) (v := .int (m4 31)) rfl rfl rfl rfl ?_
  refine pm_R_lo pm_M230 (pc_q := 29) rfl rfl rfl ?_
  obtain ⟨f30, e31, b32⟩ := T26.2.2.2.1 59 (by decide) (by decide)
  refine rf_R_ist pm_M230 T26 (pc_q := 30) rfl e31 (by decide) (by decide) (sf_in B8 (by decide) (by decide)) ⟨_, rfl, sf_upd b32 B13 _⟩ rfl (fun h33 T34 F35 e36 => ?_)
  have F37 := F29.trans F35 (by decide)
  refine pm_R_lo pm_M230 (pc_q := 31) rfl rfl rfl ?_
  refine rf_R_get pm_M230 T34 (pc_q := 34) (v := .ref 60) rfl rfl rfl rfl ?_
  refine pm_R_lo pm_M230 (pc_q := 35) rfl rfl rfl ?_
  refine rf_R_get pm_M230 T34 (pc_q := 38) (v := .int (m4 31)) rfl rfl rfl rfl ?_
  refine pm_R_lo pm_M230 (pc_q := 40) rfl rfl rfl ?_
  obtain ⟨f38, e39, b40⟩ := T34.2.2.2.1 60 (by decide) (by decide)
  refine rf_R_lst pm_M230 T34 (pc_q := 41) rfl e39 (by decide) (by decide) (sf_in B8 (by decide) (by decide)) ⟨_, rfl, lf_upd b40 Ba0 _⟩ rfl (fun h41 T42 F43 e44 => ?_)
  have F45 := F37.trans F43 (by decide)
  refine pm_R_lo pm_M230 (pc_q := 42) rfl rfl rfl ?_
  refine pm_R_op pm_M230 (pc_q := 43) (st_q := [.ref 41, .ref 41]) rfl rfl rfl ?_
  refine rf_R_get pm_M230 T42 (pc_q := 46) (v := .int (m4 31)) rfl rfl rfl rfl ?_
  refine pm_R_op pm_M230 (pc_q := 47) (st_q := [.int 1, .int (m4 31), .ref 41]) rfl rfl rfl ?_
  refine sf_R_iadd pm_M230 (pc_q := 48) rfl rfl B8 sf_k1 (by decide) (by decide) (fun z46 e47 B48 => ?_)
  refine rf_R_put pm_M230 T42 (pc_q := 51) rfl rfl rfl (by decide) rfl rfl (sf_weak B48 (by decide) (by decide)) rfl rfl (fun h49 m52 em53 T50 F51 => ?_)
  have F54 := F45.trans F51 (by decide)
  have B55 : sf_B 1 12 (m52 24) := by rw [em53]; exact B7
  have B56 : sf_B 1 1 (m52 31) := by rw [em53]; exact B48
  have ek57 : (m52 31).toInt = (z46).toInt := by rw [em53]; rfl
  have W58 : rf_W [31] m m52 := by rw [em53]; exact W10.put (by decide)
  refine pm_R_lo pm_M230 (pc_q := 52) rfl rfl rfl ?_
  refine rf_R_get pm_M230 T50 (pc_q := 55) (v := .int (m52 31)) rfl rfl rfl rfl ?_
  refine pm_R_op pm_M230 (pc_q := 56) (st_q := [.int 1, .int (m52 31)]) rfl rfl rfl ?_
  refine sf_R_isub pm_M230 (pc_q := 57) rfl rfl B56 sf_k1 (by decide) (by decide) (fun z59 e60 B61 => ?_)
  refine pm_R_ret pm_M230 (r := some (.int z59)) rfl (pm_ret_i _) ?_
  show pm_R _ 229 18 [.ref 41, .long a0, pm_no, pm_no, pm_no] [.int z59] _ _
  refine pm_R_lo pm_M229 (pc_q := 19) (ls_q := [.ref 41, .long a0, pm_no, .int z59, pm_no]) (st_q := []) rfl rfl rfl ?_
  refine pm_R_op pm_M229 (pc_q := 20) (st_q := [.int 0]) rfl rfl rfl ?_
  refine pm_R_lo pm_M229 (pc_q := 22) (ls_q := [.ref 41, .long a0, pm_no, .int z59, .int 0]) (st_q := []) rfl rfl rfl ?_
  have L_1410 : ∀ (N : Nat) (h_1410 : pm_H) (m_1410 : Nat → Int32) (w_1410 : Int64) (x4_1410 : Int32), rf_T m_1410 w_1410 h_1410 → rf_G [41, 57, 58, 59, 60, 61, 62, 63, 64, 65] h h_1410 → rf_W [31] m52 m_1410 → sf_B 0 23 x4_1410 → rf_phi h_1410 (m_1410 31) x4_1410 → (23 - x4_1410.toInt).toNat = N → pm_R (d + 4) 229 22 [.ref 41, .long a0, pm_no, .int z59, .int x4_1410] [] h_1410 Q := by
    intro N
    induction N using Nat.strongRecOn with
    | ind N ih_1410 =>
      intro h_1410 m_1410 w_1410 x4_1410 T_1410 F_1410 W_1410 Bx4_1410 X_1410 hN_1410
      have B1413 : sf_B 1 12 (m_1410 24) := by rw [W_1410 24 (by decide)]; exact B55
      have W1414 : rf_W [31] m m_1410 := W58.trans W_1410 (by decide)
      have BX_1410 : sf_B 0 23 (m_1410 31) := rf_phi_B X_1410
      refine pm_R_lo pm_M229 (pc_q := 24) rfl rfl rfl ?_
      refine pm_R_lo pm_M229 (pc_q := 25) rfl rfl rfl ?_
      refine rf_R_get pm_M229 T_1410 (pc_q := 28) (v := .int (m_1410 31)) rfl rfl rfl rfl ?_
      refine pm_R_icmp pm_M229 (t := 69) (pc_q := 31) rfl rfl rfl (fun c1415 => ?_) (fun c1415 => ?_)
      · skip
        refine pm_R_lo pm_M229 (pc_q := 70) rfl rfl rfl ?_
        refine rf_R_get pm_M229 T_1410 (pc_q := 73) (v := .int (m_1410 31)) rfl rfl rfl rfl ?_
        refine pm_R_op pm_M229 (pc_q := 74) (st_q := [.int 1, .int (m_1410 31)]) rfl rfl rfl ?_
        refine sf_R_isub pm_M229 (pc_q := 75) rfl rfl BX_1410 sf_k1 (by decide) (by decide) (fun z1416 e1417 B1418 => ?_)
        refine pm_R_lo pm_M229 (pc_q := 77) (ls_q := [.ref 41, .long a0, pm_no, .int z59, .int z1416]) (st_q := []) rfl rfl rfl ?_
        have L_1689 : ∀ (N : Nat) (h_1689 : pm_H) (m_1689 : Nat → Int32) (w_1689 : Int64) (x4_1689 : Int32), rf_T m_1689 w_1689 h_1689 → rf_G [41, 57, 58, 59, 60, 61, 62, 63, 64, 65] h h_1689 → rf_W [] m_1410 m_1689 → sf_B (-1) 22 x4_1689 → (x4_1689.toInt - (-1)).toNat = N → pm_R (d + 4) 229 77 [.ref 41, .long a0, pm_no, .int z59, .int x4_1689] [] h_1689 Q := by
          intro N
          induction N using Nat.strongRecOn with
          | ind N ih_1689 =>
            intro h_1689 m_1689 w_1689 x4_1689 T_1689 F_1689 W_1689 Bx4_1689 hN_1689
            have B1692 : sf_B 1 12 (m_1689 24) := by rw [W_1689 24 (by decide)]; exact B1413
            have B1693 : sf_B 0 23 (m_1689 31) := by rw [W_1689 31 (by decide)]; exact BX_1410
            have W1694 : rf_W [31] m m_1689 := W1414.trans W_1689 (by decide)
            have W1695 : rf_W [31] m52 m_1689 := W_1410.trans W_1689 (by decide)
            refine pm_R_lo pm_M229 (pc_q := 79) rfl rfl rfl ?_
            refine pm_R_ifc pm_M229 (t := 147) (pc_q := 82) rfl rfl rfl (fun c1696 => ?_) (fun c1696 => ?_)
            · have B1697 : sf_B (-1) (-1) x4_1689 := sf_ltL c1696 Bx4_1689 sf_k0
              exact pm_R_ret pm_M229 (r := none) (pm_q229_1 (Nat.le_of_ble_eq_true rfl)) rfl (K m_1689 w_1689 h_1689 T_1689 F_1689 W1694)
            · have B1698 : sf_B 0 22 x4_1689 := sf_leR (Int32.not_lt.mp c1696) sf_k0 Bx4_1689
              refine pm_R_lo pm_M229 (pc_q := 83) rfl rfl rfl ?_
              refine rf_R_get pm_M229 T_1689 (pc_q := 86) (v := .ref 61) rfl rfl rfl rfl ?_
              refine pm_R_lo pm_M229 (pc_q := 88) rfl rfl rfl ?_
              obtain ⟨f1699, e1700, b1701⟩ := T_1689.2.2.2.1 61 (by decide) (by decide)
              refine rf_R_ild pm_M229 T_1689 (pc_q := 89) rfl e1700 (by decide) (sf_in B1698 (by decide) (by decide)) rfl (fun z1702 ez1703 => ?_)
              have B1704 : sf_B (-1) 9 z1702 := ez1703 ▸ b1701 _
              refine pm_R_op pm_M229 (pc_q := 90) (st_q := [.int (-1), .int z1702]) rfl rfl rfl ?_
              refine pm_R_icmp pm_M229 (t := 141) (pc_q := 93) rfl rfl rfl (fun c1705 => ?_) (fun c1705 => ?_)
              · have B1706 : sf_B (-1) (-1) z1702 := sf_eqL c1705 sf_kn1
                refine sf_R_iinc pm_M229 (pc_q := 144) (ls_q := fun z => [.ref 41, .long a0, pm_no, .int z59, .int z]) (pm_q229_1 (Nat.le_of_ble_eq_true rfl)) B1698 rfl (by decide) (by decide) (by decide) (fun _ => rfl) rfl (fun z1707 e1708 B1709 => ?_)
                show pm_R _ 229 144 [.ref 41, .long a0, pm_no, .int z59, .int z1707] [] _ _
                refine pm_R_br pm_M229 (pc_q := 77) (pm_q229_1 (Nat.le_of_ble_eq_true rfl)) rfl ?_
                exact ih_1689 _ (sf_dn hN_1689 e1708 B1698 (by decide) (by decide)) h_1689 m_1689 w_1689 z1707 T_1689 F_1689 W_1689 (sf_weak B1709 (by decide) (by decide)) rfl
              · have B1710 : sf_B 0 9 z1702 := sf_neL0 c1705 sf_kn1 B1704
                refine pm_R_lo pm_M229 (pc_q := 94) rfl rfl rfl ?_
                refine rf_R_get pm_M229 T_1689 (pc_q := 97) (v := .ref 64) rfl rfl rfl rfl ?_
                refine pm_R_lo pm_M229 (pc_q := 99) rfl rfl rfl ?_
                refine pm_R_lo pm_M229 (pc_q := 100) rfl rfl rfl ?_
                refine pm_R_lo pm_M229 (pc_q := 101) rfl rfl rfl ?_
                refine rf_R_get pm_M229 T_1689 (pc_q := 104) (v := .ref 61) rfl rfl rfl rfl ?_
                refine pm_R_lo pm_M229 (pc_q := 106) rfl rfl rfl ?_
                refine pm_R_iald pm_M229 (pc_q := 107) (v := z1702) rfl e1700 (Nat.lt_of_lt_of_le (by decide) T_1689.1) (sf_in B1698 (by decide) (by decide)) ez1703 rfl ?_
                refine pm_R_op pm_M229 (pc_q := 108) (st_q := [.int 3, .int z1702, .ref 41, .int x4_1689, .ref 64]) rfl rfl rfl ?_
                refine pm_R_cv pm_M229 (pc_q := 111) (a := 41) (ra := [.int 3, .int z1702]) (rest := [.int x4_1689, .ref 64]) (ls_q := [.ref 41, .int z1702, .int 3]) rfl rfl (Or.inl rfl) pm_M210 T_1689.2.1 rfl (by decide) (Nat.lt_of_lt_of_le (by decide) T_1689.1) rfl rfl (Nat.le_of_ble_eq_true rfl) rfl rfl ?_
                refine pm_R_lo pm_M210 (pc_q := 1) rfl rfl rfl ?_
                refine rf_R_get pm_M210 T_1689 (pc_q := 4) (v := .ref 47) rfl rfl rfl rfl ?_
                refine pm_R_op pm_M210 (pc_q := 6) (st_q := [.int 100, .ref 47]) rfl rfl rfl ?_
                refine pm_R_lo pm_M210 (pc_q := 7) rfl rfl rfl ?_
                have B1713 : sf_B 0 1 (m_1689 23) := T_1689.2.2.1 23
                refine rf_R_get pm_M210 T_1689 (pc_q := 10) (v := .int (m_1689 23)) rfl rfl rfl rfl ?_
                refine sf_R_imul pm_M210 (pc_q := 11) rfl rfl sf_k100 B1713 (by decide) (by decide) (by decide) (fun z1714 e1715 B1716 => ?_)
                refine pm_R_op pm_M210 (pc_q := 12) (st_q := [.int 2, .int z1714, .ref 47]) rfl rfl rfl ?_
                refine sf_R_iadd pm_M210 (pc_q := 13) rfl rfl B1716 sf_k2 (by decide) (by decide) (fun z1717 e1718 B1719 => ?_)
                refine pm_R_op pm_M210 (pc_q := 14) (st_q := [.int 4, .int z1717, .ref 47]) rfl rfl rfl ?_
                refine pm_R_lo pm_M210 (pc_q := 15) rfl rfl rfl ?_
                refine sf_R_imul pm_M210 (pc_q := 16) rfl rfl sf_k4 B1710 (by decide) (by decide) (by decide) (fun z1720 e1721 B1722 => ?_)
                refine sf_R_iadd pm_M210 (pc_q := 17) rfl rfl B1719 B1722 (by decide) (by decide) (fun z1723 e1724 B1725 => ?_)
                refine pm_R_lo pm_M210 (pc_q := 18) rfl rfl rfl ?_
                refine sf_R_iadd pm_M210 (pc_q := 19) rfl rfl B1725 sf_k3 (by decide) (by decide) (fun z1726 e1727 B1728 => ?_)
                obtain ⟨f1729, e1730, b1731⟩ := T_1689.2.2.2.1 47 (by decide) (by decide)
                refine rf_R_ild pm_M210 T_1689 (pc_q := 20) rfl e1730 (by decide) (sf_in B1728 (by decide) (by decide)) rfl (fun z1732 ez1733 => ?_)
                have e1734 : (z1726).toInt = 100 * ((m_1689 23)).toInt + 4 * (z1702).toInt + 5 := (sf_aux4 _ _ _ _ _ _ _ e1715 e1718 e1721 e1724 e1727)
                have B1735 : sf_B 0 4 z1732 := ez1733 ▸ rf_p47t b1731 e1734 B1713 B1710 (by decide) (by decide) (by decide)
                refine pm_R_ret pm_M210 (r := some (.int z1732)) rfl (pm_ret_i _) ?_
                show pm_R _ 229 111 [.ref 41, .long a0, pm_no, .int z59, .int x4_1689] [.int z1732, .int x4_1689, .ref 64] _ _
                refine pm_R_lo pm_M229 (pc_q := 112) (pm_q229_1 (Nat.le_of_ble_eq_true rfl)) rfl rfl ?_
                refine rf_R_get pm_M229 T_1689 (pc_q := 115) (v := .ref 64) (pm_q229_1 (Nat.le_of_ble_eq_true rfl)) rfl rfl rfl ?_
                refine pm_R_lo pm_M229 (pc_q := 116) (pm_q229_1 (Nat.le_of_ble_eq_true rfl)) rfl rfl ?_
                refine rf_R_get pm_M229 T_1689 (pc_q := 119) (v := .ref 63) (pm_q229_1 (Nat.le_of_ble_eq_true rfl)) rfl rfl rfl ?_
                refine pm_R_lo pm_M229 (pc_q := 121) (pm_q229_1 (Nat.le_of_ble_eq_true rfl)) rfl rfl ?_
                obtain ⟨f1736, e1737, b1738⟩ := T_1689.2.2.2.1 63 (by decide) (by decide)
                refine rf_R_ild pm_M229 T_1689 (pc_q := 122) (pm_q229_1 (Nat.le_of_ble_eq_true rfl)) e1737 (by decide) (sf_in B1698 (by decide) (by decide)) rfl (fun z1739 ez1740 => ?_)
                have B1741 : sf_B 0 22 z1739 := ez1740 ▸ b1738 _
                obtain ⟨f1742, e1743⟩ := T_1689.2.2.2.1 64 (by decide) (by decide)
                refine rf_R_ild pm_M229 T_1689 (pc_q := 123) (pm_q229_1 (Nat.le_of_ble_eq_true rfl)) e1743 (by decide) (sf_in B1741 (by decide) (by decide)) rfl (fun z1745 ez1746 => ?_)
                refine pm_R_lo pm_M229 (pc_q := 124) (pm_q229_1 (Nat.le_of_ble_eq_true rfl)) rfl rfl ?_
                refine rf_R_get pm_M229 T_1689 (pc_q := 127) (v := .ref 64) (pm_q229_1 (Nat.le_of_ble_eq_true rfl)) rfl rfl rfl ?_
                refine pm_R_lo pm_M229 (pc_q := 128) (pm_q229_1 (Nat.le_of_ble_eq_true rfl)) rfl rfl ?_
                refine rf_R_get pm_M229 T_1689 (pc_q := 131) (v := .ref 63) (pm_q229_1 (Nat.le_of_ble_eq_true rfl)) rfl rfl rfl ?_
                refine pm_R_lo pm_M229 (pc_q := 133) (pm_q229_1 (Nat.le_of_ble_eq_true rfl)) rfl rfl ?_
                refine pm_R_iald pm_M229 (pc_q := 134) (v := z1739) (pm_q229_1 (Nat.le_of_ble_eq_true rfl)) e1737 (Nat.lt_of_lt_of_le (by decide) T_1689.1) (sf_in B1698 (by decide) (by decide)) ez1740 rfl ?_
                refine pm_R_op pm_M229 (pc_q := 135) (st_q := [.int 1, .int z1739, .ref 64, .int z1745, .int z1732, .int x4_1689, .ref 64]) (pm_q229_1 (Nat.le_of_ble_eq_true rfl)) rfl rfl ?_
                refine sf_R_iadd pm_M229 (pc_q := 136) (pm_q229_1 (Nat.le_of_ble_eq_true rfl)) rfl B1741 sf_k1 (by decide) (by decide) (fun z1749 e1750 B1751 => ?_)
                refine rf_R_ild pm_M229 T_1689 (pc_q := 137) (pm_q229_1 (Nat.le_of_ble_eq_true rfl)) e1743 (by decide) (sf_in B1751 (by decide) (by decide)) rfl (fun z1752 ez1753 => ?_)
                refine pm_R_cs pm_M229 (pc_q := 140) (ra := [.int z1752, .int z1745, .int z1732]) (rest := [.int x4_1689, .ref 64]) (ls_q := [.int z1732, .int z1745, .int z1752]) (pm_q229_1 (Nat.le_of_ble_eq_true rfl)) rfl (Or.inl rfl) pm_M227 rfl rfl (Nat.le_of_ble_eq_true rfl) rfl rfl ?_
                refine pm_R_lo pm_M227 (pc_q := 1) rfl rfl rfl ?_
                refine pm_R_ifc pm_M227 (t := 8) (pc_q := 4) rfl rfl rfl (fun c1754 => ?_) (fun c1754 => ?_)
                · have B1755 : sf_B 1 4 z1732 := sf_neL0 c1754 sf_k0 B1735
                  refine pm_R_lo pm_M227 (pc_q := 9) rfl rfl rfl ?_
                  refine pm_R_op pm_M227 (pc_q := 10) (st_q := [.int 1, .int z1732]) rfl rfl rfl ?_
                  refine pm_R_icmp pm_M227 (t := 17) (pc_q := 13) rfl rfl rfl (fun c1756 => ?_) (fun c1756 => ?_)
                  · have B1757 : sf_B 2 4 z1732 := sf_neL0 c1756 sf_k1 B1755
                    refine pm_R_lo pm_M227 (pc_q := 18) rfl rfl rfl ?_
                    refine pm_R_op pm_M227 (pc_q := 19) (st_q := [.int 2, .int z1732]) rfl rfl rfl ?_
                    refine pm_R_icmp pm_M227 (t := 31) (pc_q := 22) rfl rfl rfl (fun c1758 => ?_) (fun c1758 => ?_)
                    · have B1759 : sf_B 3 4 z1732 := sf_neL0 c1758 sf_k2 B1757
                      refine pm_R_lo pm_M227 (pc_q := 32) rfl rfl rfl ?_
                      refine pm_R_op pm_M227 (pc_q := 33) (st_q := [.int 3, .int z1732]) rfl rfl rfl ?_
                      refine pm_R_icmp pm_M227 (t := 48) (pc_q := 36) rfl rfl rfl (fun c1760 => ?_) (fun c1760 => ?_)
                      · have B1761 : sf_B 4 4 z1732 := sf_neL0 c1760 sf_k3 B1759
                        refine pm_R_op pm_M227 (pc_q := 50) (st_q := [.int 49]) rfl rfl rfl ?_
                        refine pm_R_lo pm_M227 (pc_q := 51) rfl rfl rfl ?_
                        refine sf_R_iany pm_M227 (pc_q := 52) (st := []) rfl rfl rfl (fun z1765 => ?_)
                        refine pm_R_ret pm_M227 (r := some (.int z1765)) rfl (pm_ret_i _) ?_
                        show pm_R _ 229 140 [.ref 41, .long a0, pm_no, .int z59, .int x4_1689] [.int z1765, .int x4_1689, .ref 64] _ _
                        refine rf_R_ist pm_M229 T_1689 (pc_q := 141) (pm_q229_1 (Nat.le_of_ble_eq_true rfl)) e1743 (by decide) (by decide) (sf_in B1698 (by decide) (by decide)) ⟨_, rfl⟩ rfl (fun h1766 T1767 F1768 e1769 => ?_)
                        have F1770 := F_1689.trans F1768 (by decide)
                        refine sf_R_iinc pm_M229 (pc_q := 144) (ls_q := fun z => [.ref 41, .long a0, pm_no, .int z59, .int z]) (pm_q229_1 (Nat.le_of_ble_eq_true rfl)) B1698 rfl (by decide) (by decide) (by decide) (fun _ => rfl) rfl (fun z1771 e1772 B1773 => ?_)
                        show pm_R _ 229 144 [.ref 41, .long a0, pm_no, .int z59, .int z1771] [] _ _
                        refine pm_R_br pm_M229 (pc_q := 77) (pm_q229_1 (Nat.le_of_ble_eq_true rfl)) rfl ?_
                        exact ih_1689 _ (sf_dn hN_1689 e1772 B1698 (by decide) (by decide)) h1766 m_1689 w_1689 z1771 T1767 F1770 W_1689 (sf_weak B1773 (by decide) (by decide)) rfl
                      · have B1774 : sf_B 3 3 z1732 := sf_eqL (Classical.not_not.mp c1760) sf_k3
                        refine pm_R_lo pm_M227 (pc_q := 37) rfl rfl rfl ?_
                        refine pm_R_lo pm_M227 (pc_q := 38) rfl rfl rfl ?_
                        refine sf_R_iany pm_M227 (pc_q := 39) (st := []) rfl rfl rfl (fun z1778 => ?_)
                        refine pm_R_op pm_M227 (pc_q := 41) (st_q := [.int 50, .int z1778]) rfl rfl rfl ?_
                        refine sf_R_iany pm_M227 (pc_q := 42) (st := []) rfl rfl rfl (fun z1782 => ?_)
                        refine pm_R_op pm_M227 (pc_q := 44) (st_q := [.int 50, .int z1782]) rfl rfl rfl ?_
                        refine sf_R_iremA pm_M227 (pc_q := 45) rfl rfl (sf_neq1 sf_k50 sf_k0 (by decide)) (fun z1783 => ?_)
                        refine pm_R_br pm_M227 (pc_q := 52) rfl rfl ?_
                        refine pm_R_ret pm_M227 (r := some (.int z1783)) rfl (pm_ret_i _) ?_
                        show pm_R _ 229 140 [.ref 41, .long a0, pm_no, .int z59, .int x4_1689] [.int z1783, .int x4_1689, .ref 64] _ _
                        refine rf_R_ist pm_M229 T_1689 (pc_q := 141) (pm_q229_1 (Nat.le_of_ble_eq_true rfl)) e1743 (by decide) (by decide) (sf_in B1698 (by decide) (by decide)) ⟨_, rfl⟩ rfl (fun h1786 T1787 F1788 e1789 => ?_)
                        have F1790 := F_1689.trans F1788 (by decide)
                        refine sf_R_iinc pm_M229 (pc_q := 144) (ls_q := fun z => [.ref 41, .long a0, pm_no, .int z59, .int z]) (pm_q229_1 (Nat.le_of_ble_eq_true rfl)) B1698 rfl (by decide) (by decide) (by decide) (fun _ => rfl) rfl (fun z1791 e1792 B1793 => ?_)
                        show pm_R _ 229 144 [.ref 41, .long a0, pm_no, .int z59, .int z1791] [] _ _
                        refine pm_R_br pm_M229 (pc_q := 77) (pm_q229_1 (Nat.le_of_ble_eq_true rfl)) rfl ?_
                        exact ih_1689 _ (sf_dn hN_1689 e1792 B1698 (by decide) (by decide)) h1786 m_1689 w_1689 z1791 T1787 F1790 W_1689 (sf_weak B1793 (by decide) (by decide)) rfl
                    · have B1794 : sf_B 2 2 z1732 := sf_eqL (Classical.not_not.mp c1758) sf_k2
                      refine pm_R_lo pm_M227 (pc_q := 23) rfl rfl rfl ?_
                      refine pm_R_lo pm_M227 (pc_q := 24) rfl rfl rfl ?_
                      refine sf_R_iany pm_M227 (pc_q := 25) (st := []) rfl rfl rfl (fun z1798 => ?_)
                      refine pm_R_op pm_M227 (pc_q := 27) (st_q := [.int 50, .int z1798]) rfl rfl rfl ?_
                      refine sf_R_iremA pm_M227 (pc_q := 28) rfl rfl (sf_neq1 sf_k50 sf_k0 (by decide)) (fun z1799 => ?_)
                      refine pm_R_br pm_M227 (pc_q := 52) rfl rfl ?_
                      refine pm_R_ret pm_M227 (r := some (.int z1799)) rfl (pm_ret_i _) ?_
                      show pm_R _ 229 140 [.ref 41, .long a0, pm_no, .int z59, .int x4_1689] [.int z1799, .int x4_1689, .ref 64] _ _
                      refine rf_R_ist pm_M229 T_1689 (pc_q := 141) (pm_q229_1 (Nat.le_of_ble_eq_true rfl)) e1743 (by decide) (by decide) (sf_in B1698 (by decide) (by decide)) ⟨_, rfl⟩ rfl (fun h1802 T1803 F1804 e1805 => ?_)
                      have F1806 := F_1689.trans F1804 (by decide)
                      refine sf_R_iinc pm_M229 (pc_q := 144) (ls_q := fun z => [.ref 41, .long a0, pm_no, .int z59, .int z]) (pm_q229_1 (Nat.le_of_ble_eq_true rfl)) B1698 rfl (by decide) (by decide) (by decide) (fun _ => rfl) rfl (fun z1807 e1808 B1809 => ?_)
                      show pm_R _ 229 144 [.ref 41, .long a0, pm_no, .int z59, .int z1807] [] _ _
                      refine pm_R_br pm_M229 (pc_q := 77) (pm_q229_1 (Nat.le_of_ble_eq_true rfl)) rfl ?_
                      exact ih_1689 _ (sf_dn hN_1689 e1808 B1698 (by decide) (by decide)) h1802 m_1689 w_1689 z1807 T1803 F1806 W_1689 (sf_weak B1809 (by decide) (by decide)) rfl
                  · have B1810 : sf_B 1 1 z1732 := sf_eqL (Classical.not_not.mp c1756) sf_k1
                    refine pm_R_lo pm_M227 (pc_q := 14) rfl rfl rfl ?_
                    refine pm_R_br pm_M227 (pc_q := 52) rfl rfl ?_
                    refine pm_R_ret pm_M227 (r := some (.int z1752)) rfl (pm_ret_i _) ?_
                    show pm_R _ 229 140 [.ref 41, .long a0, pm_no, .int z59, .int x4_1689] [.int z1752, .int x4_1689, .ref 64] _ _
                    refine rf_R_ist pm_M229 T_1689 (pc_q := 141) (pm_q229_1 (Nat.le_of_ble_eq_true rfl)) e1743 (by decide) (by decide) (sf_in B1698 (by decide) (by decide)) ⟨_, rfl⟩ rfl (fun h1811 T1812 F1813 e1814 => ?_)
                    have F1815 := F_1689.trans F1813 (by decide)
                    refine sf_R_iinc pm_M229 (pc_q := 144) (ls_q := fun z => [.ref 41, .long a0, pm_no, .int z59, .int z]) (pm_q229_1 (Nat.le_of_ble_eq_true rfl)) B1698 rfl (by decide) (by decide) (by decide) (fun _ => rfl) rfl (fun z1816 e1817 B1818 => ?_)
                    show pm_R _ 229 144 [.ref 41, .long a0, pm_no, .int z59, .int z1816] [] _ _
                    refine pm_R_br pm_M229 (pc_q := 77) (pm_q229_1 (Nat.le_of_ble_eq_true rfl)) rfl ?_
                    exact ih_1689 _ (sf_dn hN_1689 e1817 B1698 (by decide) (by decide)) h1811 m_1689 w_1689 z1816 T1812 F1815 W_1689 (sf_weak B1818 (by decide) (by decide)) rfl
                · have B1819 : sf_B 0 0 z1732 := sf_eqL (Classical.not_not.mp c1754) sf_k0
                  refine pm_R_lo pm_M227 (pc_q := 5) rfl rfl rfl ?_
                  refine pm_R_br pm_M227 (pc_q := 52) rfl rfl ?_
                  refine pm_R_ret pm_M227 (r := some (.int z1745)) rfl (pm_ret_i _) ?_
                  show pm_R _ 229 140 [.ref 41, .long a0, pm_no, .int z59, .int x4_1689] [.int z1745, .int x4_1689, .ref 64] _ _
                  refine rf_R_ist pm_M229 T_1689 (pc_q := 141) (pm_q229_1 (Nat.le_of_ble_eq_true rfl)) e1743 (by decide) (by decide) (sf_in B1698 (by decide) (by decide)) ⟨_, rfl⟩ rfl (fun h1820 T1821 F1822 e1823 => ?_)
                  have F1824 := F_1689.trans F1822 (by decide)
                  refine sf_R_iinc pm_M229 (pc_q := 144) (ls_q := fun z => [.ref 41, .long a0, pm_no, .int z59, .int z]) (pm_q229_1 (Nat.le_of_ble_eq_true rfl)) B1698 rfl (by decide) (by decide) (by decide) (fun _ => rfl) rfl (fun z1825 e1826 B1827 => ?_)
                  show pm_R _ 229 144 [.ref 41, .long a0, pm_no, .int z59, .int z1825] [] _ _
                  refine pm_R_br pm_M229 (pc_q := 77) (pm_q229_1 (Nat.le_of_ble_eq_true rfl)) rfl ?_
                  exact ih_1689 _ (sf_dn hN_1689 e1826 B1698 (by decide) (by decide)) h1820 m_1689 w_1689 z1825 T1821 F1824 W_1689 (sf_weak B1827 (by decide) (by decide)) rfl
        exact L_1689 _ h_1410 m_1410 w_1410 z1416 T_1410 F_1410 (rf_W.refl _ _) B1418 rfl
      · have B1828 : sf_B 0 22 x4_1410 := sf_ltL (Int32.not_le.mp c1415) Bx4_1410 BX_1410
        have B1829 : sf_B 1 23 (m_1410 31) := sf_ltR (Int32.not_le.mp c1415) Bx4_1410 BX_1410
        refine pm_R_lo pm_M229 (pc_q := 32) rfl rfl rfl ?_
        refine rf_R_get pm_M229 T_1410 (pc_q := 35) (v := .ref 58) rfl rfl rfl rfl ?_
        refine pm_R_lo pm_M229 (pc_q := 37) rfl rfl rfl ?_
        obtain ⟨f1830, e1831, b1832⟩ := T_1410.2.2.2.1 58 (by decide) (by decide)
        refine rf_R_ild pm_M229 T_1410 (pc_q := 38) rfl e1831 (by decide) (sf_in B1828 (by decide) (by decide)) rfl (fun z1833 ez1834 => ?_)
        have B1835 : sf_B 0 11 z1833 := ez1834 ▸ b1832 _
        refine pm_R_lo pm_M229 (pc_q := 39) rfl rfl rfl ?_
        refine rf_R_get pm_M229 T_1410 (pc_q := 42) (v := .ref 59) rfl rfl rfl rfl ?_
        refine pm_R_lo pm_M229 (pc_q := 44) rfl rfl rfl ?_
        obtain ⟨f1836, e1837, b1838⟩ := T_1410.2.2.2.1 59 (by decide) (by decide)
        refine rf_R_ild pm_M229 T_1410 (pc_q := 45) rfl e1837 (by decide) (sf_in B1828 (by decide) (by decide)) rfl (fun z1839 ez1840 => ?_)
        have B1841 : sf_B 0 11 z1839 := ez1840 ▸ b1838 _
        refine pm_R_icmp pm_M229 (t := 57) (pc_q := 48) rfl rfl rfl (fun c1842 => ?_) (fun c1842 => ?_)
        · skip
          refine pm_R_lo pm_M229 (pc_q := 58) rfl rfl rfl ?_
          refine pm_R_lo pm_M229 (pc_q := 60) rfl rfl rfl ?_
          refine pm_R_cv pm_M229 (pc_q := 63) (a := 41) (ra := [.int x4_1410]) (rest := []) (ls_q := [.ref 41, .int x4_1410, pm_no, pm_no, pm_no, pm_no, pm_no, pm_no, pm_no, pm_no, pm_no, pm_no, pm_no]) rfl rfl (Or.inl rfl) pm_M232 T_1410.2.1 rfl (by decide) (Nat.lt_of_lt_of_le (by decide) T_1410.1) rfl rfl (Nat.le_of_ble_eq_true rfl) rfl rfl ?_
          have B1843 : sf_B 0 21 (m_1410 31) := rf_phi_room X_1410 (Int32.not_le.mp c1415) e1831 e1837 ez1834 ez1840 c1842
          refine rf_c232 (d := d + 0) T_1410 B1828 B1843 (fun m1846 w1847 h1848 T1849 F1850 W1851 X1852 => ?_)
          have F1853 := F_1410.trans F1850 (by decide)
          have B1854 : sf_B 1 12 (m1846 24) := by rw [W1851 24 (by decide)]; exact B1413
          have W1855 : rf_W [31] m m1846 := W1414.trans W1851 (by decide)
          have W1856 : rf_W [31] m52 m1846 := W_1410.trans W1851 (by decide)
          show pm_R _ 229 63 [.ref 41, .long a0, pm_no, .int z59, .int x4_1410] [] _ _
          refine sf_R_iinc pm_M229 (pc_q := 66) (ls_q := fun z => [.ref 41, .long a0, pm_no, .int z59, .int z]) rfl B1828 rfl (by decide) (by decide) (by decide) (fun _ => rfl) rfl (fun z1857 e1858 B1859 => ?_)
          show pm_R _ 229 66 [.ref 41, .long a0, pm_no, .int z59, .int z1857] [] _ _
          refine pm_R_br pm_M229 (pc_q := 22) rfl rfl ?_
          exact ih_1410 _ (sf_up hN_1410 e1858 B1828 (by decide) (by decide)) h1848 m1846 w1847 z1857 T1849 F1853 W1856 (sf_weak B1859 (by decide) (by decide)) (rf_phi_split X_1410 (Int32.not_le.mp c1415) X1852 e1858) rfl
        · refine pm_R_lo pm_M229 (pc_q := 49) rfl rfl rfl ?_
          refine pm_R_lo pm_M229 (pc_q := 51) rfl rfl rfl ?_
          refine pm_R_cv pm_M229 (pc_q := 54) (a := 41) (ra := [.int x4_1410]) (rest := []) (ls_q := [.ref 41, .int x4_1410, pm_no, pm_no, pm_no, pm_no]) rfl rfl (Or.inl rfl) pm_M231 T_1410.2.1 rfl (by decide) (Nat.lt_of_lt_of_le (by decide) T_1410.1) rfl rfl (Nat.le_of_ble_eq_true rfl) rfl rfl ?_
          refine rf_c231 (d := d + 1) T_1410 (sf_weak B1828 (by decide) (by decide)) (fun m1862 w1863 h1864 T1865 F1866 W1867 => ?_)
          have F1868 := F_1410.trans F1866 (by decide)
          have B1869 : sf_B 1 12 (m1862 24) := by rw [W1867 24 (by decide)]; exact B1413
          have B1870 : sf_B 1 23 (m1862 31) := by rw [W1867 31 (by decide)]; exact B1829
          have W1871 : rf_W [31] m m1862 := W1414.trans W1867 (by decide)
          have W1872 : rf_W [31] m52 m1862 := W_1410.trans W1867 (by decide)
          show pm_R _ 229 54 [.ref 41, .long a0, pm_no, .int z59, .int x4_1410] [] _ _
          refine pm_R_br pm_M229 (pc_q := 63) rfl rfl ?_
          refine sf_R_iinc pm_M229 (pc_q := 66) (ls_q := fun z => [.ref 41, .long a0, pm_no, .int z59, .int z]) rfl B1828 rfl (by decide) (by decide) (by decide) (fun _ => rfl) rfl (fun z1873 e1874 B1875 => ?_)
          show pm_R _ 229 66 [.ref 41, .long a0, pm_no, .int z59, .int z1873] [] _ _
          refine pm_R_br pm_M229 (pc_q := 22) rfl rfl ?_
          exact ih_1410 _ (sf_up hN_1410 e1874 B1828 (by decide) (by decide)) h1864 m1862 w1863 z1873 T1865 F1868 W1872 (sf_weak B1875 (by decide) (by decide)) (rf_phi_leaf X_1410 (Int32.not_le.mp c1415) F1866 (by decide) (W1867 31 (by decide)) e1874) rfl
  have e1876 := (F51.cell (by decide) (F43.cell (by decide) (F35.cell (by decide) e28)))
  have e1877 := (F51.cell (by decide) (F43.cell (by decide) e36))
  exact L_1410 _ h49 m52 w 0 T50 F54 (rf_W.refl _ _) (sf_weak sf_k0 (by decide) (by decide)) (rf_phi_0 (n := (m52 31)) (j := (m4 31)) (x := 0) (y := z11) e1876 e1877 (sf_aux35 _ B8.1 B8.2) (by decide) B13 (by decide) (sf_aux36 _ _ _ e47 ek57 B8.1 B8.2) (by decide)) rfl

set_option maxRecDepth 100000 in
set_option maxHeartbeats 4000000 in
/-- SilentTableModel.tree -/
theorem rf_c228 {d : Nat} {m : Nat → Int32} {w : Int64} {h : pm_H} {Q : Option Value → pm_H → Prop} {a0 : Int32} {a1 : Int32} {a2 : Int64} {a3 : Int32} (T : rf_T m w h)  (K : ∀ (r : Int32) (m_q : Nat → Int32) (w_q : Int64) (h_q : pm_H), rf_T m_q w_q h_q → rf_G [41, 53, 55, 57, 58, 59, 60, 61, 62, 63, 64, 65] h h_q → rf_W [0, 23, 24, 26, 31] m m_q → Q (some (.int r)) h_q) : pm_R (d + 5) 228 0 [.ref 41, .int a0, .int a1, .long a2, pm_no, .int a3, pm_no] [] h Q := by
  refine pm_R_lo pm_M228 (pc_q := 1) rfl rfl rfl ?_
  refine pm_R_op pm_M228 (pc_q := 2) (st_q := [.int 0, .ref 41]) rfl rfl rfl ?_
  refine rf_R_put pm_M228 T (pc_q := 5) rfl rfl rfl (by decide) rfl rfl sf_k0 rfl rfl (fun h1 m4 em5 T2 F3 => ?_)
  have F6 := (rf_G.refl [41, 53, 55, 57, 58, 59, 60, 61, 62, 63, 64, 65] h).trans F3 (by decide)
  have B7 : sf_B 0 0 (m4 0) := by rw [em5]; exact sf_k0
  have W9 : rf_W [0, 23, 24, 26, 31] m m4 := by rw [em5]; exact (rf_W.refl [0, 23, 24, 26, 31] m).put (by decide)
  refine pm_R_lo pm_M228 (pc_q := 6) rfl rfl rfl ?_
  refine pm_R_lo pm_M228 (pc_q := 7) rfl rfl rfl ?_
  refine pm_R_lo pm_M228 (pc_q := 8) rfl rfl rfl ?_
  refine pm_R_cv pm_M228 (pc_q := 11) (a := 41) (ra := [.int a1, .int a0]) (rest := []) (ls_q := [.ref 41, .int a0, .int a1]) rfl rfl (Or.inl rfl) pm_M200 T2.2.1 rfl (by decide) (Nat.lt_of_lt_of_le (by decide) T2.1) rfl rfl (Nat.le_of_ble_eq_true rfl) rfl rfl ?_
  refine pm_R_lo pm_M200 (pc_q := 1) rfl rfl rfl ?_
  refine pm_R_op pm_M200 (pc_q := 2) (st_q := [.int 0, .ref 41]) rfl rfl rfl ?_
  refine pm_R_lo pm_M200 (pc_q := 3) rfl rfl rfl ?_
  refine pm_R_cv pm_M200 (pc_q := 6) (a := 41) (ra := [.int a0, .int 0]) (rest := []) (ls_q := [.ref 41, .int 0, .int a0]) rfl rfl (Or.inl rfl) pm_M177 T2.2.1 rfl (by decide) (Nat.lt_of_lt_of_le (by decide) T2.1) rfl rfl (Nat.le_of_ble_eq_true rfl) rfl rfl ?_
  refine pm_R_lo pm_M177 (pc_q := 1) rfl rfl rfl ?_
  refine pm_R_op pm_M177 (pc_q := 2) (st_q := [.int 0, .int a0]) rfl rfl rfl ?_
  refine pm_R_lo pm_M177 (pc_q := 3) rfl rfl rfl ?_
  refine rf_R_get pm_M177 T2 (pc_q := 6) (v := .ref 46) rfl rfl rfl rfl ?_
  refine pm_R_lo pm_M177 (pc_q := 7) rfl rfl rfl ?_
  obtain ⟨f10, e11, b12⟩ := T2.2.2.2.1 46 (by decide) (by decide)
  refine rf_R_ild pm_M177 T2 (pc_q := 8) rfl e11 (by decide) rfl rfl (fun z13 ez14 => ?_)
  have B15 : sf_B 0 2 z13 := ez14 ▸ (b12 0)
  refine pm_R_op pm_M177 (pc_q := 9) (st_q := [.int 1, .int z13, .int 0, .int a0]) rfl rfl rfl ?_
  refine sf_R_isub pm_M177 (pc_q := 10) rfl rfl B15 sf_k1 (by decide) (by decide) (fun z16 e17 B18 => ?_)
  refine pm_R_cs pm_M177 (pc_q := 13) (ra := [.int z16, .int 0, .int a0]) (rest := []) (ls_q := [.int a0, .int 0, .int z16]) rfl rfl (Or.inl rfl) pm_M174 rfl rfl (Nat.le_of_ble_eq_true rfl) rfl rfl ?_
  refine pm_R_lo pm_M174 (pc_q := 1) rfl rfl rfl ?_
  refine pm_R_lo pm_M174 (pc_q := 2) rfl rfl rfl ?_
  refine pm_R_icmp pm_M174 (t := 14) (pc_q := 5) rfl rfl rfl (fun c19 => ?_) (fun c19 => ?_)
  · have B20 : sf_B (-2147483648) (-1) a0 := sf_ltL c19 (sf_any a0) sf_k0
    refine pm_R_op pm_M174 (pc_q := 15) (st_q := [.int 0]) rfl rfl rfl ?_
    refine pm_R_ret pm_M174 (r := some (.int 0)) rfl rfl ?_
    show pm_R _ 177 13 [.ref 41, .int 0, .int a0] [.int 0] _ _
    refine pm_R_ret pm_M177 (r := some (.int 0)) rfl rfl ?_
    show pm_R _ 200 6 [.ref 41, .int a0, .int a1] [.int 0] _ _
    refine pm_R_br pm_M200 (pc_q := 18) (st_q := []) rfl rfl ?_
    refine pm_R_op pm_M200 (pc_q := 19) (st_q := [.int 0]) rfl rfl rfl ?_
    refine pm_R_ret pm_M200 (r := some (.int 0)) rfl rfl ?_
    show pm_R _ 228 11 [.ref 41, .int a0, .int a1, .long a2, pm_no, .int a3, pm_no] [.int 0] _ _
    refine pm_R_br pm_M228 (pc_q := 14) (st_q := []) rfl rfl ?_
    refine pm_R_op pm_M228 (pc_q := 16) (st_q := [.int (-2)]) rfl rfl rfl ?_
    exact pm_R_ret pm_M228 (r := some (.int (-2))) rfl rfl (K (-2) m4 w h1 T2 F6 W9)
  · have B21 : sf_B 0 2147483647 a0 := sf_leR (Int32.not_lt.mp c19) sf_k0 (sf_any a0)
    refine pm_R_lo pm_M174 (pc_q := 6) rfl rfl rfl ?_
    refine pm_R_lo pm_M174 (pc_q := 7) rfl rfl rfl ?_
    refine pm_R_icmp pm_M174 (t := 14) (pc_q := 10) rfl rfl rfl (fun c22 => ?_) (fun c22 => ?_)
    · skip
      refine pm_R_op pm_M174 (pc_q := 15) (st_q := [.int 0]) rfl rfl rfl ?_
      refine pm_R_ret pm_M174 (r := some (.int 0)) rfl rfl ?_
      show pm_R _ 177 13 [.ref 41, .int 0, .int a0] [.int 0] _ _
      refine pm_R_ret pm_M177 (r := some (.int 0)) rfl rfl ?_
      show pm_R _ 200 6 [.ref 41, .int a0, .int a1] [.int 0] _ _
      refine pm_R_br pm_M200 (pc_q := 18) (st_q := []) rfl rfl ?_
      refine pm_R_op pm_M200 (pc_q := 19) (st_q := [.int 0]) rfl rfl rfl ?_
      refine pm_R_ret pm_M200 (r := some (.int 0)) rfl rfl ?_
      show pm_R _ 228 11 [.ref 41, .int a0, .int a1, .long a2, pm_no, .int a3, pm_no] [.int 0] _ _
      refine pm_R_br pm_M228 (pc_q := 14) (st_q := []) rfl rfl ?_
      refine pm_R_op pm_M228 (pc_q := 16) (st_q := [.int (-2)]) rfl rfl rfl ?_
      exact pm_R_ret pm_M228 (r := some (.int (-2))) rfl rfl (K (-2) m4 w h1 T2 F6 W9)
    · have B23 : sf_B 0 1 a0 := sf_leL (Int32.not_lt.mp c22) B21 B18
      have B24 : sf_B 0 1 z16 := sf_leR (Int32.not_lt.mp c22) B21 B18
      refine pm_R_op pm_M174 (pc_q := 11) (st_q := [.int 1]) rfl rfl rfl ?_
      refine pm_R_br pm_M174 (pc_q := 15) rfl rfl ?_
      refine pm_R_ret pm_M174 (r := some (.int 1)) rfl rfl ?_
      show pm_R _ 177 13 [.ref 41, .int 0, .int a0] [.int 1] _ _
      refine pm_R_ret pm_M177 (r := some (.int 1)) rfl rfl ?_
      show pm_R _ 200 6 [.ref 41, .int a0, .int a1] [.int 1] _ _
      refine pm_R_br pm_M200 (pc_q := 9) (st_q := []) rfl rfl ?_
      refine pm_R_lo pm_M200 (pc_q := 10) rfl rfl rfl ?_
      refine pm_R_op pm_M200 (pc_q := 11) (st_q := [.int 1, .ref 41]) rfl rfl rfl ?_
      refine pm_R_lo pm_M200 (pc_q := 12) rfl rfl rfl ?_
      refine pm_R_cv pm_M200 (pc_q := 15) (a := 41) (ra := [.int a1, .int 1]) (rest := []) (ls_q := [.ref 41, .int 1, .int a1]) rfl rfl (Or.inl rfl) pm_M177 T2.2.1 rfl (by decide) (Nat.lt_of_lt_of_le (by decide) T2.1) rfl rfl (Nat.le_of_ble_eq_true rfl) rfl rfl ?_
      refine pm_R_lo pm_M177 (pc_q := 1) rfl rfl rfl ?_
      refine pm_R_op pm_M177 (pc_q := 2) (st_q := [.int 0, .int a1]) rfl rfl rfl ?_
      refine pm_R_lo pm_M177 (pc_q := 3) rfl rfl rfl ?_
      refine rf_R_get pm_M177 T2 (pc_q := 6) (v := .ref 46) rfl rfl rfl rfl ?_
      refine pm_R_lo pm_M177 (pc_q := 7) rfl rfl rfl ?_
      refine rf_R_ild pm_M177 T2 (pc_q := 8) rfl e11 (by decide) rfl rfl (fun z25 ez26 => ?_)
      have B27 : sf_B 0 3 z25 := ez26 ▸ (b12 1)
      refine pm_R_op pm_M177 (pc_q := 9) (st_q := [.int 1, .int z25, .int 0, .int a1]) rfl rfl rfl ?_
      refine sf_R_isub pm_M177 (pc_q := 10) rfl rfl B27 sf_k1 (by decide) (by decide) (fun z28 e29 B30 => ?_)
      refine pm_R_cs pm_M177 (pc_q := 13) (ra := [.int z28, .int 0, .int a1]) (rest := []) (ls_q := [.int a1, .int 0, .int z28]) rfl rfl (Or.inl rfl) pm_M174 rfl rfl (Nat.le_of_ble_eq_true rfl) rfl rfl ?_
      refine pm_R_lo pm_M174 (pc_q := 1) rfl rfl rfl ?_
      refine pm_R_lo pm_M174 (pc_q := 2) rfl rfl rfl ?_
      refine pm_R_icmp pm_M174 (t := 14) (pc_q := 5) rfl rfl rfl (fun c31 => ?_) (fun c31 => ?_)
      · have B32 : sf_B (-2147483648) (-1) a1 := sf_ltL c31 (sf_any a1) sf_k0
        refine pm_R_op pm_M174 (pc_q := 15) (st_q := [.int 0]) rfl rfl rfl ?_
        refine pm_R_ret pm_M174 (r := some (.int 0)) rfl rfl ?_
        show pm_R _ 177 13 [.ref 41, .int 1, .int a1] [.int 0] _ _
        refine pm_R_ret pm_M177 (r := some (.int 0)) rfl rfl ?_
        show pm_R _ 200 15 [.ref 41, .int a0, .int a1] [.int 0] _ _
        refine pm_R_br pm_M200 (pc_q := 18) (st_q := []) rfl rfl ?_
        refine pm_R_op pm_M200 (pc_q := 19) (st_q := [.int 0]) rfl rfl rfl ?_
        refine pm_R_ret pm_M200 (r := some (.int 0)) rfl rfl ?_
        show pm_R _ 228 11 [.ref 41, .int a0, .int a1, .long a2, pm_no, .int a3, pm_no] [.int 0] _ _
        refine pm_R_br pm_M228 (pc_q := 14) (st_q := []) rfl rfl ?_
        refine pm_R_op pm_M228 (pc_q := 16) (st_q := [.int (-2)]) rfl rfl rfl ?_
        exact pm_R_ret pm_M228 (r := some (.int (-2))) rfl rfl (K (-2) m4 w h1 T2 F6 W9)
      · have B33 : sf_B 0 2147483647 a1 := sf_leR (Int32.not_lt.mp c31) sf_k0 (sf_any a1)
        refine pm_R_lo pm_M174 (pc_q := 6) rfl rfl rfl ?_
        refine pm_R_lo pm_M174 (pc_q := 7) rfl rfl rfl ?_
        refine pm_R_icmp pm_M174 (t := 14) (pc_q := 10) rfl rfl rfl (fun c34 => ?_) (fun c34 => ?_)
        · skip
          refine pm_R_op pm_M174 (pc_q := 15) (st_q := [.int 0]) rfl rfl rfl ?_
          refine pm_R_ret pm_M174 (r := some (.int 0)) rfl rfl ?_
          show pm_R _ 177 13 [.ref 41, .int 1, .int a1] [.int 0] _ _
          refine pm_R_ret pm_M177 (r := some (.int 0)) rfl rfl ?_
          show pm_R _ 200 15 [.ref 41, .int a0, .int a1] [.int 0] _ _
          refine pm_R_br pm_M200 (pc_q := 18) (st_q := []) rfl rfl ?_
          refine pm_R_op pm_M200 (pc_q := 19) (st_q := [.int 0]) rfl rfl rfl ?_
          refine pm_R_ret pm_M200 (r := some (.int 0)) rfl rfl ?_
          show pm_R _ 228 11 [.ref 41, .int a0, .int a1, .long a2, pm_no, .int a3, pm_no] [.int 0] _ _
          refine pm_R_br pm_M228 (pc_q := 14) (st_q := []) rfl rfl ?_
          refine pm_R_op pm_M228 (pc_q := 16) (st_q := [.int (-2)]) rfl rfl rfl ?_
          exact pm_R_ret pm_M228 (r := some (.int (-2))) rfl rfl (K (-2) m4 w h1 T2 F6 W9)
        · have V35 := rf_V.mk e11 ez26 e29 (Int32.not_lt.mp c34) B33 (by decide)
          have V35 := V35.back F6 (by decide)
          have B36 : sf_B 0 2 a1 := sf_leL (Int32.not_lt.mp c34) B33 B30
          have B37 : sf_B 0 2 z28 := sf_leR (Int32.not_lt.mp c34) B33 B30
          refine pm_R_op pm_M174 (pc_q := 11) (st_q := [.int 1]) rfl rfl rfl ?_
          refine pm_R_br pm_M174 (pc_q := 15) rfl rfl ?_
          refine pm_R_ret pm_M174 (r := some (.int 1)) rfl rfl ?_
          show pm_R _ 177 13 [.ref 41, .int 1, .int a1] [.int 1] _ _
          refine pm_R_ret pm_M177 (r := some (.int 1)) rfl rfl ?_
          show pm_R _ 200 15 [.ref 41, .int a0, .int a1] [.int 1] _ _
          refine pm_R_br pm_M200 (pc_q := 20) (st_q := []) rfl rfl ?_
          refine pm_R_lo pm_M200 (pc_q := 21) rfl rfl rfl ?_
          refine pm_R_lo pm_M200 (pc_q := 22) rfl rfl rfl ?_
          refine pm_R_lo pm_M200 (pc_q := 23) rfl rfl rfl ?_
          refine pm_R_cv pm_M200 (pc_q := 26) (a := 41) (ra := [.int a1, .int a0]) (rest := []) (ls_q := [.ref 41, .int a0, .int a1, pm_no]) rfl rfl (Or.inl rfl) pm_M201 T2.2.1 rfl (by decide) (Nat.lt_of_lt_of_le (by decide) T2.1) rfl rfl (Nat.le_of_ble_eq_true rfl) rfl rfl ?_
          refine rf_c201 (d := d + 3) T2 B23 B36 (V35.F F6 (by decide)) (fun m40 w41 h42 T43 F44 W45 X46 B47 => ?_)
          have F48 := F6.trans F44 (by decide)
          have W49 : rf_W [0, 23, 24, 26, 31] m m40 := W9.trans W45 (by decide)
          show pm_R _ 200 26 [.ref 41, .int a0, .int a1] [] _ _
          refine pm_R_op pm_M200 (pc_q := 27) (st_q := [.int 1]) rfl rfl rfl ?_
          refine pm_R_ret pm_M200 (r := some (.int 1)) rfl rfl ?_
          show pm_R _ 228 11 [.ref 41, .int a0, .int a1, .long a2, pm_no, .int a3, pm_no] [.int 1] _ _
          refine pm_R_br pm_M228 (pc_q := 17) (st_q := []) rfl rfl ?_
          refine pm_R_lo pm_M228 (pc_q := 18) rfl rfl rfl ?_
          refine pm_R_cv pm_M228 (pc_q := 21) (a := 41) (ra := []) (rest := []) (ls_q := [.ref 41, pm_no, pm_no, pm_no, pm_no, pm_no]) rfl rfl (Or.inl rfl) pm_M202 T43.2.1 rfl (by decide) (Nat.lt_of_lt_of_le (by decide) T43.1) rfl rfl (Nat.le_of_ble_eq_true rfl) rfl rfl ?_
          refine rf_c202 (d := d + 0) T43  (fun m52 w53 h54 T55 F56 W57 => ?_)
          have F58 := F48.trans F56 (by decide)
          have B59 : sf_B 1 12 (m52 24) := by rw [W57 24 (by decide)]; exact B47
          have W60 : rf_W [0, 23, 24, 26, 31] m m52 := W49.trans W57 (by decide)
          show pm_R _ 228 21 [.ref 41, .int a0, .int a1, .long a2, pm_no, .int a3, pm_no] [] _ _
          refine pm_R_lo pm_M228 (pc_q := 22) rfl rfl rfl ?_
          refine pm_R_op pm_M228 (pc_q := 23) (st_q := [.long 0, .long a2]) rfl rfl rfl ?_
          refine sf_R_lcmp pm_M228 (pc_q := 24) rfl rfl (fun z61 e62 => ?_)
          refine pm_R_ifc pm_M228 (t := 48) (pc_q := 27) rfl rfl rfl (fun c63 => ?_) (fun c63 => ?_)
          · have B64 : sf_B (-2147483648) (-1) z61 := sf_ltL c63 (sf_any z61) sf_k0
            have k65 := lf_lt e62 B64 (by decide)
            have k66 := sf_lneB e62 B64 (by decide)
            refine pm_R_op pm_M228 (pc_q := 50) (st_q := [.int (-2)]) rfl rfl rfl ?_
            exact pm_R_ret pm_M228 (r := some (.int (-2))) rfl rfl (K (-2) m52 w53 h54 T55 F58 W60)
          · have B67 : sf_B 0 2147483647 z61 := sf_leR (Int32.not_lt.mp c63) sf_k0 (sf_any z61)
            have k68 := lf_ge e62 B67 (by decide)
            have B69 : lf_B 0 9223372036854775807 a2 := lf_geB k68 (⟨by decide, by decide⟩ : lf_B 0 0 0) (lf_any _)
            refine pm_R_lo pm_M228 (pc_q := 28) rfl rfl rfl ?_
            refine pm_R_lo pm_M228 (pc_q := 29) rfl rfl rfl ?_
            refine rf_R_get pm_M228 T55 (pc_q := 32) (v := .ref 55) rfl rfl rfl rfl ?_
            refine pm_R_op pm_M228 (pc_q := 33) (st_q := [.int 0, .ref 55, .long a2]) rfl rfl rfl ?_
            refine pm_R_op pm_M228 (pc_q := 34) (st_q := [.int 0, .int 0, .ref 55, .long a2]) rfl rfl rfl ?_
            refine pm_R_lo pm_M228 (pc_q := 35) rfl rfl rfl ?_
            refine rf_R_get pm_M228 T55 (pc_q := 38) (v := .int (m52 24)) rfl rfl rfl rfl ?_
            refine pm_R_op pm_M228 (pc_q := 39) (st_q := [.int 1, .int (m52 24), .int 0, .int 0, .ref 55, .long a2]) rfl rfl rfl ?_
            refine sf_R_isub pm_M228 (pc_q := 40) rfl rfl B59 sf_k1 (by decide) (by decide) (fun z70 e71 B72 => ?_)
            refine pm_R_cs pm_M228 (pc_q := 43) (ra := [.int z70, .int 0, .int 0]) (rest := [.ref 55, .long a2]) (ls_q := [.int 0, .int 0, .int z70]) rfl rfl (Or.inl rfl) pm_M207 rfl rfl (Nat.le_of_ble_eq_true rfl) rfl rfl ?_
            refine pm_R_op pm_M207 (pc_q := 3) (st_q := [.int 144]) rfl rfl rfl ?_
            refine pm_R_lo pm_M207 (pc_q := 4) rfl rfl rfl ?_
            refine pm_R_op pm_M207 (pc_q := 5) (st_q := [.int 0]) rfl rfl rfl ?_
            refine pm_R_op pm_M207 (pc_q := 7) (st_q := [.int 12, .int 0]) rfl rfl rfl ?_
            refine pm_R_lo pm_M207 (pc_q := 8) rfl rfl rfl ?_
            refine pm_R_op pm_M207 (pc_q := 9) (st_q := [.int 0, .int 0]) rfl rfl rfl ?_
            refine pm_R_op pm_M207 (pc_q := 10) (st_q := [.int 0]) rfl rfl rfl ?_
            refine pm_R_lo pm_M207 (pc_q := 11) rfl rfl rfl ?_
            refine sf_R_iadd pm_M207 (pc_q := 12) rfl rfl sf_k0 B72 (by decide) (by decide) (fun z73 e74 B75 => ?_)
            refine pm_R_ret pm_M207 (r := some (.int z73)) rfl (pm_ret_i _) ?_
            show pm_R _ 228 43 [.ref 41, .int a0, .int a1, .long a2, pm_no, .int a3, pm_no] [.int z73, .ref 55, .long a2] _ _
            obtain ⟨f76, e77, b78⟩ := T55.2.2.2.1 55 (by decide) (by decide)
            refine rf_R_lld pm_M228 T55 (pc_q := 44) rfl e77 (by decide) (by decide) (sf_in B75 (by decide) (by decide)) rfl (fun z79 ez80 => ?_)
            have B81 : lf_B 0 1000000000000 z79 := ez80 ▸ b78 _
            refine sf_R_lcmp pm_M228 (pc_q := 45) rfl rfl (fun z82 e83 => ?_)
            refine pm_R_ifc pm_M228 (t := 51) (pc_q := 48) rfl rfl rfl (fun c84 => ?_) (fun c84 => ?_)
            · have B85 : sf_B (-2147483648) (-1) z82 := sf_ltL c84 (sf_any z82) sf_k0
              have k86 := lf_lt e83 B85 (by decide)
              have k87 := sf_lneB e83 B85 (by decide)
              refine pm_R_lo pm_M228 (pc_q := 52) rfl rfl rfl ?_
              refine pm_R_lo pm_M228 (pc_q := 53) rfl rfl rfl ?_
              refine pm_R_cv pm_M228 (pc_q := 56) (a := 41) (ra := [.long a2]) (rest := []) (ls_q := [.ref 41, .long a2, pm_no, pm_no, pm_no]) rfl rfl (Or.inl rfl) pm_M229 T55.2.1 rfl (by decide) (Nat.lt_of_lt_of_le (by decide) T55.1) rfl rfl (Nat.le_of_ble_eq_true rfl) rfl rfl ?_
              refine rf_c229 (d := d + 0) T55 B69 B59 (fun m90 w91 h92 T93 F94 W95 => ?_)
              have F96 := F58.trans F94 (by decide)
              have B97 : sf_B 1 12 (m90 24) := by rw [W95 24 (by decide)]; exact B59
              have W98 : rf_W [0, 23, 24, 26, 31] m m90 := W60.trans W95 (by decide)
              show pm_R _ 228 56 [.ref 41, .int a0, .int a1, .long a2, pm_no, .int a3, pm_no] [] _ _
              refine pm_R_lo pm_M228 (pc_q := 57) rfl rfl rfl ?_
              refine rf_R_get pm_M228 T93 (pc_q := 60) (v := .int (m90 24)) rfl rfl rfl rfl ?_
              refine pm_R_op pm_M228 (pc_q := 61) (st_q := [.int 1, .int (m90 24)]) rfl rfl rfl ?_
              refine pm_R_icmp pm_M228 (t := 68) (pc_q := 64) rfl rfl rfl (fun c99 => ?_) (fun c99 => ?_)
              · have B100 : sf_B 2 12 (m90 24) := sf_neL0 c99 sf_k1 B97
                refine pm_R_op pm_M228 (pc_q := 69) (st_q := [.int 0]) rfl rfl rfl ?_
                refine pm_R_lo pm_M228 (pc_q := 71) (ls_q := [.ref 41, .int a0, .int a1, .long a2, pm_no, .int a3, .int 0]) (st_q := []) rfl rfl rfl ?_
                refine pm_R_lo pm_M228 (pc_q := 73) rfl rfl rfl ?_
                refine pm_R_ifc pm_M228 (t := 85) (pc_q := 76) rfl rfl rfl (fun c101 => ?_) (fun c101 => ?_)
                · skip
                  refine pm_R_lo pm_M228 (pc_q := 87) rfl rfl rfl ?_
                  refine pm_R_op pm_M228 (pc_q := 88) (st_q := [.int 1, .int a3]) rfl rfl rfl ?_
                  refine pm_R_icmp pm_M228 (t := 109) (pc_q := 91) rfl rfl rfl (fun c102 => ?_) (fun c102 => ?_)
                  · skip
                    refine pm_R_lo pm_M228 (pc_q := 111) (pm_q228_1 (Nat.le_of_ble_eq_true rfl)) rfl rfl ?_
                    refine pm_R_op pm_M228 (pc_q := 112) (st_q := [.int 2, .int a3]) (pm_q228_1 (Nat.le_of_ble_eq_true rfl)) rfl rfl ?_
                    refine pm_R_icmp pm_M228 (t := 135) (pc_q := 115) (pm_q228_1 (Nat.le_of_ble_eq_true rfl)) rfl rfl (fun c103 => ?_) (fun c103 => ?_)
                    · skip
                      refine pm_R_lo pm_M228 (pc_q := 137) (pm_q228_1 (Nat.le_of_ble_eq_true rfl)) rfl rfl ?_
                      refine pm_R_op pm_M228 (pc_q := 139) (st_q := [.int 10, .int a3]) (pm_q228_1 (Nat.le_of_ble_eq_true rfl)) rfl rfl ?_
                      refine pm_R_op pm_M228 (pc_q := 141) (st_q := [.int 9, .int 10, .int a3]) (pm_q228_1 (Nat.le_of_ble_eq_true rfl)) rfl rfl ?_
                      refine pm_R_lo pm_M228 (pc_q := 142) (pm_q228_1 (Nat.le_of_ble_eq_true rfl)) rfl rfl ?_
                      refine rf_R_get pm_M228 T93 (pc_q := 145) (v := .int (m90 24)) (pm_q228_1 (Nat.le_of_ble_eq_true rfl)) rfl rfl rfl ?_
                      refine sf_R_iadd pm_M228 (pc_q := 146) (pm_q228_1 (Nat.le_of_ble_eq_true rfl)) rfl sf_k9 B100 (by decide) (by decide) (fun z104 e105 B106 => ?_)
                      refine pm_R_cs pm_M228 (pc_q := 149) (ra := [.int z104, .int 10, .int a3]) (rest := []) (ls_q := [.int a3, .int 10, .int z104]) (pm_q228_1 (Nat.le_of_ble_eq_true rfl)) rfl (Or.inl rfl) pm_M174 rfl rfl (Nat.le_of_ble_eq_true rfl) rfl rfl ?_
                      refine pm_R_lo pm_M174 (pc_q := 1) rfl rfl rfl ?_
                      refine pm_R_lo pm_M174 (pc_q := 2) rfl rfl rfl ?_
                      refine pm_R_icmp pm_M174 (t := 14) (pc_q := 5) rfl rfl rfl (fun c107 => ?_) (fun c107 => ?_)
                      · have B108 : sf_B (-2147483648) 9 a3 := sf_ltL c107 (sf_any a3) sf_k10
                        refine pm_R_op pm_M174 (pc_q := 15) (st_q := [.int 0]) rfl rfl rfl ?_
                        refine pm_R_ret pm_M174 (r := some (.int 0)) rfl rfl ?_
                        show pm_R _ 228 149 [.ref 41, .int a0, .int a1, .long a2, pm_no, .int a3, .int 0] [.int 0] _ _
                        refine pm_R_br pm_M228 (pc_q := 165) (st_q := []) (pm_q228_1 (Nat.le_of_ble_eq_true rfl)) rfl ?_
                        refine pm_R_op pm_M228 (pc_q := 167) (st_q := [.int (-2)]) (pm_q228_1 (Nat.le_of_ble_eq_true rfl)) rfl rfl ?_
                        exact pm_R_ret pm_M228 (r := some (.int (-2))) (pm_q228_1 (Nat.le_of_ble_eq_true rfl)) rfl (K (-2) m90 w91 h92 T93 F96 W98)
                      · have B109 : sf_B 10 2147483647 a3 := sf_leR (Int32.not_lt.mp c107) sf_k10 (sf_any a3)
                        refine pm_R_lo pm_M174 (pc_q := 6) rfl rfl rfl ?_
                        refine pm_R_lo pm_M174 (pc_q := 7) rfl rfl rfl ?_
                        refine pm_R_icmp pm_M174 (t := 14) (pc_q := 10) rfl rfl rfl (fun c110 => ?_) (fun c110 => ?_)
                        · have B111 : sf_B 12 2147483647 a3 := sf_ltR c110 B106 B109
                          refine pm_R_op pm_M174 (pc_q := 15) (st_q := [.int 0]) rfl rfl rfl ?_
                          refine pm_R_ret pm_M174 (r := some (.int 0)) rfl rfl ?_
                          show pm_R _ 228 149 [.ref 41, .int a0, .int a1, .long a2, pm_no, .int a3, .int 0] [.int 0] _ _
                          refine pm_R_br pm_M228 (pc_q := 165) (st_q := []) (pm_q228_1 (Nat.le_of_ble_eq_true rfl)) rfl ?_
                          refine pm_R_op pm_M228 (pc_q := 167) (st_q := [.int (-2)]) (pm_q228_1 (Nat.le_of_ble_eq_true rfl)) rfl rfl ?_
                          exact pm_R_ret pm_M228 (r := some (.int (-2))) (pm_q228_1 (Nat.le_of_ble_eq_true rfl)) rfl (K (-2) m90 w91 h92 T93 F96 W98)
                        · have B112 : sf_B 10 21 a3 := sf_leL (Int32.not_lt.mp c110) B109 B106
                          refine pm_R_op pm_M174 (pc_q := 11) (st_q := [.int 1]) rfl rfl rfl ?_
                          refine pm_R_br pm_M174 (pc_q := 15) rfl rfl ?_
                          refine pm_R_ret pm_M174 (r := some (.int 1)) rfl rfl ?_
                          show pm_R _ 228 149 [.ref 41, .int a0, .int a1, .long a2, pm_no, .int a3, .int 0] [.int 1] _ _
                          refine pm_R_br pm_M228 (pc_q := 152) (st_q := []) (pm_q228_1 (Nat.le_of_ble_eq_true rfl)) rfl ?_
                          refine pm_R_lo pm_M228 (pc_q := 153) (pm_q228_1 (Nat.le_of_ble_eq_true rfl)) rfl rfl ?_
                          refine rf_R_get pm_M228 T93 (pc_q := 156) (v := .ref 65) (pm_q228_1 (Nat.le_of_ble_eq_true rfl)) rfl rfl rfl ?_
                          refine pm_R_lo pm_M228 (pc_q := 158) (pm_q228_1 (Nat.le_of_ble_eq_true rfl)) rfl rfl ?_
                          refine pm_R_op pm_M228 (pc_q := 160) (st_q := [.int 10, .int a3, .ref 65]) (pm_q228_1 (Nat.le_of_ble_eq_true rfl)) rfl rfl ?_
                          refine sf_R_isub pm_M228 (pc_q := 161) (pm_q228_1 (Nat.le_of_ble_eq_true rfl)) rfl B112 sf_k10 (by decide) (by decide) (fun z113 e114 B115 => ?_)
                          obtain ⟨f116, e117, b118⟩ := T93.2.2.2.1 65 (by decide) (by decide)
                          refine rf_R_ild pm_M228 T93 (pc_q := 162) (pm_q228_1 (Nat.le_of_ble_eq_true rfl)) e117 (by decide) (sf_in B115 (by decide) (by decide)) rfl (fun z119 ez120 => ?_)
                          have B121 : sf_B 0 15 z119 := ez120 ▸ b118 _
                          refine pm_R_br pm_M228 (pc_q := 167) (pm_q228_1 (Nat.le_of_ble_eq_true rfl)) rfl ?_
                          exact pm_R_ret pm_M228 (r := some (.int z119)) (pm_q228_1 (Nat.le_of_ble_eq_true rfl)) (pm_ret_i _) (K z119 m90 w91 h92 T93 F96 W98)
                    · have B122 : sf_B 2 2 a3 := sf_eqL (Classical.not_not.mp c103) sf_k2
                      refine pm_R_lo pm_M228 (pc_q := 117) (pm_q228_1 (Nat.le_of_ble_eq_true rfl)) rfl rfl ?_
                      refine pm_R_br pm_M228 (pc_q := 124) (st_q := []) (pm_q228_1 (Nat.le_of_ble_eq_true rfl)) rfl ?_
                      refine pm_R_lo pm_M228 (pc_q := 125) (pm_q228_1 (Nat.le_of_ble_eq_true rfl)) rfl rfl ?_
                      refine rf_R_get pm_M228 T93 (pc_q := 128) (v := .ref 62) (pm_q228_1 (Nat.le_of_ble_eq_true rfl)) rfl rfl rfl ?_
                      refine pm_R_op pm_M228 (pc_q := 129) (st_q := [.int 0, .ref 62]) (pm_q228_1 (Nat.le_of_ble_eq_true rfl)) rfl rfl ?_
                      obtain ⟨f123, e124, b125⟩ := T93.2.2.2.1 62 (by decide) (by decide)
                      refine rf_R_ild pm_M228 T93 (pc_q := 130) (pm_q228_1 (Nat.le_of_ble_eq_true rfl)) e124 (by decide) rfl rfl (fun z126 ez127 => ?_)
                      have B128 : sf_B 0 11 z126 := ez127 ▸ b125 _
                      refine pm_R_op pm_M228 (pc_q := 131) (st_q := [.int 1, .int z126]) (pm_q228_1 (Nat.le_of_ble_eq_true rfl)) rfl rfl ?_
                      refine sf_R_iadd pm_M228 (pc_q := 132) (pm_q228_1 (Nat.le_of_ble_eq_true rfl)) rfl B128 sf_k1 (by decide) (by decide) (fun z129 e130 B131 => ?_)
                      refine pm_R_br pm_M228 (pc_q := 167) (pm_q228_1 (Nat.le_of_ble_eq_true rfl)) rfl ?_
                      exact pm_R_ret pm_M228 (r := some (.int z129)) (pm_q228_1 (Nat.le_of_ble_eq_true rfl)) (pm_ret_i _) (K z129 m90 w91 h92 T93 F96 W98)
                  · have B132 : sf_B 1 1 a3 := sf_eqL (Classical.not_not.mp c102) sf_k1
                    refine pm_R_lo pm_M228 (pc_q := 93) rfl rfl rfl ?_
                    refine pm_R_br pm_M228 (pc_q := 100) (st_q := []) rfl rfl ?_
                    refine pm_R_lo pm_M228 (pc_q := 101) rfl rfl rfl ?_
                    refine rf_R_get pm_M228 T93 (pc_q := 104) (v := .ref 61) rfl rfl rfl rfl ?_
                    refine pm_R_op pm_M228 (pc_q := 105) (st_q := [.int 0, .ref 61]) rfl rfl rfl ?_
                    obtain ⟨f133, e134, b135⟩ := T93.2.2.2.1 61 (by decide) (by decide)
                    refine rf_R_ild pm_M228 T93 (pc_q := 106) rfl e134 (by decide) rfl rfl (fun z136 ez137 => ?_)
                    have B138 : sf_B (-1) 9 z136 := ez137 ▸ b135 _
                    refine pm_R_br pm_M228 (pc_q := 167) (pm_q228_1 (Nat.le_of_ble_eq_true rfl)) rfl ?_
                    exact pm_R_ret pm_M228 (r := some (.int z136)) (pm_q228_1 (Nat.le_of_ble_eq_true rfl)) (pm_ret_i _) (K z136 m90 w91 h92 T93 F96 W98)
                · have B139 : sf_B 0 0 a3 := sf_eqL (Classical.not_not.mp c101) sf_k0
                  refine pm_R_lo pm_M228 (pc_q := 77) rfl rfl rfl ?_
                  refine rf_R_get pm_M228 T93 (pc_q := 80) (v := .ref 64) rfl rfl rfl rfl ?_
                  refine pm_R_op pm_M228 (pc_q := 81) (st_q := [.int 0, .ref 64]) rfl rfl rfl ?_
                  obtain ⟨f140, e141⟩ := T93.2.2.2.1 64 (by decide) (by decide)
                  refine rf_R_ild pm_M228 T93 (pc_q := 82) rfl e141 (by decide) rfl rfl (fun z143 ez144 => ?_)
                  refine pm_R_br pm_M228 (pc_q := 167) rfl rfl ?_
                  exact pm_R_ret pm_M228 (r := some (.int z143)) (pm_q228_1 (Nat.le_of_ble_eq_true rfl)) (pm_ret_i _) (K z143 m90 w91 h92 T93 F96 W98)
              · have B145 : sf_B 1 1 (m90 24) := sf_eqL (Classical.not_not.mp c99) sf_k1
                refine pm_R_op pm_M228 (pc_q := 65) (st_q := [.int 1]) rfl rfl rfl ?_
                refine pm_R_br pm_M228 (pc_q := 69) rfl rfl ?_
                refine pm_R_lo pm_M228 (pc_q := 71) (ls_q := [.ref 41, .int a0, .int a1, .long a2, pm_no, .int a3, .int 1]) (st_q := []) rfl rfl rfl ?_
                refine pm_R_lo pm_M228 (pc_q := 73) rfl rfl rfl ?_
                refine pm_R_ifc pm_M228 (t := 85) (pc_q := 76) rfl rfl rfl (fun c146 => ?_) (fun c146 => ?_)
                · skip
                  refine pm_R_lo pm_M228 (pc_q := 87) rfl rfl rfl ?_
                  refine pm_R_op pm_M228 (pc_q := 88) (st_q := [.int 1, .int a3]) rfl rfl rfl ?_
                  refine pm_R_icmp pm_M228 (t := 109) (pc_q := 91) rfl rfl rfl (fun c147 => ?_) (fun c147 => ?_)
                  · skip
                    refine pm_R_lo pm_M228 (pc_q := 111) (pm_q228_1 (Nat.le_of_ble_eq_true rfl)) rfl rfl ?_
                    refine pm_R_op pm_M228 (pc_q := 112) (st_q := [.int 2, .int a3]) (pm_q228_1 (Nat.le_of_ble_eq_true rfl)) rfl rfl ?_
                    refine pm_R_icmp pm_M228 (t := 135) (pc_q := 115) (pm_q228_1 (Nat.le_of_ble_eq_true rfl)) rfl rfl (fun c148 => ?_) (fun c148 => ?_)
                    · skip
                      refine pm_R_lo pm_M228 (pc_q := 137) (pm_q228_1 (Nat.le_of_ble_eq_true rfl)) rfl rfl ?_
                      refine pm_R_op pm_M228 (pc_q := 139) (st_q := [.int 10, .int a3]) (pm_q228_1 (Nat.le_of_ble_eq_true rfl)) rfl rfl ?_
                      refine pm_R_op pm_M228 (pc_q := 141) (st_q := [.int 9, .int 10, .int a3]) (pm_q228_1 (Nat.le_of_ble_eq_true rfl)) rfl rfl ?_
                      refine pm_R_lo pm_M228 (pc_q := 142) (pm_q228_1 (Nat.le_of_ble_eq_true rfl)) rfl rfl ?_
                      refine rf_R_get pm_M228 T93 (pc_q := 145) (v := .int (m90 24)) (pm_q228_1 (Nat.le_of_ble_eq_true rfl)) rfl rfl rfl ?_
                      refine sf_R_iadd pm_M228 (pc_q := 146) (pm_q228_1 (Nat.le_of_ble_eq_true rfl)) rfl sf_k9 B145 (by decide) (by decide) (fun z149 e150 B151 => ?_)
                      refine pm_R_cs pm_M228 (pc_q := 149) (ra := [.int z149, .int 10, .int a3]) (rest := []) (ls_q := [.int a3, .int 10, .int z149]) (pm_q228_1 (Nat.le_of_ble_eq_true rfl)) rfl (Or.inl rfl) pm_M174 rfl rfl (Nat.le_of_ble_eq_true rfl) rfl rfl ?_
                      refine pm_R_lo pm_M174 (pc_q := 1) rfl rfl rfl ?_
                      refine pm_R_lo pm_M174 (pc_q := 2) rfl rfl rfl ?_
                      refine pm_R_icmp pm_M174 (t := 14) (pc_q := 5) rfl rfl rfl (fun c152 => ?_) (fun c152 => ?_)
                      · have B153 : sf_B (-2147483648) 9 a3 := sf_ltL c152 (sf_any a3) sf_k10
                        refine pm_R_op pm_M174 (pc_q := 15) (st_q := [.int 0]) rfl rfl rfl ?_
                        refine pm_R_ret pm_M174 (r := some (.int 0)) rfl rfl ?_
                        show pm_R _ 228 149 [.ref 41, .int a0, .int a1, .long a2, pm_no, .int a3, .int 1] [.int 0] _ _
                        refine pm_R_br pm_M228 (pc_q := 165) (st_q := []) (pm_q228_1 (Nat.le_of_ble_eq_true rfl)) rfl ?_
                        refine pm_R_op pm_M228 (pc_q := 167) (st_q := [.int (-2)]) (pm_q228_1 (Nat.le_of_ble_eq_true rfl)) rfl rfl ?_
                        exact pm_R_ret pm_M228 (r := some (.int (-2))) (pm_q228_1 (Nat.le_of_ble_eq_true rfl)) rfl (K (-2) m90 w91 h92 T93 F96 W98)
                      · have B154 : sf_B 10 2147483647 a3 := sf_leR (Int32.not_lt.mp c152) sf_k10 (sf_any a3)
                        refine pm_R_lo pm_M174 (pc_q := 6) rfl rfl rfl ?_
                        refine pm_R_lo pm_M174 (pc_q := 7) rfl rfl rfl ?_
                        refine pm_R_icmp pm_M174 (t := 14) (pc_q := 10) rfl rfl rfl (fun c155 => ?_) (fun c155 => ?_)
                        · have B156 : sf_B 11 2147483647 a3 := sf_ltR c155 B151 B154
                          refine pm_R_op pm_M174 (pc_q := 15) (st_q := [.int 0]) rfl rfl rfl ?_
                          refine pm_R_ret pm_M174 (r := some (.int 0)) rfl rfl ?_
                          show pm_R _ 228 149 [.ref 41, .int a0, .int a1, .long a2, pm_no, .int a3, .int 1] [.int 0] _ _
                          refine pm_R_br pm_M228 (pc_q := 165) (st_q := []) (pm_q228_1 (Nat.le_of_ble_eq_true rfl)) rfl ?_
                          refine pm_R_op pm_M228 (pc_q := 167) (st_q := [.int (-2)]) (pm_q228_1 (Nat.le_of_ble_eq_true rfl)) rfl rfl ?_
                          exact pm_R_ret pm_M228 (r := some (.int (-2))) (pm_q228_1 (Nat.le_of_ble_eq_true rfl)) rfl (K (-2) m90 w91 h92 T93 F96 W98)
                        · have B157 : sf_B 10 10 a3 := sf_leL (Int32.not_lt.mp c155) B154 B151
                          refine pm_R_op pm_M174 (pc_q := 11) (st_q := [.int 1]) rfl rfl rfl ?_
                          refine pm_R_br pm_M174 (pc_q := 15) rfl rfl ?_
                          refine pm_R_ret pm_M174 (r := some (.int 1)) rfl rfl ?_
                          show pm_R _ 228 149 [.ref 41, .int a0, .int a1, .long a2, pm_no, .int a3, .int 1] [.int 1] _ _
                          refine pm_R_br pm_M228 (pc_q := 152) (st_q := []) (pm_q228_1 (Nat.le_of_ble_eq_true rfl)) rfl ?_
                          refine pm_R_lo pm_M228 (pc_q := 153) (pm_q228_1 (Nat.le_of_ble_eq_true rfl)) rfl rfl ?_
                          refine rf_R_get pm_M228 T93 (pc_q := 156) (v := .ref 65) (pm_q228_1 (Nat.le_of_ble_eq_true rfl)) rfl rfl rfl ?_
                          refine pm_R_lo pm_M228 (pc_q := 158) (pm_q228_1 (Nat.le_of_ble_eq_true rfl)) rfl rfl ?_
                          refine pm_R_op pm_M228 (pc_q := 160) (st_q := [.int 10, .int a3, .ref 65]) (pm_q228_1 (Nat.le_of_ble_eq_true rfl)) rfl rfl ?_
                          refine sf_R_isub pm_M228 (pc_q := 161) (pm_q228_1 (Nat.le_of_ble_eq_true rfl)) rfl B157 sf_k10 (by decide) (by decide) (fun z158 e159 B160 => ?_)
                          obtain ⟨f161, e162, b163⟩ := T93.2.2.2.1 65 (by decide) (by decide)
                          refine rf_R_ild pm_M228 T93 (pc_q := 162) (pm_q228_1 (Nat.le_of_ble_eq_true rfl)) e162 (by decide) (sf_in B160 (by decide) (by decide)) rfl (fun z164 ez165 => ?_)
                          have B166 : sf_B 0 15 z164 := ez165 ▸ b163 _
                          refine pm_R_br pm_M228 (pc_q := 167) (pm_q228_1 (Nat.le_of_ble_eq_true rfl)) rfl ?_
                          exact pm_R_ret pm_M228 (r := some (.int z164)) (pm_q228_1 (Nat.le_of_ble_eq_true rfl)) (pm_ret_i _) (K z164 m90 w91 h92 T93 F96 W98)
                    · have B167 : sf_B 2 2 a3 := sf_eqL (Classical.not_not.mp c148) sf_k2
                      refine pm_R_lo pm_M228 (pc_q := 117) (pm_q228_1 (Nat.le_of_ble_eq_true rfl)) rfl rfl ?_
                      refine pm_R_br pm_M228 (pc_q := 120) (st_q := []) (pm_q228_1 (Nat.le_of_ble_eq_true rfl)) rfl ?_
                      refine pm_R_op pm_M228 (pc_q := 121) (st_q := [.int (-1)]) (pm_q228_1 (Nat.le_of_ble_eq_true rfl)) rfl rfl ?_
                      refine pm_R_br pm_M228 (pc_q := 167) (pm_q228_1 (Nat.le_of_ble_eq_true rfl)) rfl ?_
                      exact pm_R_ret pm_M228 (r := some (.int (-1))) (pm_q228_1 (Nat.le_of_ble_eq_true rfl)) rfl (K (-1) m90 w91 h92 T93 F96 W98)
                  · have B168 : sf_B 1 1 a3 := sf_eqL (Classical.not_not.mp c147) sf_k1
                    refine pm_R_lo pm_M228 (pc_q := 93) rfl rfl rfl ?_
                    refine pm_R_br pm_M228 (pc_q := 96) (st_q := []) rfl rfl ?_
                    refine pm_R_op pm_M228 (pc_q := 97) (st_q := [.int (-1)]) rfl rfl rfl ?_
                    refine pm_R_br pm_M228 (pc_q := 167) rfl rfl ?_
                    exact pm_R_ret pm_M228 (r := some (.int (-1))) (pm_q228_1 (Nat.le_of_ble_eq_true rfl)) rfl (K (-1) m90 w91 h92 T93 F96 W98)
                · have B169 : sf_B 0 0 a3 := sf_eqL (Classical.not_not.mp c146) sf_k0
                  refine pm_R_lo pm_M228 (pc_q := 77) rfl rfl rfl ?_
                  refine rf_R_get pm_M228 T93 (pc_q := 80) (v := .ref 64) rfl rfl rfl rfl ?_
                  refine pm_R_op pm_M228 (pc_q := 81) (st_q := [.int 0, .ref 64]) rfl rfl rfl ?_
                  obtain ⟨f170, e171⟩ := T93.2.2.2.1 64 (by decide) (by decide)
                  refine rf_R_ild pm_M228 T93 (pc_q := 82) rfl e171 (by decide) rfl rfl (fun z173 ez174 => ?_)
                  refine pm_R_br pm_M228 (pc_q := 167) rfl rfl ?_
                  exact pm_R_ret pm_M228 (r := some (.int z173)) (pm_q228_1 (Nat.le_of_ble_eq_true rfl)) (pm_ret_i _) (K z173 m90 w91 h92 T93 F96 W98)
            · have B175 : sf_B 0 2147483647 z82 := sf_leR (Int32.not_lt.mp c84) sf_k0 (sf_any z82)
              have k176 := lf_ge e83 B175 (by decide)
              refine pm_R_op pm_M228 (pc_q := 50) (st_q := [.int (-2)]) rfl rfl rfl ?_
              exact pm_R_ret pm_M228 (r := some (.int (-2))) rfl rfl (K (-2) m52 w53 h54 T55 F58 W60)
