set_option maxRecDepth 100000 in
set_option maxHeartbeats 4000000 in
/-- SilentTable$TextReader.readLines -/
theorem cl_c22_0 {d : Nat} {ck : cl_K} {E : Nat → pm_E} {m : Nat → Int32} {o : Nat → Option Nat} {h : pm_H} {Q : Option Value → pm_H → Prop}  (G : cl_G ck E) (T : cl_T ck E m o h) (R : cl_Rd 0 m h) (Y : cl_Y h) (K : ∀ (r : Int32) (m_q : Nat → Int32) (h_q : pm_H), cl_T ck E m_q o h_q → cl_F ck [25, 26, 27, 28, 29, 30] 0 0 h h_q → rf_W [3, 4, 5, 6, 7, 8, 10, 11, 12, 13] m m_q → cl_Rd 0 m_q h_q → cl_Y h_q → sf_B 0 1 r → Q (some (.int r)) h_q) : pm_R (d + 8) 22 0 [.ref 25, .int 0, pm_no] [] h Q := by
  obtain ⟨f1, e2, b3⟩ := id Y
  obtain ⟨f4, e5⟩ := T.C 26 (by decide) (by decide)
  obtain ⟨f7, e8⟩ := T.C 27 (by decide) (by decide)
  have B10 : sf_B 0 4 (m 3) := T.B 3
  have B11 : sf_B 0 50 (m 5) := T.B 5
  have B12 : sf_B 0 16 (m 6) := T.B 6
  have B13 : sf_B 0 99 (m 7) := T.B 7
  have B14 : sf_B (-1) 99 (m 8) := T.B 8
  refine pm_R_lo pm_M22 (pc_q := 1) rfl rfl rfl ?_
  refine pm_R_get pm_M22 (pc_q := 4) (v := .ref 30) rfl rfl T.e25 (by decide) (T.lt (by decide)) rfl rfl ?_
  refine pm_R_cv pm_M22 (pc_q := 7) (a := 30) (ra := []) (rest := []) (ls_q := [.ref 30]) rfl rfl (Or.inl rfl) pm_M16 T.e30 rfl (by decide) (T.lt (by decide)) rfl rfl (Nat.le_of_ble_eq_true rfl) rfl rfl ?_
  refine cl_c16 (d := d + 5) G T  (fun m17 h18 T19 F20 W21 => ?_)
  have F22 := (cl_F.refl (ck := ck) (A := [25, 26, 27, 28, 29, 30]) (n := 0) (s := 0) T.1).trans (N := 0) (S := 0) F20 (by decide) (by decide) (by decide)
  have B23 : sf_B 0 4 (m17 3) := by rw [W21 3 (by decide)]; exact B10
  have ek24 : (m17 3).toInt = ((m 3)).toInt := by rw [W21 3 (by decide)]
  have B25 : sf_B 0 50 (m17 5) := by rw [W21 5 (by decide)]; exact B11
  have ek26 : (m17 5).toInt = ((m 5)).toInt := by rw [W21 5 (by decide)]
  have B27 : sf_B 0 16 (m17 6) := by rw [W21 6 (by decide)]; exact B12
  have ek28 : (m17 6).toInt = ((m 6)).toInt := by rw [W21 6 (by decide)]
  have B29 : sf_B 0 99 (m17 7) := by rw [W21 7 (by decide)]; exact B13
  have ek30 : (m17 7).toInt = ((m 7)).toInt := by rw [W21 7 (by decide)]
  have B31 : sf_B (-1) 99 (m17 8) := by rw [W21 8 (by decide)]; exact B14
  have ek32 : (m17 8).toInt = ((m 8)).toInt := by rw [W21 8 (by decide)]
  have W33 : rf_W [3, 4, 5, 6, 7, 8, 10, 11, 12, 13] m m17 := (rf_W.refl [3, 4, 5, 6, 7, 8, 10, 11, 12, 13] m).trans W21 (by decide)
  show pm_R _ 22 7 [.ref 25, .int 0, pm_no] [] _ _
  refine pm_R_op pm_M22 (pc_q := 8) (st_q := [.int 0]) rfl rfl rfl ?_
  refine pm_R_lo pm_M22 (pc_q := 9) (ls_q := [.ref 25, .int 0, .int 0]) (st_q := []) rfl rfl rfl ?_
  have L_943 : ∀ (N : Nat) (h_943 : pm_H) (m_943 : Nat → Int32) (x2_943 : Int32), cl_T ck E m_943 o h_943 → cl_F ck [25, 26, 27, 28, 29, 30] 0 0 h h_943 → rf_W [3, 4, 5, 6, 7, 8, 10, 11, 12, 13] m17 m_943 → sf_B 0 600 x2_943 → (cl_Rd 0 m_943 h_943 ∧ cl_Y h_943) → (600 - x2_943.toInt).toNat = N → pm_R (d + 8) 22 9 [.ref 25, .int 0, .int x2_943] [] h_943 Q := by
    intro N
    induction N using Nat.strongRecOn with
    | ind N ih_943 =>
      intro h_943 m_943 x2_943 T_943 F_943 W_943 Bx2_943 X_943 hN_943
      have W946 : rf_W [3, 4, 5, 6, 7, 8, 10, 11, 12, 13] m m_943 := W33.trans W_943 (by decide)
      obtain ⟨f947, e948, b949⟩ := id X_943.2
      obtain ⟨f950, e951⟩ := T_943.C 26 (by decide) (by decide)
      obtain ⟨f953, e954⟩ := T_943.C 27 (by decide) (by decide)
      have B956 : sf_B 0 4 (m_943 3) := T_943.B 3
      have B957 : sf_B 0 50 (m_943 5) := T_943.B 5
      have B958 : sf_B 0 16 (m_943 6) := T_943.B 6
      have B959 : sf_B 0 99 (m_943 7) := T_943.B 7
      have B960 : sf_B (-1) 99 (m_943 8) := T_943.B 8
      refine pm_R_lo pm_M22 (pc_q := 10) rfl rfl rfl ?_
      refine pm_R_op pm_M22 (pc_q := 13) (st_q := [.int 600, .int x2_943]) rfl rfl rfl ?_
      refine pm_R_icmp pm_M22 (t := 53) (pc_q := 16) rfl rfl rfl (fun c961 => ?_) (fun c961 => ?_)
      · have B962 : sf_B 600 600 x2_943 := sf_leR c961 sf_k600 Bx2_943
        refine pm_R_op pm_M22 (pc_q := 54) (st_q := [.int 1]) rfl rfl rfl ?_
        exact pm_R_ret pm_M22 (r := some (.int 1)) rfl rfl (K 1 m_943 h_943 T_943 F_943 W946 (fun z => ⟨_, _, e951, e954, (X_943.1.at (cl_aux67 _ z) e951 e954).keep rfl rfl rfl rfl⟩) ⟨_, e948, b949⟩ (sf_weak sf_k1 (by decide) (by decide)))
      · have B963 : sf_B 0 599 x2_943 := sf_ltL (Int32.not_le.mp c961) Bx2_943 sf_k600
        refine pm_R_lo pm_M22 (pc_q := 17) rfl rfl rfl ?_
        refine pm_R_get pm_M22 (pc_q := 20) (v := .ref 30) rfl rfl T_943.e25 (by decide) (T_943.lt (by decide)) rfl rfl ?_
        have B964 : sf_B 0 4 (m_943 12) := T_943.B 12
        refine pm_R_get pm_M22 (pc_q := 23) (v := .int (m_943 12)) rfl rfl T_943.e30 (by decide) (T_943.lt (by decide)) rfl rfl ?_
        refine pm_R_ifc pm_M22 (t := 53) (pc_q := 26) rfl rfl rfl (fun c965 => ?_) (fun c965 => ?_)
        · have B966 : sf_B 0 0 (m_943 12) := sf_eqL c965 sf_k0
          refine pm_R_op pm_M22 (pc_q := 54) (st_q := [.int 1]) rfl rfl rfl ?_
          exact pm_R_ret pm_M22 (r := some (.int 1)) rfl rfl (K 1 m_943 h_943 T_943 F_943 W946 (fun z => ⟨_, _, e951, e954, (X_943.1.at (cl_aux67 _ z) e951 e954).keep rfl rfl rfl rfl⟩) ⟨_, e948, b949⟩ (sf_weak sf_k1 (by decide) (by decide)))
        · have B967 : sf_B 1 4 (m_943 12) := sf_neL0 c965 sf_k0 B964
          refine pm_R_lo pm_M22 (pc_q := 27) rfl rfl rfl ?_
          refine pm_R_lo pm_M22 (pc_q := 28) rfl rfl rfl ?_
          refine pm_R_lo pm_M22 (pc_q := 29) rfl rfl rfl ?_
          refine pm_R_cv pm_M22 (pc_q := 32) (a := 25) (ra := [.int 0]) (rest := [.ref 25]) (ls_q := [.ref 25, .int 0, pm_no]) rfl rfl (Or.inl rfl) pm_M23 T_943.e25 rfl (by decide) (T_943.lt (by decide)) rfl rfl (Nat.le_of_ble_eq_true rfl) rfl rfl ?_
          refine pm_R_lo pm_M23 (pc_q := 1) rfl rfl rfl ?_
          refine pm_R_br pm_M23 (pc_q := 28) (st_q := []) rfl rfl ?_
          refine pm_R_lo pm_M23 (pc_q := 29) rfl rfl rfl ?_
          refine pm_R_get pm_M23 (pc_q := 32) (v := .ref 30) rfl rfl T_943.e25 (by decide) (T_943.lt (by decide)) rfl rfl ?_
          refine cl_R_sldc pm_M23 (pc_q := 34) (v := .ref 7) rfl rfl rfl rfl ?_
          refine pm_R_cv pm_M23 (pc_q := 37) (a := 30) (ra := [.ref 7]) (rest := []) (ls_q := [.ref 30, .ref 7, pm_no, pm_no, pm_no]) rfl rfl (Or.inl rfl) pm_M24 T_943.e30 rfl (by decide) (T_943.lt (by decide)) rfl rfl (Nat.le_of_ble_eq_true rfl) rfl rfl ?_
          refine cl_c24_7 (d := d + 0) G T_943  (fun r968 B969 => ?_)
          show pm_R _ 23 37 [.ref 25, .int 0, pm_no] [.int r968] _ _
          refine pm_R_lo pm_M23 (pc_q := 38) (ls_q := [.ref 25, .int 0, .int r968]) (st_q := []) rfl rfl rfl ?_
          refine pm_R_lo pm_M23 (pc_q := 39) rfl rfl rfl ?_
          refine pm_R_op pm_M23 (pc_q := 40) (st_q := [.int (-1), .int r968]) rfl rfl rfl ?_
          refine pm_R_icmp pm_M23 (t := 47) (pc_q := 43) rfl rfl rfl (fun c975 => ?_) (fun c975 => ?_)
          · have B976 : sf_B 0 2 r968 := sf_neL0 c975 sf_kn1 B969
            refine pm_R_op pm_M23 (pc_q := 48) (st_q := [.int 0]) rfl rfl rfl ?_
            refine pm_R_lo pm_M23 (pc_q := 49) rfl rfl rfl ?_
            refine sf_R_iadd pm_M23 (pc_q := 50) rfl rfl sf_k0 B976 (by decide) (by decide) (fun z977 e978 B979 => ?_)
            refine pm_R_ret pm_M23 (r := some (.int z977)) rfl (pm_ret_i _) ?_
            show pm_R _ 22 32 [.ref 25, .int 0, .int x2_943] [.int z977, .ref 25] _ _
            refine pm_R_cv pm_M22 (pc_q := 35) (a := 25) (ra := [.int z977]) (rest := []) (ls_q := [.ref 25, .int z977, pm_no]) rfl rfl (Or.inl rfl) pm_M37 T_943.e25 rfl (by decide) (T_943.lt (by decide)) rfl rfl (Nat.le_of_ble_eq_true rfl) rfl rfl ?_
            by_cases c980 : z977 = 0
            · rw [c980]
              refine cl_c37_0 (d := d + 0) G T_943 (fun z => ⟨_, _, e951, e954, (X_943.1.at (cl_aux67 _ z) e951 e954).keep rfl rfl rfl rfl⟩) ⟨_, e948, b949⟩ (fun r981 m983 h984 T985 F986 W987 X988 X989 B982 => ?_)
              have F990 := F_943.trans (N := 0) (S := 0) F986 (by decide) (by decide) (by decide)
              have W991 : rf_W [3, 4, 5, 6, 7, 8, 10, 11, 12, 13] m m983 := W946.trans W987 (by decide)
              have W992 : rf_W [3, 4, 5, 6, 7, 8, 10, 11, 12, 13] m17 m983 := W_943.trans W987 (by decide)
              have B993 : sf_B 0 4 (m983 3) := T985.B 3
              have B994 : sf_B 0 50 (m983 5) := T985.B 5
              have B995 : sf_B 0 16 (m983 6) := T985.B 6
              have B996 : sf_B 0 99 (m983 7) := T985.B 7
              have B997 : sf_B (-1) 99 (m983 8) := T985.B 8
              show pm_R _ 22 35 [.ref 25, .int 0, .int x2_943] [.int r981] _ _
              obtain ⟨f998, e999, b1000⟩ := X989
              obtain ⟨f1001, e1002⟩ := T985.C 26 (by decide) (by decide)
              have e1004 := (F986.cell G (by decide) (by decide) e954)
              refine pm_R_ifc pm_M22 (t := 40) (pc_q := 38) rfl rfl rfl (fun c1005 => ?_) (fun c1005 => ?_)
              · have B1006 : sf_B 1 1 r981 := sf_neL0 c1005 sf_k0 B982
                refine pm_R_lo pm_M22 (pc_q := 41) rfl rfl rfl ?_
                refine pm_R_get pm_M22 (pc_q := 44) (v := .ref 30) rfl rfl T985.e25 (by decide) (T985.lt (by decide)) rfl rfl ?_
                refine pm_R_cv pm_M22 (pc_q := 47) (a := 30) (ra := []) (rest := []) (ls_q := [.ref 30]) rfl rfl (Or.inl rfl) pm_M16 T985.e30 rfl (by decide) (T985.lt (by decide)) rfl rfl (Nat.le_of_ble_eq_true rfl) rfl rfl ?_
                refine cl_c16 (d := d + 5) G T985  (fun m1009 h1010 T1011 F1012 W1013 => ?_)
                have F1014 := F990.trans (N := 0) (S := 0) F1012 (by decide) (by decide) (by decide)
                have B1015 : sf_B 0 4 (m1009 3) := by rw [W1013 3 (by decide)]; exact B993
                have ek1016 : (m1009 3).toInt = ((m983 3)).toInt := by rw [W1013 3 (by decide)]
                have B1017 : sf_B 0 50 (m1009 5) := by rw [W1013 5 (by decide)]; exact B994
                have ek1018 : (m1009 5).toInt = ((m983 5)).toInt := by rw [W1013 5 (by decide)]
                have B1019 : sf_B 0 16 (m1009 6) := by rw [W1013 6 (by decide)]; exact B995
                have ek1020 : (m1009 6).toInt = ((m983 6)).toInt := by rw [W1013 6 (by decide)]
                have B1021 : sf_B 0 99 (m1009 7) := by rw [W1013 7 (by decide)]; exact B996
                have ek1022 : (m1009 7).toInt = ((m983 7)).toInt := by rw [W1013 7 (by decide)]
                have B1023 : sf_B (-1) 99 (m1009 8) := by rw [W1013 8 (by decide)]; exact B997
                have ek1024 : (m1009 8).toInt = ((m983 8)).toInt := by rw [W1013 8 (by decide)]
                have W1025 : rf_W [3, 4, 5, 6, 7, 8, 10, 11, 12, 13] m m1009 := W991.trans W1013 (by decide)
                have W1026 : rf_W [3, 4, 5, 6, 7, 8, 10, 11, 12, 13] m17 m1009 := W992.trans W1013 (by decide)
                show pm_R _ 22 47 [.ref 25, .int 0, .int x2_943] [] _ _
                refine sf_R_iinc pm_M22 (pc_q := 50) (ls_q := fun z => [.ref 25, .int 0, .int z]) rfl B963 rfl (by decide) (by decide) (by decide) (fun _ => rfl) rfl (fun z1027 e1028 B1029 => ?_)
                show pm_R _ 22 50 [.ref 25, .int 0, .int z1027] [] _ _
                refine pm_R_br pm_M22 (pc_q := 9) rfl rfl ?_
                have e1030 := (F1012.cell G (by decide) (by decide) e1002)
                have e1031 := (F1012.cell G (by decide) (by decide) e1004)
                have e1032 := (F1012.cell G (by decide) (by decide) e999)
                exact ih_943 _ (sf_up hN_943 e1028 B963 (by decide) (by decide)) h1010 m1009 z1027 T1011 F1014 W1026 (sf_weak B1029 (by decide) (by decide)) ⟨(fun z => ⟨_, _, e1030, e1031, (X988.at (cl_aux68 _ _ ek1016 z) e1002 e1004).keep (cl_aux3 _ _ ek1018) (cl_aux3 _ _ ek1020) (cl_aux3 _ _ ek1022) (cl_aux3 _ _ ek1024)⟩), ⟨_, e1032, b1000⟩⟩ rfl
              · have B1033 : sf_B 0 0 r981 := sf_eqL (Classical.not_not.mp c1005) sf_k0
                refine pm_R_op pm_M22 (pc_q := 39) (st_q := [.int 0]) rfl rfl rfl ?_
                exact pm_R_ret pm_M22 (r := some (.int 0)) rfl rfl (K 0 m983 h984 T985 F990 W991 (fun z => ⟨_, _, e1002, e1004, (X988.at (cl_aux67 _ z) e1002 e1004).keep rfl rfl rfl rfl⟩) ⟨_, e999, b1000⟩ (sf_weak sf_k0 (by decide) (by decide)))
            have B1034 : sf_B 1 2 z977 := sf_neL0 c980 sf_k0 B979
            by_cases c1035 : z977 = 1
            · rw [c1035]
              refine cl_c37_1 (d := d + 0) G T_943 (fun z => ⟨_, _, e951, e954, (X_943.1.at (cl_aux67 _ z) e951 e954).keep rfl rfl rfl rfl⟩) ⟨_, e948, b949⟩ (fun r1036 m1038 h1039 T1040 F1041 W1042 X1043 X1044 B1037 => ?_)
              have F1045 := F_943.trans (N := 0) (S := 0) F1041 (by decide) (by decide) (by decide)
              have W1046 : rf_W [3, 4, 5, 6, 7, 8, 10, 11, 12, 13] m m1038 := W946.trans W1042 (by decide)
              have W1047 : rf_W [3, 4, 5, 6, 7, 8, 10, 11, 12, 13] m17 m1038 := W_943.trans W1042 (by decide)
              have B1048 : sf_B 0 4 (m1038 3) := T1040.B 3
              have B1049 : sf_B 0 50 (m1038 5) := T1040.B 5
              have B1050 : sf_B 0 16 (m1038 6) := T1040.B 6
              have B1051 : sf_B 0 99 (m1038 7) := T1040.B 7
              have B1052 : sf_B (-1) 99 (m1038 8) := T1040.B 8
              show pm_R _ 22 35 [.ref 25, .int 0, .int x2_943] [.int r1036] _ _
              obtain ⟨f1053, e1054, b1055⟩ := X1044
              have e1056 := (F1041.cell G (by decide) (by decide) e951)
              obtain ⟨f1057, e1058⟩ := T1040.C 27 (by decide) (by decide)
              refine pm_R_ifc pm_M22 (t := 40) (pc_q := 38) rfl rfl rfl (fun c1060 => ?_) (fun c1060 => ?_)
              · have B1061 : sf_B 1 1 r1036 := sf_neL0 c1060 sf_k0 B1037
                refine pm_R_lo pm_M22 (pc_q := 41) rfl rfl rfl ?_
                refine pm_R_get pm_M22 (pc_q := 44) (v := .ref 30) rfl rfl T1040.e25 (by decide) (T1040.lt (by decide)) rfl rfl ?_
                refine pm_R_cv pm_M22 (pc_q := 47) (a := 30) (ra := []) (rest := []) (ls_q := [.ref 30]) rfl rfl (Or.inl rfl) pm_M16 T1040.e30 rfl (by decide) (T1040.lt (by decide)) rfl rfl (Nat.le_of_ble_eq_true rfl) rfl rfl ?_
                refine cl_c16 (d := d + 5) G T1040  (fun m1064 h1065 T1066 F1067 W1068 => ?_)
                have F1069 := F1045.trans (N := 0) (S := 0) F1067 (by decide) (by decide) (by decide)
                have B1070 : sf_B 0 4 (m1064 3) := by rw [W1068 3 (by decide)]; exact B1048
                have ek1071 : (m1064 3).toInt = ((m1038 3)).toInt := by rw [W1068 3 (by decide)]
                have B1072 : sf_B 0 50 (m1064 5) := by rw [W1068 5 (by decide)]; exact B1049
                have ek1073 : (m1064 5).toInt = ((m1038 5)).toInt := by rw [W1068 5 (by decide)]
                have B1074 : sf_B 0 16 (m1064 6) := by rw [W1068 6 (by decide)]; exact B1050
                have ek1075 : (m1064 6).toInt = ((m1038 6)).toInt := by rw [W1068 6 (by decide)]
                have B1076 : sf_B 0 99 (m1064 7) := by rw [W1068 7 (by decide)]; exact B1051
                have ek1077 : (m1064 7).toInt = ((m1038 7)).toInt := by rw [W1068 7 (by decide)]
                have B1078 : sf_B (-1) 99 (m1064 8) := by rw [W1068 8 (by decide)]; exact B1052
                have ek1079 : (m1064 8).toInt = ((m1038 8)).toInt := by rw [W1068 8 (by decide)]
                have W1080 : rf_W [3, 4, 5, 6, 7, 8, 10, 11, 12, 13] m m1064 := W1046.trans W1068 (by decide)
                have W1081 : rf_W [3, 4, 5, 6, 7, 8, 10, 11, 12, 13] m17 m1064 := W1047.trans W1068 (by decide)
                show pm_R _ 22 47 [.ref 25, .int 0, .int x2_943] [] _ _
                refine sf_R_iinc pm_M22 (pc_q := 50) (ls_q := fun z => [.ref 25, .int 0, .int z]) rfl B963 rfl (by decide) (by decide) (by decide) (fun _ => rfl) rfl (fun z1082 e1083 B1084 => ?_)
                show pm_R _ 22 50 [.ref 25, .int 0, .int z1082] [] _ _
                refine pm_R_br pm_M22 (pc_q := 9) rfl rfl ?_
                have e1085 := (F1067.cell G (by decide) (by decide) e1056)
                have e1086 := (F1067.cell G (by decide) (by decide) e1058)
                have e1087 := (F1067.cell G (by decide) (by decide) e1054)
                exact ih_943 _ (sf_up hN_943 e1083 B963 (by decide) (by decide)) h1065 m1064 z1082 T1066 F1069 W1081 (sf_weak B1084 (by decide) (by decide)) ⟨(fun z => ⟨_, _, e1085, e1086, (X1043.at (cl_aux68 _ _ ek1071 z) e1056 e1058).keep (cl_aux3 _ _ ek1073) (cl_aux3 _ _ ek1075) (cl_aux3 _ _ ek1077) (cl_aux3 _ _ ek1079)⟩), ⟨_, e1087, b1055⟩⟩ rfl
              · have B1088 : sf_B 0 0 r1036 := sf_eqL (Classical.not_not.mp c1060) sf_k0
                refine pm_R_op pm_M22 (pc_q := 39) (st_q := [.int 0]) rfl rfl rfl ?_
                exact pm_R_ret pm_M22 (r := some (.int 0)) rfl rfl (K 0 m1038 h1039 T1040 F1045 W1046 (fun z => ⟨_, _, e1056, e1058, (X1043.at (cl_aux67 _ z) e1056 e1058).keep rfl rfl rfl rfl⟩) ⟨_, e1054, b1055⟩ (sf_weak sf_k0 (by decide) (by decide)))
            have B1089 : sf_B 2 2 z977 := sf_neL0 c1035 sf_k1 B1034
            rw [sf_pt2 B1089 sf_k2]
            refine cl_c37_2 (d := d + 0) G T_943 (fun z => ⟨_, _, e951, e954, (X_943.1.at (cl_aux67 _ z) e951 e954).keep rfl rfl rfl rfl⟩) ⟨_, e948, b949⟩ (fun r1090 m1092 h1093 T1094 F1095 W1096 X1097 X1098 B1091 => ?_)
            have F1099 := F_943.trans (N := 0) (S := 0) F1095 (by decide) (by decide) (by decide)
            have W1100 : rf_W [3, 4, 5, 6, 7, 8, 10, 11, 12, 13] m m1092 := W946.trans W1096 (by decide)
            have W1101 : rf_W [3, 4, 5, 6, 7, 8, 10, 11, 12, 13] m17 m1092 := W_943.trans W1096 (by decide)
            have B1102 : sf_B 0 4 (m1092 3) := T1094.B 3
            have B1103 : sf_B 0 50 (m1092 5) := T1094.B 5
            have B1104 : sf_B 0 16 (m1092 6) := T1094.B 6
            have B1105 : sf_B 0 99 (m1092 7) := T1094.B 7
            have B1106 : sf_B (-1) 99 (m1092 8) := T1094.B 8
            show pm_R _ 22 35 [.ref 25, .int 0, .int x2_943] [.int r1090] _ _
            obtain ⟨f1107, e1108, b1109⟩ := X1098
            have e1110 := (F1095.cell G (by decide) (by decide) e951)
            have e1111 := (F1095.cell G (by decide) (by decide) e954)
            refine pm_R_ifc pm_M22 (t := 40) (pc_q := 38) rfl rfl rfl (fun c1112 => ?_) (fun c1112 => ?_)
            · have B1113 : sf_B 1 1 r1090 := sf_neL0 c1112 sf_k0 B1091
              refine pm_R_lo pm_M22 (pc_q := 41) rfl rfl rfl ?_
              refine pm_R_get pm_M22 (pc_q := 44) (v := .ref 30) rfl rfl T1094.e25 (by decide) (T1094.lt (by decide)) rfl rfl ?_
              refine pm_R_cv pm_M22 (pc_q := 47) (a := 30) (ra := []) (rest := []) (ls_q := [.ref 30]) rfl rfl (Or.inl rfl) pm_M16 T1094.e30 rfl (by decide) (T1094.lt (by decide)) rfl rfl (Nat.le_of_ble_eq_true rfl) rfl rfl ?_
              refine cl_c16 (d := d + 5) G T1094  (fun m1116 h1117 T1118 F1119 W1120 => ?_)
              have F1121 := F1099.trans (N := 0) (S := 0) F1119 (by decide) (by decide) (by decide)
              have B1122 : sf_B 0 4 (m1116 3) := by rw [W1120 3 (by decide)]; exact B1102
              have ek1123 : (m1116 3).toInt = ((m1092 3)).toInt := by rw [W1120 3 (by decide)]
              have B1124 : sf_B 0 50 (m1116 5) := by rw [W1120 5 (by decide)]; exact B1103
              have ek1125 : (m1116 5).toInt = ((m1092 5)).toInt := by rw [W1120 5 (by decide)]
              have B1126 : sf_B 0 16 (m1116 6) := by rw [W1120 6 (by decide)]; exact B1104
              have ek1127 : (m1116 6).toInt = ((m1092 6)).toInt := by rw [W1120 6 (by decide)]
              have B1128 : sf_B 0 99 (m1116 7) := by rw [W1120 7 (by decide)]; exact B1105
              have ek1129 : (m1116 7).toInt = ((m1092 7)).toInt := by rw [W1120 7 (by decide)]
              have B1130 : sf_B (-1) 99 (m1116 8) := by rw [W1120 8 (by decide)]; exact B1106
              have ek1131 : (m1116 8).toInt = ((m1092 8)).toInt := by rw [W1120 8 (by decide)]
              have W1132 : rf_W [3, 4, 5, 6, 7, 8, 10, 11, 12, 13] m m1116 := W1100.trans W1120 (by decide)
              have W1133 : rf_W [3, 4, 5, 6, 7, 8, 10, 11, 12, 13] m17 m1116 := W1101.trans W1120 (by decide)
              show pm_R _ 22 47 [.ref 25, .int 0, .int x2_943] [] _ _
              refine sf_R_iinc pm_M22 (pc_q := 50) (ls_q := fun z => [.ref 25, .int 0, .int z]) rfl B963 rfl (by decide) (by decide) (by decide) (fun _ => rfl) rfl (fun z1134 e1135 B1136 => ?_)
              show pm_R _ 22 50 [.ref 25, .int 0, .int z1134] [] _ _
              refine pm_R_br pm_M22 (pc_q := 9) rfl rfl ?_
              have e1137 := (F1119.cell G (by decide) (by decide) e1110)
              have e1138 := (F1119.cell G (by decide) (by decide) e1111)
              have e1139 := (F1119.cell G (by decide) (by decide) e1108)
              exact ih_943 _ (sf_up hN_943 e1135 B963 (by decide) (by decide)) h1117 m1116 z1134 T1118 F1121 W1133 (sf_weak B1136 (by decide) (by decide)) ⟨(fun z => ⟨_, _, e1137, e1138, (X1097.at (cl_aux68 _ _ ek1123 z) e1110 e1111).keep (cl_aux3 _ _ ek1125) (cl_aux3 _ _ ek1127) (cl_aux3 _ _ ek1129) (cl_aux3 _ _ ek1131)⟩), ⟨_, e1139, b1109⟩⟩ rfl
            · have B1140 : sf_B 0 0 r1090 := sf_eqL (Classical.not_not.mp c1112) sf_k0
              refine pm_R_op pm_M22 (pc_q := 39) (st_q := [.int 0]) rfl rfl rfl ?_
              exact pm_R_ret pm_M22 (r := some (.int 0)) rfl rfl (K 0 m1092 h1093 T1094 F1099 W1100 (fun z => ⟨_, _, e1110, e1111, (X1097.at (cl_aux67 _ z) e1110 e1111).keep rfl rfl rfl rfl⟩) ⟨_, e1108, b1109⟩ (sf_weak sf_k0 (by decide) (by decide)))
          · have B1141 : sf_B (-1) (-1) r968 := sf_eqL (Classical.not_not.mp c975) sf_kn1
            refine pm_R_op pm_M23 (pc_q := 44) (st_q := [.int (-1)]) rfl rfl rfl ?_
            refine pm_R_br pm_M23 (pc_q := 50) rfl rfl ?_
            refine pm_R_ret pm_M23 (r := some (.int (-1))) rfl rfl ?_
            show pm_R _ 22 32 [.ref 25, .int 0, .int x2_943] [.int (-1), .ref 25] _ _
            refine pm_R_cv pm_M22 (pc_q := 35) (a := 25) (ra := [.int (-1)]) (rest := []) (ls_q := [.ref 25, .int (-1), pm_no]) rfl rfl (Or.inl rfl) pm_M37 T_943.e25 rfl (by decide) (T_943.lt (by decide)) rfl rfl (Nat.le_of_ble_eq_true rfl) rfl rfl ?_
            show pm_R _ 37 0 [.ref 25, .int (-1), pm_no] [] _ _
            refine pm_R_lo pm_M37 (pc_q := 1) rfl rfl rfl ?_
            refine pm_R_op pm_M37 (pc_q := 2) (st_q := [.int (-1), .int (-1)]) rfl rfl rfl ?_
            refine pm_R_br pm_M37 (pc_q := 5) (st_q := []) rfl rfl ?_
            refine pm_R_op pm_M37 (pc_q := 6) (st_q := [.int 0]) rfl rfl rfl ?_
            refine pm_R_ret pm_M37 (r := some (.int 0)) rfl rfl ?_
            show pm_R _ 22 35 [.ref 25, .int 0, .int x2_943] [.int 0] _ _
            refine pm_R_br pm_M22 (pc_q := 38) (st_q := []) rfl rfl ?_
            refine pm_R_op pm_M22 (pc_q := 39) (st_q := [.int 0]) rfl rfl rfl ?_
            exact pm_R_ret pm_M22 (r := some (.int 0)) rfl rfl (K 0 m_943 h_943 T_943 F_943 W946 (fun z => ⟨_, _, e951, e954, (X_943.1.at (cl_aux67 _ z) e951 e954).keep rfl rfl rfl rfl⟩) ⟨_, e948, b949⟩ (sf_weak sf_k0 (by decide) (by decide)))
  have e1142 := (F20.cell G (by decide) (by decide) e5)
  have e1143 := (F20.cell G (by decide) (by decide) e8)
  have e1144 := (F20.cell G (by decide) (by decide) e2)
  exact L_943 _ h18 m17 0 T19 F22 (rf_W.refl _ _) (sf_weak sf_k0 (by decide) (by decide)) ⟨(fun z => ⟨_, _, e1142, e1143, (R.at (cl_aux68 _ _ ek24 z) e5 e8).keep (cl_aux3 _ _ ek26) (cl_aux3 _ _ ek28) (cl_aux3 _ _ ek30) (cl_aux3 _ _ ek32)⟩), ⟨_, e1144, b3⟩⟩ rfl

set_option maxRecDepth 100000 in
set_option maxHeartbeats 4000000 in
/-- SilentTable$TextReader.readLines -/
theorem cl_c22_2 {d : Nat} {ck : cl_K} {E : Nat → pm_E} {m : Nat → Int32} {o : Nat → Option Nat} {h : pm_H} {Q : Option Value → pm_H → Prop}  (G : cl_G ck E) (T : cl_T ck E m o h) (R : cl_Rd 2 m h) (Y : cl_Y h) (K : ∀ (r : Int32) (m_q : Nat → Int32) (h_q : pm_H), cl_T ck E m_q o h_q → cl_F ck [25, 26, 29, 30] 0 0 h h_q → rf_W [3, 4, 5, 6, 7, 8, 10, 11, 12, 13] m m_q → cl_Rd 2 m_q h_q → cl_Y h_q → sf_B 0 1 r → Q (some (.int r)) h_q) : pm_R (d + 8) 22 0 [.ref 25, .int 2, pm_no] [] h Q := by
  obtain ⟨f1, e2, b3⟩ := id Y
  obtain ⟨f4, e5⟩ := T.C 26 (by decide) (by decide)
  obtain ⟨f7, e8⟩ := T.C 27 (by decide) (by decide)
  have B10 : sf_B 0 4 (m 3) := T.B 3
  have B11 : sf_B 0 50 (m 5) := T.B 5
  have B12 : sf_B 0 16 (m 6) := T.B 6
  have B13 : sf_B 0 99 (m 7) := T.B 7
  have B14 : sf_B (-1) 99 (m 8) := T.B 8
  refine pm_R_lo pm_M22 (pc_q := 1) rfl rfl rfl ?_
  refine pm_R_get pm_M22 (pc_q := 4) (v := .ref 30) rfl rfl T.e25 (by decide) (T.lt (by decide)) rfl rfl ?_
  refine pm_R_cv pm_M22 (pc_q := 7) (a := 30) (ra := []) (rest := []) (ls_q := [.ref 30]) rfl rfl (Or.inl rfl) pm_M16 T.e30 rfl (by decide) (T.lt (by decide)) rfl rfl (Nat.le_of_ble_eq_true rfl) rfl rfl ?_
  refine cl_c16 (d := d + 5) G T  (fun m17 h18 T19 F20 W21 => ?_)
  have F22 := (cl_F.refl (ck := ck) (A := [25, 26, 29, 30]) (n := 0) (s := 0) T.1).trans (N := 0) (S := 0) F20 (by decide) (by decide) (by decide)
  have B23 : sf_B 0 4 (m17 3) := by rw [W21 3 (by decide)]; exact B10
  have ek24 : (m17 3).toInt = ((m 3)).toInt := by rw [W21 3 (by decide)]
  have B25 : sf_B 0 50 (m17 5) := by rw [W21 5 (by decide)]; exact B11
  have ek26 : (m17 5).toInt = ((m 5)).toInt := by rw [W21 5 (by decide)]
  have B27 : sf_B 0 16 (m17 6) := by rw [W21 6 (by decide)]; exact B12
  have ek28 : (m17 6).toInt = ((m 6)).toInt := by rw [W21 6 (by decide)]
  have B29 : sf_B 0 99 (m17 7) := by rw [W21 7 (by decide)]; exact B13
  have ek30 : (m17 7).toInt = ((m 7)).toInt := by rw [W21 7 (by decide)]
  have B31 : sf_B (-1) 99 (m17 8) := by rw [W21 8 (by decide)]; exact B14
  have ek32 : (m17 8).toInt = ((m 8)).toInt := by rw [W21 8 (by decide)]
  have W33 : rf_W [3, 4, 5, 6, 7, 8, 10, 11, 12, 13] m m17 := (rf_W.refl [3, 4, 5, 6, 7, 8, 10, 11, 12, 13] m).trans W21 (by decide)
  show pm_R _ 22 7 [.ref 25, .int 2, pm_no] [] _ _
  refine pm_R_op pm_M22 (pc_q := 8) (st_q := [.int 0]) rfl rfl rfl ?_
  refine pm_R_lo pm_M22 (pc_q := 9) (ls_q := [.ref 25, .int 2, .int 0]) (st_q := []) rfl rfl rfl ?_
  have L_1193 : ∀ (N : Nat) (h_1193 : pm_H) (m_1193 : Nat → Int32) (x2_1193 : Int32), cl_T ck E m_1193 o h_1193 → cl_F ck [25, 26, 29, 30] 0 0 h h_1193 → rf_W [3, 4, 5, 6, 7, 8, 10, 11, 12, 13] m17 m_1193 → sf_B 0 600 x2_1193 → (cl_Rd 2 m_1193 h_1193 ∧ cl_Y h_1193) → (600 - x2_1193.toInt).toNat = N → pm_R (d + 8) 22 9 [.ref 25, .int 2, .int x2_1193] [] h_1193 Q := by
    intro N
    induction N using Nat.strongRecOn with
    | ind N ih_1193 =>
      intro h_1193 m_1193 x2_1193 T_1193 F_1193 W_1193 Bx2_1193 X_1193 hN_1193
      have W1196 : rf_W [3, 4, 5, 6, 7, 8, 10, 11, 12, 13] m m_1193 := W33.trans W_1193 (by decide)
      obtain ⟨f1197, e1198, b1199⟩ := id X_1193.2
      obtain ⟨f1200, e1201⟩ := T_1193.C 26 (by decide) (by decide)
      obtain ⟨f1203, e1204⟩ := T_1193.C 27 (by decide) (by decide)
      have B1206 : sf_B 0 4 (m_1193 3) := T_1193.B 3
      have B1207 : sf_B 0 50 (m_1193 5) := T_1193.B 5
      have B1208 : sf_B 0 16 (m_1193 6) := T_1193.B 6
      have B1209 : sf_B 0 99 (m_1193 7) := T_1193.B 7
      have B1210 : sf_B (-1) 99 (m_1193 8) := T_1193.B 8
      refine pm_R_lo pm_M22 (pc_q := 10) rfl rfl rfl ?_
      refine pm_R_op pm_M22 (pc_q := 13) (st_q := [.int 600, .int x2_1193]) rfl rfl rfl ?_
      refine pm_R_icmp pm_M22 (t := 53) (pc_q := 16) rfl rfl rfl (fun c1211 => ?_) (fun c1211 => ?_)
      · have B1212 : sf_B 600 600 x2_1193 := sf_leR c1211 sf_k600 Bx2_1193
        refine pm_R_op pm_M22 (pc_q := 54) (st_q := [.int 1]) rfl rfl rfl ?_
        exact pm_R_ret pm_M22 (r := some (.int 1)) rfl rfl (K 1 m_1193 h_1193 T_1193 F_1193 W1196 (fun z => ⟨_, _, e1201, e1204, (X_1193.1.at (cl_aux67 _ z) e1201 e1204).keep rfl rfl rfl rfl⟩) ⟨_, e1198, b1199⟩ (sf_weak sf_k1 (by decide) (by decide)))
      · have B1213 : sf_B 0 599 x2_1193 := sf_ltL (Int32.not_le.mp c1211) Bx2_1193 sf_k600
        refine pm_R_lo pm_M22 (pc_q := 17) rfl rfl rfl ?_
        refine pm_R_get pm_M22 (pc_q := 20) (v := .ref 30) rfl rfl T_1193.e25 (by decide) (T_1193.lt (by decide)) rfl rfl ?_
        have B1214 : sf_B 0 4 (m_1193 12) := T_1193.B 12
        refine pm_R_get pm_M22 (pc_q := 23) (v := .int (m_1193 12)) rfl rfl T_1193.e30 (by decide) (T_1193.lt (by decide)) rfl rfl ?_
        refine pm_R_ifc pm_M22 (t := 53) (pc_q := 26) rfl rfl rfl (fun c1215 => ?_) (fun c1215 => ?_)
        · have B1216 : sf_B 0 0 (m_1193 12) := sf_eqL c1215 sf_k0
          refine pm_R_op pm_M22 (pc_q := 54) (st_q := [.int 1]) rfl rfl rfl ?_
          exact pm_R_ret pm_M22 (r := some (.int 1)) rfl rfl (K 1 m_1193 h_1193 T_1193 F_1193 W1196 (fun z => ⟨_, _, e1201, e1204, (X_1193.1.at (cl_aux67 _ z) e1201 e1204).keep rfl rfl rfl rfl⟩) ⟨_, e1198, b1199⟩ (sf_weak sf_k1 (by decide) (by decide)))
        · have B1217 : sf_B 1 4 (m_1193 12) := sf_neL0 c1215 sf_k0 B1214
          refine pm_R_lo pm_M22 (pc_q := 27) rfl rfl rfl ?_
          refine pm_R_lo pm_M22 (pc_q := 28) rfl rfl rfl ?_
          refine pm_R_lo pm_M22 (pc_q := 29) rfl rfl rfl ?_
          refine pm_R_cv pm_M22 (pc_q := 32) (a := 25) (ra := [.int 2]) (rest := [.ref 25]) (ls_q := [.ref 25, .int 2, pm_no]) rfl rfl (Or.inl rfl) pm_M23 T_1193.e25 rfl (by decide) (T_1193.lt (by decide)) rfl rfl (Nat.le_of_ble_eq_true rfl) rfl rfl ?_
          refine pm_R_lo pm_M23 (pc_q := 1) rfl rfl rfl ?_
          refine pm_R_br pm_M23 (pc_q := 51) (st_q := []) rfl rfl ?_
          refine pm_R_lo pm_M23 (pc_q := 52) rfl rfl rfl ?_
          refine pm_R_get pm_M23 (pc_q := 55) (v := .ref 30) rfl rfl T_1193.e25 (by decide) (T_1193.lt (by decide)) rfl rfl ?_
          refine cl_R_sldc pm_M23 (pc_q := 57) (v := .ref 8) rfl rfl rfl rfl ?_
          refine pm_R_cv pm_M23 (pc_q := 60) (a := 30) (ra := [.ref 8]) (rest := []) (ls_q := [.ref 30, .ref 8, pm_no, pm_no, pm_no]) rfl rfl (Or.inl rfl) pm_M24 T_1193.e30 rfl (by decide) (T_1193.lt (by decide)) rfl rfl (Nat.le_of_ble_eq_true rfl) rfl rfl ?_
          refine cl_c24_8 (d := d + 0) G T_1193  (fun r1218 B1219 => ?_)
          show pm_R _ 23 60 [.ref 25, .int 2, pm_no] [.int r1218] _ _
          refine pm_R_lo pm_M23 (pc_q := 61) (ls_q := [.ref 25, .int 2, .int r1218]) (st_q := []) rfl rfl rfl ?_
          refine pm_R_lo pm_M23 (pc_q := 62) rfl rfl rfl ?_
          refine pm_R_op pm_M23 (pc_q := 63) (st_q := [.int (-1), .int r1218]) rfl rfl rfl ?_
          refine pm_R_icmp pm_M23 (t := 70) (pc_q := 66) rfl rfl rfl (fun c1225 => ?_) (fun c1225 => ?_)
          · have B1226 : sf_B 0 3 r1218 := sf_neL0 c1225 sf_kn1 B1219
            refine pm_R_op pm_M23 (pc_q := 71) (st_q := [.int 3]) rfl rfl rfl ?_
            refine pm_R_lo pm_M23 (pc_q := 72) rfl rfl rfl ?_
            refine sf_R_iadd pm_M23 (pc_q := 73) rfl rfl sf_k3 B1226 (by decide) (by decide) (fun z1227 e1228 B1229 => ?_)
            refine pm_R_ret pm_M23 (r := some (.int z1227)) rfl (pm_ret_i _) ?_
            show pm_R _ 22 32 [.ref 25, .int 2, .int x2_1193] [.int z1227, .ref 25] _ _
            refine pm_R_cv pm_M22 (pc_q := 35) (a := 25) (ra := [.int z1227]) (rest := []) (ls_q := [.ref 25, .int z1227, pm_no]) rfl rfl (Or.inl rfl) pm_M37 T_1193.e25 rfl (by decide) (T_1193.lt (by decide)) rfl rfl (Nat.le_of_ble_eq_true rfl) rfl rfl ?_
            by_cases c1230 : z1227 = 3
            · rw [c1230]
              refine cl_c37_3 (d := d + 0) G T_1193 (fun z => ⟨_, _, e1201, e1204, (X_1193.1.at (cl_aux67 _ z) e1201 e1204).keep rfl rfl rfl rfl⟩) ⟨_, e1198, b1199⟩ (fun r1231 m1233 h1234 T1235 F1236 W1237 X1238 X1239 B1232 => ?_)
              have F1240 := F_1193.trans (N := 0) (S := 0) F1236 (by decide) (by decide) (by decide)
              have W1241 : rf_W [3, 4, 5, 6, 7, 8, 10, 11, 12, 13] m m1233 := W1196.trans W1237 (by decide)
              have W1242 : rf_W [3, 4, 5, 6, 7, 8, 10, 11, 12, 13] m17 m1233 := W_1193.trans W1237 (by decide)
              have B1243 : sf_B 0 4 (m1233 3) := T1235.B 3
              have B1244 : sf_B 0 50 (m1233 5) := T1235.B 5
              have B1245 : sf_B 0 16 (m1233 6) := T1235.B 6
              have B1246 : sf_B 0 99 (m1233 7) := T1235.B 7
              have B1247 : sf_B (-1) 99 (m1233 8) := T1235.B 8
              show pm_R _ 22 35 [.ref 25, .int 2, .int x2_1193] [.int r1231] _ _
              obtain ⟨f1248, e1249, b1250⟩ := X1239
              have e1251 := (F1236.cell G (by decide) (by decide) e1201)
              have e1252 := (F1236.cell G (by decide) (by decide) e1204)
              refine pm_R_ifc pm_M22 (t := 40) (pc_q := 38) rfl rfl rfl (fun c1253 => ?_) (fun c1253 => ?_)
              · have B1254 : sf_B 1 1 r1231 := sf_neL0 c1253 sf_k0 B1232
                refine pm_R_lo pm_M22 (pc_q := 41) rfl rfl rfl ?_
                refine pm_R_get pm_M22 (pc_q := 44) (v := .ref 30) rfl rfl T1235.e25 (by decide) (T1235.lt (by decide)) rfl rfl ?_
                refine pm_R_cv pm_M22 (pc_q := 47) (a := 30) (ra := []) (rest := []) (ls_q := [.ref 30]) rfl rfl (Or.inl rfl) pm_M16 T1235.e30 rfl (by decide) (T1235.lt (by decide)) rfl rfl (Nat.le_of_ble_eq_true rfl) rfl rfl ?_
                refine cl_c16 (d := d + 5) G T1235  (fun m1257 h1258 T1259 F1260 W1261 => ?_)
                have F1262 := F1240.trans (N := 0) (S := 0) F1260 (by decide) (by decide) (by decide)
                have B1263 : sf_B 0 4 (m1257 3) := by rw [W1261 3 (by decide)]; exact B1243
                have ek1264 : (m1257 3).toInt = ((m1233 3)).toInt := by rw [W1261 3 (by decide)]
                have B1265 : sf_B 0 50 (m1257 5) := by rw [W1261 5 (by decide)]; exact B1244
                have ek1266 : (m1257 5).toInt = ((m1233 5)).toInt := by rw [W1261 5 (by decide)]
                have B1267 : sf_B 0 16 (m1257 6) := by rw [W1261 6 (by decide)]; exact B1245
                have ek1268 : (m1257 6).toInt = ((m1233 6)).toInt := by rw [W1261 6 (by decide)]
                have B1269 : sf_B 0 99 (m1257 7) := by rw [W1261 7 (by decide)]; exact B1246
                have ek1270 : (m1257 7).toInt = ((m1233 7)).toInt := by rw [W1261 7 (by decide)]
                have B1271 : sf_B (-1) 99 (m1257 8) := by rw [W1261 8 (by decide)]; exact B1247
                have ek1272 : (m1257 8).toInt = ((m1233 8)).toInt := by rw [W1261 8 (by decide)]
                have W1273 : rf_W [3, 4, 5, 6, 7, 8, 10, 11, 12, 13] m m1257 := W1241.trans W1261 (by decide)
                have W1274 : rf_W [3, 4, 5, 6, 7, 8, 10, 11, 12, 13] m17 m1257 := W1242.trans W1261 (by decide)
                show pm_R _ 22 47 [.ref 25, .int 2, .int x2_1193] [] _ _
                refine sf_R_iinc pm_M22 (pc_q := 50) (ls_q := fun z => [.ref 25, .int 2, .int z]) rfl B1213 rfl (by decide) (by decide) (by decide) (fun _ => rfl) rfl (fun z1275 e1276 B1277 => ?_)
                show pm_R _ 22 50 [.ref 25, .int 2, .int z1275] [] _ _
                refine pm_R_br pm_M22 (pc_q := 9) rfl rfl ?_
                have e1278 := (F1260.cell G (by decide) (by decide) e1251)
                have e1279 := (F1260.cell G (by decide) (by decide) e1252)
                have e1280 := (F1260.cell G (by decide) (by decide) e1249)
                exact ih_1193 _ (sf_up hN_1193 e1276 B1213 (by decide) (by decide)) h1258 m1257 z1275 T1259 F1262 W1274 (sf_weak B1277 (by decide) (by decide)) ⟨(fun z => ⟨_, _, e1278, e1279, (X1238.at (cl_aux68 _ _ ek1264 z) e1251 e1252).keep (cl_aux3 _ _ ek1266) (cl_aux3 _ _ ek1268) (cl_aux3 _ _ ek1270) (cl_aux3 _ _ ek1272)⟩), ⟨_, e1280, b1250⟩⟩ rfl
              · have B1281 : sf_B 0 0 r1231 := sf_eqL (Classical.not_not.mp c1253) sf_k0
                refine pm_R_op pm_M22 (pc_q := 39) (st_q := [.int 0]) rfl rfl rfl ?_
                exact pm_R_ret pm_M22 (r := some (.int 0)) rfl rfl (K 0 m1233 h1234 T1235 F1240 W1241 (fun z => ⟨_, _, e1251, e1252, (X1238.at (cl_aux67 _ z) e1251 e1252).keep rfl rfl rfl rfl⟩) ⟨_, e1249, b1250⟩ (sf_weak sf_k0 (by decide) (by decide)))
            have B1282 : sf_B 4 6 z1227 := sf_neL0 c1230 sf_k3 B1229
            by_cases c1283 : z1227 = 4
            · rw [c1283]
              refine cl_c37_4 (d := d + 0) G T_1193 (fun z => ⟨_, _, e1201, e1204, (X_1193.1.at (cl_aux67 _ z) e1201 e1204).keep rfl rfl rfl rfl⟩) ⟨_, e1198, b1199⟩ (fun r1284 m1286 h1287 T1288 F1289 W1290 X1291 X1292 B1285 => ?_)
              have F1293 := F_1193.trans (N := 0) (S := 0) F1289 (by decide) (by decide) (by decide)
              have W1294 : rf_W [3, 4, 5, 6, 7, 8, 10, 11, 12, 13] m m1286 := W1196.trans W1290 (by decide)
              have W1295 : rf_W [3, 4, 5, 6, 7, 8, 10, 11, 12, 13] m17 m1286 := W_1193.trans W1290 (by decide)
              have B1296 : sf_B 0 4 (m1286 3) := T1288.B 3
              have B1297 : sf_B 0 50 (m1286 5) := T1288.B 5
              have B1298 : sf_B 0 16 (m1286 6) := T1288.B 6
              have B1299 : sf_B 0 99 (m1286 7) := T1288.B 7
              have B1300 : sf_B (-1) 99 (m1286 8) := T1288.B 8
              show pm_R _ 22 35 [.ref 25, .int 2, .int x2_1193] [.int r1284] _ _
              obtain ⟨f1301, e1302, b1303⟩ := X1292
              obtain ⟨f1304, e1305⟩ := T1288.C 26 (by decide) (by decide)
              have e1307 := (F1289.cell G (by decide) (by decide) e1204)
              refine pm_R_ifc pm_M22 (t := 40) (pc_q := 38) rfl rfl rfl (fun c1308 => ?_) (fun c1308 => ?_)
              · have B1309 : sf_B 1 1 r1284 := sf_neL0 c1308 sf_k0 B1285
                refine pm_R_lo pm_M22 (pc_q := 41) rfl rfl rfl ?_
                refine pm_R_get pm_M22 (pc_q := 44) (v := .ref 30) rfl rfl T1288.e25 (by decide) (T1288.lt (by decide)) rfl rfl ?_
                refine pm_R_cv pm_M22 (pc_q := 47) (a := 30) (ra := []) (rest := []) (ls_q := [.ref 30]) rfl rfl (Or.inl rfl) pm_M16 T1288.e30 rfl (by decide) (T1288.lt (by decide)) rfl rfl (Nat.le_of_ble_eq_true rfl) rfl rfl ?_
                refine cl_c16 (d := d + 5) G T1288  (fun m1312 h1313 T1314 F1315 W1316 => ?_)
                have F1317 := F1293.trans (N := 0) (S := 0) F1315 (by decide) (by decide) (by decide)
                have B1318 : sf_B 0 4 (m1312 3) := by rw [W1316 3 (by decide)]; exact B1296
                have ek1319 : (m1312 3).toInt = ((m1286 3)).toInt := by rw [W1316 3 (by decide)]
                have B1320 : sf_B 0 50 (m1312 5) := by rw [W1316 5 (by decide)]; exact B1297
                have ek1321 : (m1312 5).toInt = ((m1286 5)).toInt := by rw [W1316 5 (by decide)]
                have B1322 : sf_B 0 16 (m1312 6) := by rw [W1316 6 (by decide)]; exact B1298
                have ek1323 : (m1312 6).toInt = ((m1286 6)).toInt := by rw [W1316 6 (by decide)]
                have B1324 : sf_B 0 99 (m1312 7) := by rw [W1316 7 (by decide)]; exact B1299
                have ek1325 : (m1312 7).toInt = ((m1286 7)).toInt := by rw [W1316 7 (by decide)]
                have B1326 : sf_B (-1) 99 (m1312 8) := by rw [W1316 8 (by decide)]; exact B1300
                have ek1327 : (m1312 8).toInt = ((m1286 8)).toInt := by rw [W1316 8 (by decide)]
                have W1328 : rf_W [3, 4, 5, 6, 7, 8, 10, 11, 12, 13] m m1312 := W1294.trans W1316 (by decide)
                have W1329 : rf_W [3, 4, 5, 6, 7, 8, 10, 11, 12, 13] m17 m1312 := W1295.trans W1316 (by decide)
                show pm_R _ 22 47 [.ref 25, .int 2, .int x2_1193] [] _ _
                refine sf_R_iinc pm_M22 (pc_q := 50) (ls_q := fun z => [.ref 25, .int 2, .int z]) rfl B1213 rfl (by decide) (by decide) (by decide) (fun _ => rfl) rfl (fun z1330 e1331 B1332 => ?_)
                show pm_R _ 22 50 [.ref 25, .int 2, .int z1330] [] _ _
                refine pm_R_br pm_M22 (pc_q := 9) rfl rfl ?_
                have e1333 := (F1315.cell G (by decide) (by decide) e1305)
                have e1334 := (F1315.cell G (by decide) (by decide) e1307)
                have e1335 := (F1315.cell G (by decide) (by decide) e1302)
                exact ih_1193 _ (sf_up hN_1193 e1331 B1213 (by decide) (by decide)) h1313 m1312 z1330 T1314 F1317 W1329 (sf_weak B1332 (by decide) (by decide)) ⟨(fun z => ⟨_, _, e1333, e1334, (X1291.at (cl_aux68 _ _ ek1319 z) e1305 e1307).keep (cl_aux3 _ _ ek1321) (cl_aux3 _ _ ek1323) (cl_aux3 _ _ ek1325) (cl_aux3 _ _ ek1327)⟩), ⟨_, e1335, b1303⟩⟩ rfl
              · have B1336 : sf_B 0 0 r1284 := sf_eqL (Classical.not_not.mp c1308) sf_k0
                refine pm_R_op pm_M22 (pc_q := 39) (st_q := [.int 0]) rfl rfl rfl ?_
                exact pm_R_ret pm_M22 (r := some (.int 0)) rfl rfl (K 0 m1286 h1287 T1288 F1293 W1294 (fun z => ⟨_, _, e1305, e1307, (X1291.at (cl_aux67 _ z) e1305 e1307).keep rfl rfl rfl rfl⟩) ⟨_, e1302, b1303⟩ (sf_weak sf_k0 (by decide) (by decide)))
            have B1337 : sf_B 5 6 z1227 := sf_neL0 c1283 sf_k4 B1282
            by_cases c1338 : z1227 = 5
            · rw [c1338]
              refine cl_c37_5 (d := d + 0) G T_1193 (fun z => ⟨_, _, e1201, e1204, (X_1193.1.at (cl_aux67 _ z) e1201 e1204).keep rfl rfl rfl rfl⟩) ⟨_, e1198, b1199⟩ (fun r1339 m1341 h1342 T1343 F1344 W1345 X1346 X1347 B1340 => ?_)
              have F1348 := F_1193.trans (N := 0) (S := 0) F1344 (by decide) (by decide) (by decide)
              have W1349 : rf_W [3, 4, 5, 6, 7, 8, 10, 11, 12, 13] m m1341 := W1196.trans W1345 (by decide)
              have W1350 : rf_W [3, 4, 5, 6, 7, 8, 10, 11, 12, 13] m17 m1341 := W_1193.trans W1345 (by decide)
              have B1351 : sf_B 0 4 (m1341 3) := T1343.B 3
              have B1352 : sf_B 0 50 (m1341 5) := T1343.B 5
              have B1353 : sf_B 0 16 (m1341 6) := T1343.B 6
              have B1354 : sf_B 0 99 (m1341 7) := T1343.B 7
              have B1355 : sf_B (-1) 99 (m1341 8) := T1343.B 8
              show pm_R _ 22 35 [.ref 25, .int 2, .int x2_1193] [.int r1339] _ _
              obtain ⟨f1356, e1357, b1358⟩ := X1347
              obtain ⟨f1359, e1360⟩ := T1343.C 26 (by decide) (by decide)
              have e1362 := (F1344.cell G (by decide) (by decide) e1204)
              refine pm_R_ifc pm_M22 (t := 40) (pc_q := 38) rfl rfl rfl (fun c1363 => ?_) (fun c1363 => ?_)
              · have B1364 : sf_B 1 1 r1339 := sf_neL0 c1363 sf_k0 B1340
                refine pm_R_lo pm_M22 (pc_q := 41) rfl rfl rfl ?_
                refine pm_R_get pm_M22 (pc_q := 44) (v := .ref 30) rfl rfl T1343.e25 (by decide) (T1343.lt (by decide)) rfl rfl ?_
                refine pm_R_cv pm_M22 (pc_q := 47) (a := 30) (ra := []) (rest := []) (ls_q := [.ref 30]) rfl rfl (Or.inl rfl) pm_M16 T1343.e30 rfl (by decide) (T1343.lt (by decide)) rfl rfl (Nat.le_of_ble_eq_true rfl) rfl rfl ?_
                refine cl_c16 (d := d + 5) G T1343  (fun m1367 h1368 T1369 F1370 W1371 => ?_)
                have F1372 := F1348.trans (N := 0) (S := 0) F1370 (by decide) (by decide) (by decide)
                have B1373 : sf_B 0 4 (m1367 3) := by rw [W1371 3 (by decide)]; exact B1351
                have ek1374 : (m1367 3).toInt = ((m1341 3)).toInt := by rw [W1371 3 (by decide)]
                have B1375 : sf_B 0 50 (m1367 5) := by rw [W1371 5 (by decide)]; exact B1352
                have ek1376 : (m1367 5).toInt = ((m1341 5)).toInt := by rw [W1371 5 (by decide)]
                have B1377 : sf_B 0 16 (m1367 6) := by rw [W1371 6 (by decide)]; exact B1353
                have ek1378 : (m1367 6).toInt = ((m1341 6)).toInt := by rw [W1371 6 (by decide)]
                have B1379 : sf_B 0 99 (m1367 7) := by rw [W1371 7 (by decide)]; exact B1354
                have ek1380 : (m1367 7).toInt = ((m1341 7)).toInt := by rw [W1371 7 (by decide)]
                have B1381 : sf_B (-1) 99 (m1367 8) := by rw [W1371 8 (by decide)]; exact B1355
                have ek1382 : (m1367 8).toInt = ((m1341 8)).toInt := by rw [W1371 8 (by decide)]
                have W1383 : rf_W [3, 4, 5, 6, 7, 8, 10, 11, 12, 13] m m1367 := W1349.trans W1371 (by decide)
                have W1384 : rf_W [3, 4, 5, 6, 7, 8, 10, 11, 12, 13] m17 m1367 := W1350.trans W1371 (by decide)
                show pm_R _ 22 47 [.ref 25, .int 2, .int x2_1193] [] _ _
                refine sf_R_iinc pm_M22 (pc_q := 50) (ls_q := fun z => [.ref 25, .int 2, .int z]) rfl B1213 rfl (by decide) (by decide) (by decide) (fun _ => rfl) rfl (fun z1385 e1386 B1387 => ?_)
                show pm_R _ 22 50 [.ref 25, .int 2, .int z1385] [] _ _
                refine pm_R_br pm_M22 (pc_q := 9) rfl rfl ?_
                have e1388 := (F1370.cell G (by decide) (by decide) e1360)
                have e1389 := (F1370.cell G (by decide) (by decide) e1362)
                have e1390 := (F1370.cell G (by decide) (by decide) e1357)
                exact ih_1193 _ (sf_up hN_1193 e1386 B1213 (by decide) (by decide)) h1368 m1367 z1385 T1369 F1372 W1384 (sf_weak B1387 (by decide) (by decide)) ⟨(fun z => ⟨_, _, e1388, e1389, (X1346.at (cl_aux68 _ _ ek1374 z) e1360 e1362).keep (cl_aux3 _ _ ek1376) (cl_aux3 _ _ ek1378) (cl_aux3 _ _ ek1380) (cl_aux3 _ _ ek1382)⟩), ⟨_, e1390, b1358⟩⟩ rfl
              · have B1391 : sf_B 0 0 r1339 := sf_eqL (Classical.not_not.mp c1363) sf_k0
                refine pm_R_op pm_M22 (pc_q := 39) (st_q := [.int 0]) rfl rfl rfl ?_
                exact pm_R_ret pm_M22 (r := some (.int 0)) rfl rfl (K 0 m1341 h1342 T1343 F1348 W1349 (fun z => ⟨_, _, e1360, e1362, (X1346.at (cl_aux67 _ z) e1360 e1362).keep rfl rfl rfl rfl⟩) ⟨_, e1357, b1358⟩ (sf_weak sf_k0 (by decide) (by decide)))
            have B1392 : sf_B 6 6 z1227 := sf_neL0 c1338 sf_k5 B1337
            rw [sf_pt2 B1392 sf_k6]
            refine cl_c37_6 (d := d + 0) G T_1193 (fun z => ⟨_, _, e1201, e1204, (X_1193.1.at (cl_aux67 _ z) e1201 e1204).keep rfl rfl rfl rfl⟩) ⟨_, e1198, b1199⟩ (fun r1393 m1395 h1396 T1397 F1398 W1399 X1400 X1401 B1394 => ?_)
            have F1402 := F_1193.trans (N := 0) (S := 0) F1398 (by decide) (by decide) (by decide)
            have W1403 : rf_W [3, 4, 5, 6, 7, 8, 10, 11, 12, 13] m m1395 := W1196.trans W1399 (by decide)
            have W1404 : rf_W [3, 4, 5, 6, 7, 8, 10, 11, 12, 13] m17 m1395 := W_1193.trans W1399 (by decide)
            have B1405 : sf_B 0 4 (m1395 3) := T1397.B 3
            have B1406 : sf_B 0 50 (m1395 5) := T1397.B 5
            have B1407 : sf_B 0 16 (m1395 6) := T1397.B 6
            have B1408 : sf_B 0 99 (m1395 7) := T1397.B 7
            have B1409 : sf_B (-1) 99 (m1395 8) := T1397.B 8
            show pm_R _ 22 35 [.ref 25, .int 2, .int x2_1193] [.int r1393] _ _
            obtain ⟨f1410, e1411, b1412⟩ := X1401
            obtain ⟨f1413, e1414⟩ := T1397.C 26 (by decide) (by decide)
            have e1416 := (F1398.cell G (by decide) (by decide) e1204)
            refine pm_R_ifc pm_M22 (t := 40) (pc_q := 38) rfl rfl rfl (fun c1417 => ?_) (fun c1417 => ?_)
            · have B1418 : sf_B 1 1 r1393 := sf_neL0 c1417 sf_k0 B1394
              refine pm_R_lo pm_M22 (pc_q := 41) rfl rfl rfl ?_
              refine pm_R_get pm_M22 (pc_q := 44) (v := .ref 30) rfl rfl T1397.e25 (by decide) (T1397.lt (by decide)) rfl rfl ?_
              refine pm_R_cv pm_M22 (pc_q := 47) (a := 30) (ra := []) (rest := []) (ls_q := [.ref 30]) rfl rfl (Or.inl rfl) pm_M16 T1397.e30 rfl (by decide) (T1397.lt (by decide)) rfl rfl (Nat.le_of_ble_eq_true rfl) rfl rfl ?_
              refine cl_c16 (d := d + 5) G T1397  (fun m1421 h1422 T1423 F1424 W1425 => ?_)
              have F1426 := F1402.trans (N := 0) (S := 0) F1424 (by decide) (by decide) (by decide)
              have B1427 : sf_B 0 4 (m1421 3) := by rw [W1425 3 (by decide)]; exact B1405
              have ek1428 : (m1421 3).toInt = ((m1395 3)).toInt := by rw [W1425 3 (by decide)]
              have B1429 : sf_B 0 50 (m1421 5) := by rw [W1425 5 (by decide)]; exact B1406
              have ek1430 : (m1421 5).toInt = ((m1395 5)).toInt := by rw [W1425 5 (by decide)]
              have B1431 : sf_B 0 16 (m1421 6) := by rw [W1425 6 (by decide)]; exact B1407
              have ek1432 : (m1421 6).toInt = ((m1395 6)).toInt := by rw [W1425 6 (by decide)]
              have B1433 : sf_B 0 99 (m1421 7) := by rw [W1425 7 (by decide)]; exact B1408
              have ek1434 : (m1421 7).toInt = ((m1395 7)).toInt := by rw [W1425 7 (by decide)]
              have B1435 : sf_B (-1) 99 (m1421 8) := by rw [W1425 8 (by decide)]; exact B1409
              have ek1436 : (m1421 8).toInt = ((m1395 8)).toInt := by rw [W1425 8 (by decide)]
              have W1437 : rf_W [3, 4, 5, 6, 7, 8, 10, 11, 12, 13] m m1421 := W1403.trans W1425 (by decide)
              have W1438 : rf_W [3, 4, 5, 6, 7, 8, 10, 11, 12, 13] m17 m1421 := W1404.trans W1425 (by decide)
              show pm_R _ 22 47 [.ref 25, .int 2, .int x2_1193] [] _ _
              refine sf_R_iinc pm_M22 (pc_q := 50) (ls_q := fun z => [.ref 25, .int 2, .int z]) rfl B1213 rfl (by decide) (by decide) (by decide) (fun _ => rfl) rfl (fun z1439 e1440 B1441 => ?_)
              show pm_R _ 22 50 [.ref 25, .int 2, .int z1439] [] _ _
              refine pm_R_br pm_M22 (pc_q := 9) rfl rfl ?_
              have e1442 := (F1424.cell G (by decide) (by decide) e1414)
              have e1443 := (F1424.cell G (by decide) (by decide) e1416)
              have e1444 := (F1424.cell G (by decide) (by decide) e1411)
              exact ih_1193 _ (sf_up hN_1193 e1440 B1213 (by decide) (by decide)) h1422 m1421 z1439 T1423 F1426 W1438 (sf_weak B1441 (by decide) (by decide)) ⟨(fun z => ⟨_, _, e1442, e1443, (X1400.at (cl_aux68 _ _ ek1428 z) e1414 e1416).keep (cl_aux3 _ _ ek1430) (cl_aux3 _ _ ek1432) (cl_aux3 _ _ ek1434) (cl_aux3 _ _ ek1436)⟩), ⟨_, e1444, b1412⟩⟩ rfl
            · have B1445 : sf_B 0 0 r1393 := sf_eqL (Classical.not_not.mp c1417) sf_k0
              refine pm_R_op pm_M22 (pc_q := 39) (st_q := [.int 0]) rfl rfl rfl ?_
              exact pm_R_ret pm_M22 (r := some (.int 0)) rfl rfl (K 0 m1395 h1396 T1397 F1402 W1403 (fun z => ⟨_, _, e1414, e1416, (X1400.at (cl_aux67 _ z) e1414 e1416).keep rfl rfl rfl rfl⟩) ⟨_, e1411, b1412⟩ (sf_weak sf_k0 (by decide) (by decide)))
          · have B1446 : sf_B (-1) (-1) r1218 := sf_eqL (Classical.not_not.mp c1225) sf_kn1
            refine pm_R_op pm_M23 (pc_q := 67) (st_q := [.int (-1)]) rfl rfl rfl ?_
            refine pm_R_br pm_M23 (pc_q := 73) rfl rfl ?_
            refine pm_R_ret pm_M23 (r := some (.int (-1))) rfl rfl ?_
            show pm_R _ 22 32 [.ref 25, .int 2, .int x2_1193] [.int (-1), .ref 25] _ _
            refine pm_R_cv pm_M22 (pc_q := 35) (a := 25) (ra := [.int (-1)]) (rest := []) (ls_q := [.ref 25, .int (-1), pm_no]) rfl rfl (Or.inl rfl) pm_M37 T_1193.e25 rfl (by decide) (T_1193.lt (by decide)) rfl rfl (Nat.le_of_ble_eq_true rfl) rfl rfl ?_
            show pm_R _ 37 0 [.ref 25, .int (-1), pm_no] [] _ _
            refine pm_R_lo pm_M37 (pc_q := 1) rfl rfl rfl ?_
            refine pm_R_op pm_M37 (pc_q := 2) (st_q := [.int (-1), .int (-1)]) rfl rfl rfl ?_
            refine pm_R_br pm_M37 (pc_q := 5) (st_q := []) rfl rfl ?_
            refine pm_R_op pm_M37 (pc_q := 6) (st_q := [.int 0]) rfl rfl rfl ?_
            refine pm_R_ret pm_M37 (r := some (.int 0)) rfl rfl ?_
            show pm_R _ 22 35 [.ref 25, .int 2, .int x2_1193] [.int 0] _ _
            refine pm_R_br pm_M22 (pc_q := 38) (st_q := []) rfl rfl ?_
            refine pm_R_op pm_M22 (pc_q := 39) (st_q := [.int 0]) rfl rfl rfl ?_
            exact pm_R_ret pm_M22 (r := some (.int 0)) rfl rfl (K 0 m_1193 h_1193 T_1193 F_1193 W1196 (fun z => ⟨_, _, e1201, e1204, (X_1193.1.at (cl_aux67 _ z) e1201 e1204).keep rfl rfl rfl rfl⟩) ⟨_, e1198, b1199⟩ (sf_weak sf_k0 (by decide) (by decide)))
  have e1447 := (F20.cell G (by decide) (by decide) e5)
  have e1448 := (F20.cell G (by decide) (by decide) e8)
  have e1449 := (F20.cell G (by decide) (by decide) e2)
  exact L_1193 _ h18 m17 0 T19 F22 (rf_W.refl _ _) (sf_weak sf_k0 (by decide) (by decide)) ⟨(fun z => ⟨_, _, e1447, e1448, (R.at (cl_aux68 _ _ ek24 z) e5 e8).keep (cl_aux3 _ _ ek26) (cl_aux3 _ _ ek28) (cl_aux3 _ _ ek30) (cl_aux3 _ _ ek32)⟩), ⟨_, e1449, b3⟩⟩ rfl

set_option maxRecDepth 100000 in
set_option maxHeartbeats 4000000 in
/-- SilentTable$TextReader.readLines -/
theorem cl_c22_3 {d : Nat} {ck : cl_K} {E : Nat → pm_E} {m : Nat → Int32} {o : Nat → Option Nat} {h : pm_H} {Q : Option Value → pm_H → Prop}  (G : cl_G ck E) (T : cl_T ck E m o h) (R : cl_Rd 3 m h) (Y : cl_Y h) (K : ∀ (r : Int32) (m_q : Nat → Int32) (h_q : pm_H), cl_T ck E m_q o h_q → cl_F ck [25, 26, 29, 30] 0 0 h h_q → rf_W [3, 4, 5, 6, 7, 8, 10, 11, 12, 13] m m_q → cl_Rd 3 m_q h_q → cl_Y h_q → sf_B 0 1 r → Q (some (.int r)) h_q) : pm_R (d + 8) 22 0 [.ref 25, .int 3, pm_no] [] h Q := by
  obtain ⟨f1, e2, b3⟩ := id Y
  obtain ⟨f4, e5⟩ := T.C 26 (by decide) (by decide)
  obtain ⟨f7, e8⟩ := T.C 27 (by decide) (by decide)
  have B10 : sf_B 0 4 (m 3) := T.B 3
  have B11 : sf_B 0 50 (m 5) := T.B 5
  have B12 : sf_B 0 16 (m 6) := T.B 6
  have B13 : sf_B 0 99 (m 7) := T.B 7
  have B14 : sf_B (-1) 99 (m 8) := T.B 8
  refine pm_R_lo pm_M22 (pc_q := 1) rfl rfl rfl ?_
  refine pm_R_get pm_M22 (pc_q := 4) (v := .ref 30) rfl rfl T.e25 (by decide) (T.lt (by decide)) rfl rfl ?_
  refine pm_R_cv pm_M22 (pc_q := 7) (a := 30) (ra := []) (rest := []) (ls_q := [.ref 30]) rfl rfl (Or.inl rfl) pm_M16 T.e30 rfl (by decide) (T.lt (by decide)) rfl rfl (Nat.le_of_ble_eq_true rfl) rfl rfl ?_
  refine cl_c16 (d := d + 5) G T  (fun m17 h18 T19 F20 W21 => ?_)
  have F22 := (cl_F.refl (ck := ck) (A := [25, 26, 29, 30]) (n := 0) (s := 0) T.1).trans (N := 0) (S := 0) F20 (by decide) (by decide) (by decide)
  have B23 : sf_B 0 4 (m17 3) := by rw [W21 3 (by decide)]; exact B10
  have ek24 : (m17 3).toInt = ((m 3)).toInt := by rw [W21 3 (by decide)]
  have B25 : sf_B 0 50 (m17 5) := by rw [W21 5 (by decide)]; exact B11
  have ek26 : (m17 5).toInt = ((m 5)).toInt := by rw [W21 5 (by decide)]
  have B27 : sf_B 0 16 (m17 6) := by rw [W21 6 (by decide)]; exact B12
  have ek28 : (m17 6).toInt = ((m 6)).toInt := by rw [W21 6 (by decide)]
  have B29 : sf_B 0 99 (m17 7) := by rw [W21 7 (by decide)]; exact B13
  have ek30 : (m17 7).toInt = ((m 7)).toInt := by rw [W21 7 (by decide)]
  have B31 : sf_B (-1) 99 (m17 8) := by rw [W21 8 (by decide)]; exact B14
  have ek32 : (m17 8).toInt = ((m 8)).toInt := by rw [W21 8 (by decide)]
  have W33 : rf_W [3, 4, 5, 6, 7, 8, 10, 11, 12, 13] m m17 := (rf_W.refl [3, 4, 5, 6, 7, 8, 10, 11, 12, 13] m).trans W21 (by decide)
  show pm_R _ 22 7 [.ref 25, .int 3, pm_no] [] _ _
  refine pm_R_op pm_M22 (pc_q := 8) (st_q := [.int 0]) rfl rfl rfl ?_
  refine pm_R_lo pm_M22 (pc_q := 9) (ls_q := [.ref 25, .int 3, .int 0]) (st_q := []) rfl rfl rfl ?_
  have L_1703 : ∀ (N : Nat) (h_1703 : pm_H) (m_1703 : Nat → Int32) (x2_1703 : Int32), cl_T ck E m_1703 o h_1703 → cl_F ck [25, 26, 29, 30] 0 0 h h_1703 → rf_W [3, 4, 5, 6, 7, 8, 10, 11, 12, 13] m17 m_1703 → sf_B 0 600 x2_1703 → (cl_Rd 3 m_1703 h_1703 ∧ cl_Y h_1703) → (600 - x2_1703.toInt).toNat = N → pm_R (d + 8) 22 9 [.ref 25, .int 3, .int x2_1703] [] h_1703 Q := by
    intro N
    induction N using Nat.strongRecOn with
    | ind N ih_1703 =>
      intro h_1703 m_1703 x2_1703 T_1703 F_1703 W_1703 Bx2_1703 X_1703 hN_1703
      have W1706 : rf_W [3, 4, 5, 6, 7, 8, 10, 11, 12, 13] m m_1703 := W33.trans W_1703 (by decide)
      obtain ⟨f1707, e1708, b1709⟩ := id X_1703.2
      obtain ⟨f1710, e1711⟩ := T_1703.C 26 (by decide) (by decide)
      obtain ⟨f1713, e1714⟩ := T_1703.C 27 (by decide) (by decide)
      have B1716 : sf_B 0 4 (m_1703 3) := T_1703.B 3
      have B1717 : sf_B 0 50 (m_1703 5) := T_1703.B 5
      have B1718 : sf_B 0 16 (m_1703 6) := T_1703.B 6
      have B1719 : sf_B 0 99 (m_1703 7) := T_1703.B 7
      have B1720 : sf_B (-1) 99 (m_1703 8) := T_1703.B 8
      refine pm_R_lo pm_M22 (pc_q := 10) rfl rfl rfl ?_
      refine pm_R_op pm_M22 (pc_q := 13) (st_q := [.int 600, .int x2_1703]) rfl rfl rfl ?_
      refine pm_R_icmp pm_M22 (t := 53) (pc_q := 16) rfl rfl rfl (fun c1721 => ?_) (fun c1721 => ?_)
      · have B1722 : sf_B 600 600 x2_1703 := sf_leR c1721 sf_k600 Bx2_1703
        refine pm_R_op pm_M22 (pc_q := 54) (st_q := [.int 1]) rfl rfl rfl ?_
        exact pm_R_ret pm_M22 (r := some (.int 1)) rfl rfl (K 1 m_1703 h_1703 T_1703 F_1703 W1706 (fun z => ⟨_, _, e1711, e1714, (X_1703.1.at (cl_aux67 _ z) e1711 e1714).keep rfl rfl rfl rfl⟩) ⟨_, e1708, b1709⟩ (sf_weak sf_k1 (by decide) (by decide)))
      · have B1723 : sf_B 0 599 x2_1703 := sf_ltL (Int32.not_le.mp c1721) Bx2_1703 sf_k600
        refine pm_R_lo pm_M22 (pc_q := 17) rfl rfl rfl ?_
        refine pm_R_get pm_M22 (pc_q := 20) (v := .ref 30) rfl rfl T_1703.e25 (by decide) (T_1703.lt (by decide)) rfl rfl ?_
        have B1724 : sf_B 0 4 (m_1703 12) := T_1703.B 12
        refine pm_R_get pm_M22 (pc_q := 23) (v := .int (m_1703 12)) rfl rfl T_1703.e30 (by decide) (T_1703.lt (by decide)) rfl rfl ?_
        refine pm_R_ifc pm_M22 (t := 53) (pc_q := 26) rfl rfl rfl (fun c1725 => ?_) (fun c1725 => ?_)
        · have B1726 : sf_B 0 0 (m_1703 12) := sf_eqL c1725 sf_k0
          refine pm_R_op pm_M22 (pc_q := 54) (st_q := [.int 1]) rfl rfl rfl ?_
          exact pm_R_ret pm_M22 (r := some (.int 1)) rfl rfl (K 1 m_1703 h_1703 T_1703 F_1703 W1706 (fun z => ⟨_, _, e1711, e1714, (X_1703.1.at (cl_aux67 _ z) e1711 e1714).keep rfl rfl rfl rfl⟩) ⟨_, e1708, b1709⟩ (sf_weak sf_k1 (by decide) (by decide)))
        · have B1727 : sf_B 1 4 (m_1703 12) := sf_neL0 c1725 sf_k0 B1724
          refine pm_R_lo pm_M22 (pc_q := 27) rfl rfl rfl ?_
          refine pm_R_lo pm_M22 (pc_q := 28) rfl rfl rfl ?_
          refine pm_R_lo pm_M22 (pc_q := 29) rfl rfl rfl ?_
          refine pm_R_cv pm_M22 (pc_q := 32) (a := 25) (ra := [.int 3]) (rest := [.ref 25]) (ls_q := [.ref 25, .int 3, pm_no]) rfl rfl (Or.inl rfl) pm_M23 T_1703.e25 rfl (by decide) (T_1703.lt (by decide)) rfl rfl (Nat.le_of_ble_eq_true rfl) rfl rfl ?_
          refine pm_R_lo pm_M23 (pc_q := 1) rfl rfl rfl ?_
          refine pm_R_br pm_M23 (pc_q := 74) (st_q := []) rfl rfl ?_
          refine pm_R_lo pm_M23 (pc_q := 75) rfl rfl rfl ?_
          refine pm_R_get pm_M23 (pc_q := 78) (v := .ref 30) rfl rfl T_1703.e25 (by decide) (T_1703.lt (by decide)) rfl rfl ?_
          refine cl_R_sldc pm_M23 (pc_q := 80) (v := .ref 9) rfl rfl rfl rfl ?_
          refine pm_R_cv pm_M23 (pc_q := 83) (a := 30) (ra := [.ref 9]) (rest := []) (ls_q := [.ref 30, .ref 9, pm_no, pm_no, pm_no]) rfl rfl (Or.inl rfl) pm_M24 T_1703.e30 rfl (by decide) (T_1703.lt (by decide)) rfl rfl (Nat.le_of_ble_eq_true rfl) rfl rfl ?_
          refine cl_c24_9 (d := d + 0) G T_1703  (fun r1728 B1729 => ?_)
          show pm_R _ 23 83 [.ref 25, .int 3, pm_no] [.int r1728] _ _
          refine pm_R_lo pm_M23 (pc_q := 84) (ls_q := [.ref 25, .int 3, .int r1728]) (st_q := []) rfl rfl rfl ?_
          refine pm_R_lo pm_M23 (pc_q := 85) rfl rfl rfl ?_
          refine pm_R_op pm_M23 (pc_q := 86) (st_q := [.int (-1), .int r1728]) rfl rfl rfl ?_
          refine pm_R_icmp pm_M23 (t := 93) (pc_q := 89) rfl rfl rfl (fun c1735 => ?_) (fun c1735 => ?_)
          · have B1736 : sf_B 0 5 r1728 := sf_neL0 c1735 sf_kn1 B1729
            refine pm_R_op pm_M23 (pc_q := 95) (st_q := [.int 7]) rfl rfl rfl ?_
            refine pm_R_lo pm_M23 (pc_q := 96) rfl rfl rfl ?_
            refine sf_R_iadd pm_M23 (pc_q := 97) rfl rfl sf_k7 B1736 (by decide) (by decide) (fun z1737 e1738 B1739 => ?_)
            refine pm_R_ret pm_M23 (r := some (.int z1737)) rfl (pm_ret_i _) ?_
            show pm_R _ 22 32 [.ref 25, .int 3, .int x2_1703] [.int z1737, .ref 25] _ _
            refine pm_R_cv pm_M22 (pc_q := 35) (a := 25) (ra := [.int z1737]) (rest := []) (ls_q := [.ref 25, .int z1737, pm_no]) rfl rfl (Or.inl rfl) pm_M37 T_1703.e25 rfl (by decide) (T_1703.lt (by decide)) rfl rfl (Nat.le_of_ble_eq_true rfl) rfl rfl ?_
            by_cases c1740 : z1737 = 7
            · rw [c1740]
              refine cl_c37_7 (d := d + 0) G T_1703 (fun z => ⟨_, _, e1711, e1714, (X_1703.1.at (cl_aux67 _ z) e1711 e1714).keep rfl rfl rfl rfl⟩) ⟨_, e1708, b1709⟩ (fun r1741 m1743 h1744 T1745 F1746 W1747 X1748 X1749 B1742 => ?_)
              have F1750 := F_1703.trans (N := 0) (S := 0) F1746 (by decide) (by decide) (by decide)
              have W1751 : rf_W [3, 4, 5, 6, 7, 8, 10, 11, 12, 13] m m1743 := W1706.trans W1747 (by decide)
              have W1752 : rf_W [3, 4, 5, 6, 7, 8, 10, 11, 12, 13] m17 m1743 := W_1703.trans W1747 (by decide)
              have B1753 : sf_B 0 4 (m1743 3) := T1745.B 3
              have B1754 : sf_B 0 50 (m1743 5) := T1745.B 5
              have B1755 : sf_B 0 16 (m1743 6) := T1745.B 6
              have B1756 : sf_B 0 99 (m1743 7) := T1745.B 7
              have B1757 : sf_B (-1) 99 (m1743 8) := T1745.B 8
              show pm_R _ 22 35 [.ref 25, .int 3, .int x2_1703] [.int r1741] _ _
              obtain ⟨f1758, e1759, b1760⟩ := X1749
              obtain ⟨f1761, e1762⟩ := T1745.C 26 (by decide) (by decide)
              have e1764 := (F1746.cell G (by decide) (by decide) e1714)
              refine pm_R_ifc pm_M22 (t := 40) (pc_q := 38) rfl rfl rfl (fun c1765 => ?_) (fun c1765 => ?_)
              · have B1766 : sf_B 1 1 r1741 := sf_neL0 c1765 sf_k0 B1742
                refine pm_R_lo pm_M22 (pc_q := 41) rfl rfl rfl ?_
                refine pm_R_get pm_M22 (pc_q := 44) (v := .ref 30) rfl rfl T1745.e25 (by decide) (T1745.lt (by decide)) rfl rfl ?_
                refine pm_R_cv pm_M22 (pc_q := 47) (a := 30) (ra := []) (rest := []) (ls_q := [.ref 30]) rfl rfl (Or.inl rfl) pm_M16 T1745.e30 rfl (by decide) (T1745.lt (by decide)) rfl rfl (Nat.le_of_ble_eq_true rfl) rfl rfl ?_
                refine cl_c16 (d := d + 5) G T1745  (fun m1769 h1770 T1771 F1772 W1773 => ?_)
                have F1774 := F1750.trans (N := 0) (S := 0) F1772 (by decide) (by decide) (by decide)
                have B1775 : sf_B 0 4 (m1769 3) := by rw [W1773 3 (by decide)]; exact B1753
                have ek1776 : (m1769 3).toInt = ((m1743 3)).toInt := by rw [W1773 3 (by decide)]
                have B1777 : sf_B 0 50 (m1769 5) := by rw [W1773 5 (by decide)]; exact B1754
                have ek1778 : (m1769 5).toInt = ((m1743 5)).toInt := by rw [W1773 5 (by decide)]
                have B1779 : sf_B 0 16 (m1769 6) := by rw [W1773 6 (by decide)]; exact B1755
                have ek1780 : (m1769 6).toInt = ((m1743 6)).toInt := by rw [W1773 6 (by decide)]
                have B1781 : sf_B 0 99 (m1769 7) := by rw [W1773 7 (by decide)]; exact B1756
                have ek1782 : (m1769 7).toInt = ((m1743 7)).toInt := by rw [W1773 7 (by decide)]
                have B1783 : sf_B (-1) 99 (m1769 8) := by rw [W1773 8 (by decide)]; exact B1757
                have ek1784 : (m1769 8).toInt = ((m1743 8)).toInt := by rw [W1773 8 (by decide)]
                have W1785 : rf_W [3, 4, 5, 6, 7, 8, 10, 11, 12, 13] m m1769 := W1751.trans W1773 (by decide)
                have W1786 : rf_W [3, 4, 5, 6, 7, 8, 10, 11, 12, 13] m17 m1769 := W1752.trans W1773 (by decide)
                show pm_R _ 22 47 [.ref 25, .int 3, .int x2_1703] [] _ _
                refine sf_R_iinc pm_M22 (pc_q := 50) (ls_q := fun z => [.ref 25, .int 3, .int z]) rfl B1723 rfl (by decide) (by decide) (by decide) (fun _ => rfl) rfl (fun z1787 e1788 B1789 => ?_)
                show pm_R _ 22 50 [.ref 25, .int 3, .int z1787] [] _ _
                refine pm_R_br pm_M22 (pc_q := 9) rfl rfl ?_
                have e1790 := (F1772.cell G (by decide) (by decide) e1762)
                have e1791 := (F1772.cell G (by decide) (by decide) e1764)
                have e1792 := (F1772.cell G (by decide) (by decide) e1759)
                exact ih_1703 _ (sf_up hN_1703 e1788 B1723 (by decide) (by decide)) h1770 m1769 z1787 T1771 F1774 W1786 (sf_weak B1789 (by decide) (by decide)) ⟨(fun z => ⟨_, _, e1790, e1791, (X1748.at (cl_aux68 _ _ ek1776 z) e1762 e1764).keep (cl_aux3 _ _ ek1778) (cl_aux3 _ _ ek1780) (cl_aux3 _ _ ek1782) (cl_aux3 _ _ ek1784)⟩), ⟨_, e1792, b1760⟩⟩ rfl
              · have B1793 : sf_B 0 0 r1741 := sf_eqL (Classical.not_not.mp c1765) sf_k0
                refine pm_R_op pm_M22 (pc_q := 39) (st_q := [.int 0]) rfl rfl rfl ?_
                exact pm_R_ret pm_M22 (r := some (.int 0)) rfl rfl (K 0 m1743 h1744 T1745 F1750 W1751 (fun z => ⟨_, _, e1762, e1764, (X1748.at (cl_aux67 _ z) e1762 e1764).keep rfl rfl rfl rfl⟩) ⟨_, e1759, b1760⟩ (sf_weak sf_k0 (by decide) (by decide)))
            have B1794 : sf_B 8 12 z1737 := sf_neL0 c1740 sf_k7 B1739
            by_cases c1795 : z1737 = 8
            · rw [c1795]
              refine cl_c37_8 (d := d + 0) G T_1703 (fun z => ⟨_, _, e1711, e1714, (X_1703.1.at (cl_aux67 _ z) e1711 e1714).keep rfl rfl rfl rfl⟩) ⟨_, e1708, b1709⟩ (fun r1796 m1798 h1799 T1800 F1801 W1802 X1803 X1804 B1797 => ?_)
              have F1805 := F_1703.trans (N := 0) (S := 0) F1801 (by decide) (by decide) (by decide)
              have W1806 : rf_W [3, 4, 5, 6, 7, 8, 10, 11, 12, 13] m m1798 := W1706.trans W1802 (by decide)
              have W1807 : rf_W [3, 4, 5, 6, 7, 8, 10, 11, 12, 13] m17 m1798 := W_1703.trans W1802 (by decide)
              have B1808 : sf_B 0 4 (m1798 3) := T1800.B 3
              have B1809 : sf_B 0 50 (m1798 5) := T1800.B 5
              have B1810 : sf_B 0 16 (m1798 6) := T1800.B 6
              have B1811 : sf_B 0 99 (m1798 7) := T1800.B 7
              have B1812 : sf_B (-1) 99 (m1798 8) := T1800.B 8
              show pm_R _ 22 35 [.ref 25, .int 3, .int x2_1703] [.int r1796] _ _
              obtain ⟨f1813, e1814, b1815⟩ := X1804
              obtain ⟨f1816, e1817⟩ := T1800.C 26 (by decide) (by decide)
              have e1819 := (F1801.cell G (by decide) (by decide) e1714)
              refine pm_R_ifc pm_M22 (t := 40) (pc_q := 38) rfl rfl rfl (fun c1820 => ?_) (fun c1820 => ?_)
              · have B1821 : sf_B 1 1 r1796 := sf_neL0 c1820 sf_k0 B1797
                refine pm_R_lo pm_M22 (pc_q := 41) rfl rfl rfl ?_
                refine pm_R_get pm_M22 (pc_q := 44) (v := .ref 30) rfl rfl T1800.e25 (by decide) (T1800.lt (by decide)) rfl rfl ?_
                refine pm_R_cv pm_M22 (pc_q := 47) (a := 30) (ra := []) (rest := []) (ls_q := [.ref 30]) rfl rfl (Or.inl rfl) pm_M16 T1800.e30 rfl (by decide) (T1800.lt (by decide)) rfl rfl (Nat.le_of_ble_eq_true rfl) rfl rfl ?_
                refine cl_c16 (d := d + 5) G T1800  (fun m1824 h1825 T1826 F1827 W1828 => ?_)
                have F1829 := F1805.trans (N := 0) (S := 0) F1827 (by decide) (by decide) (by decide)
                have B1830 : sf_B 0 4 (m1824 3) := by rw [W1828 3 (by decide)]; exact B1808
                have ek1831 : (m1824 3).toInt = ((m1798 3)).toInt := by rw [W1828 3 (by decide)]
                have B1832 : sf_B 0 50 (m1824 5) := by rw [W1828 5 (by decide)]; exact B1809
                have ek1833 : (m1824 5).toInt = ((m1798 5)).toInt := by rw [W1828 5 (by decide)]
                have B1834 : sf_B 0 16 (m1824 6) := by rw [W1828 6 (by decide)]; exact B1810
                have ek1835 : (m1824 6).toInt = ((m1798 6)).toInt := by rw [W1828 6 (by decide)]
                have B1836 : sf_B 0 99 (m1824 7) := by rw [W1828 7 (by decide)]; exact B1811
                have ek1837 : (m1824 7).toInt = ((m1798 7)).toInt := by rw [W1828 7 (by decide)]
                have B1838 : sf_B (-1) 99 (m1824 8) := by rw [W1828 8 (by decide)]; exact B1812
                have ek1839 : (m1824 8).toInt = ((m1798 8)).toInt := by rw [W1828 8 (by decide)]
                have W1840 : rf_W [3, 4, 5, 6, 7, 8, 10, 11, 12, 13] m m1824 := W1806.trans W1828 (by decide)
                have W1841 : rf_W [3, 4, 5, 6, 7, 8, 10, 11, 12, 13] m17 m1824 := W1807.trans W1828 (by decide)
                show pm_R _ 22 47 [.ref 25, .int 3, .int x2_1703] [] _ _
                refine sf_R_iinc pm_M22 (pc_q := 50) (ls_q := fun z => [.ref 25, .int 3, .int z]) rfl B1723 rfl (by decide) (by decide) (by decide) (fun _ => rfl) rfl (fun z1842 e1843 B1844 => ?_)
                show pm_R _ 22 50 [.ref 25, .int 3, .int z1842] [] _ _
                refine pm_R_br pm_M22 (pc_q := 9) rfl rfl ?_
                have e1845 := (F1827.cell G (by decide) (by decide) e1817)
                have e1846 := (F1827.cell G (by decide) (by decide) e1819)
                have e1847 := (F1827.cell G (by decide) (by decide) e1814)
                exact ih_1703 _ (sf_up hN_1703 e1843 B1723 (by decide) (by decide)) h1825 m1824 z1842 T1826 F1829 W1841 (sf_weak B1844 (by decide) (by decide)) ⟨(fun z => ⟨_, _, e1845, e1846, (X1803.at (cl_aux68 _ _ ek1831 z) e1817 e1819).keep (cl_aux3 _ _ ek1833) (cl_aux3 _ _ ek1835) (cl_aux3 _ _ ek1837) (cl_aux3 _ _ ek1839)⟩), ⟨_, e1847, b1815⟩⟩ rfl
              · have B1848 : sf_B 0 0 r1796 := sf_eqL (Classical.not_not.mp c1820) sf_k0
                refine pm_R_op pm_M22 (pc_q := 39) (st_q := [.int 0]) rfl rfl rfl ?_
                exact pm_R_ret pm_M22 (r := some (.int 0)) rfl rfl (K 0 m1798 h1799 T1800 F1805 W1806 (fun z => ⟨_, _, e1817, e1819, (X1803.at (cl_aux67 _ z) e1817 e1819).keep rfl rfl rfl rfl⟩) ⟨_, e1814, b1815⟩ (sf_weak sf_k0 (by decide) (by decide)))
            have B1849 : sf_B 9 12 z1737 := sf_neL0 c1795 sf_k8 B1794
            by_cases c1850 : z1737 = 9
            · rw [c1850]
              refine cl_c37_9 (d := d + 0) G T_1703 (fun z => ⟨_, _, e1711, e1714, (X_1703.1.at (cl_aux67 _ z) e1711 e1714).keep rfl rfl rfl rfl⟩) ⟨_, e1708, b1709⟩ (fun r1851 m1853 h1854 T1855 F1856 W1857 X1858 X1859 B1852 => ?_)
              have F1860 := F_1703.trans (N := 0) (S := 0) F1856 (by decide) (by decide) (by decide)
              have W1861 : rf_W [3, 4, 5, 6, 7, 8, 10, 11, 12, 13] m m1853 := W1706.trans W1857 (by decide)
              have W1862 : rf_W [3, 4, 5, 6, 7, 8, 10, 11, 12, 13] m17 m1853 := W_1703.trans W1857 (by decide)
              have B1863 : sf_B 0 4 (m1853 3) := T1855.B 3
              have B1864 : sf_B 0 50 (m1853 5) := T1855.B 5
              have B1865 : sf_B 0 16 (m1853 6) := T1855.B 6
              have B1866 : sf_B 0 99 (m1853 7) := T1855.B 7
              have B1867 : sf_B (-1) 99 (m1853 8) := T1855.B 8
              show pm_R _ 22 35 [.ref 25, .int 3, .int x2_1703] [.int r1851] _ _
              obtain ⟨f1868, e1869, b1870⟩ := X1859
              obtain ⟨f1871, e1872⟩ := T1855.C 26 (by decide) (by decide)
              have e1874 := (F1856.cell G (by decide) (by decide) e1714)
              refine pm_R_ifc pm_M22 (t := 40) (pc_q := 38) rfl rfl rfl (fun c1875 => ?_) (fun c1875 => ?_)
              · have B1876 : sf_B 1 1 r1851 := sf_neL0 c1875 sf_k0 B1852
                refine pm_R_lo pm_M22 (pc_q := 41) rfl rfl rfl ?_
                refine pm_R_get pm_M22 (pc_q := 44) (v := .ref 30) rfl rfl T1855.e25 (by decide) (T1855.lt (by decide)) rfl rfl ?_
                refine pm_R_cv pm_M22 (pc_q := 47) (a := 30) (ra := []) (rest := []) (ls_q := [.ref 30]) rfl rfl (Or.inl rfl) pm_M16 T1855.e30 rfl (by decide) (T1855.lt (by decide)) rfl rfl (Nat.le_of_ble_eq_true rfl) rfl rfl ?_
                refine cl_c16 (d := d + 5) G T1855  (fun m1879 h1880 T1881 F1882 W1883 => ?_)
                have F1884 := F1860.trans (N := 0) (S := 0) F1882 (by decide) (by decide) (by decide)
                have B1885 : sf_B 0 4 (m1879 3) := by rw [W1883 3 (by decide)]; exact B1863
                have ek1886 : (m1879 3).toInt = ((m1853 3)).toInt := by rw [W1883 3 (by decide)]
                have B1887 : sf_B 0 50 (m1879 5) := by rw [W1883 5 (by decide)]; exact B1864
                have ek1888 : (m1879 5).toInt = ((m1853 5)).toInt := by rw [W1883 5 (by decide)]
                have B1889 : sf_B 0 16 (m1879 6) := by rw [W1883 6 (by decide)]; exact B1865
                have ek1890 : (m1879 6).toInt = ((m1853 6)).toInt := by rw [W1883 6 (by decide)]
                have B1891 : sf_B 0 99 (m1879 7) := by rw [W1883 7 (by decide)]; exact B1866
                have ek1892 : (m1879 7).toInt = ((m1853 7)).toInt := by rw [W1883 7 (by decide)]
                have B1893 : sf_B (-1) 99 (m1879 8) := by rw [W1883 8 (by decide)]; exact B1867
                have ek1894 : (m1879 8).toInt = ((m1853 8)).toInt := by rw [W1883 8 (by decide)]
                have W1895 : rf_W [3, 4, 5, 6, 7, 8, 10, 11, 12, 13] m m1879 := W1861.trans W1883 (by decide)
                have W1896 : rf_W [3, 4, 5, 6, 7, 8, 10, 11, 12, 13] m17 m1879 := W1862.trans W1883 (by decide)
                show pm_R _ 22 47 [.ref 25, .int 3, .int x2_1703] [] _ _
                refine sf_R_iinc pm_M22 (pc_q := 50) (ls_q := fun z => [.ref 25, .int 3, .int z]) rfl B1723 rfl (by decide) (by decide) (by decide) (fun _ => rfl) rfl (fun z1897 e1898 B1899 => ?_)
                show pm_R _ 22 50 [.ref 25, .int 3, .int z1897] [] _ _
                refine pm_R_br pm_M22 (pc_q := 9) rfl rfl ?_
                have e1900 := (F1882.cell G (by decide) (by decide) e1872)
                have e1901 := (F1882.cell G (by decide) (by decide) e1874)
                have e1902 := (F1882.cell G (by decide) (by decide) e1869)
                exact ih_1703 _ (sf_up hN_1703 e1898 B1723 (by decide) (by decide)) h1880 m1879 z1897 T1881 F1884 W1896 (sf_weak B1899 (by decide) (by decide)) ⟨(fun z => ⟨_, _, e1900, e1901, (X1858.at (cl_aux68 _ _ ek1886 z) e1872 e1874).keep (cl_aux3 _ _ ek1888) (cl_aux3 _ _ ek1890) (cl_aux3 _ _ ek1892) (cl_aux3 _ _ ek1894)⟩), ⟨_, e1902, b1870⟩⟩ rfl
              · have B1903 : sf_B 0 0 r1851 := sf_eqL (Classical.not_not.mp c1875) sf_k0
                refine pm_R_op pm_M22 (pc_q := 39) (st_q := [.int 0]) rfl rfl rfl ?_
                exact pm_R_ret pm_M22 (r := some (.int 0)) rfl rfl (K 0 m1853 h1854 T1855 F1860 W1861 (fun z => ⟨_, _, e1872, e1874, (X1858.at (cl_aux67 _ z) e1872 e1874).keep rfl rfl rfl rfl⟩) ⟨_, e1869, b1870⟩ (sf_weak sf_k0 (by decide) (by decide)))
            have B1904 : sf_B 10 12 z1737 := sf_neL0 c1850 sf_k9 B1849
            by_cases c1905 : z1737 = 10
            · rw [c1905]
              refine cl_c37_10 (d := d + 0) G T_1703 (fun z => ⟨_, _, e1711, e1714, (X_1703.1.at (cl_aux67 _ z) e1711 e1714).keep rfl rfl rfl rfl⟩) ⟨_, e1708, b1709⟩ (fun r1906 m1908 h1909 T1910 F1911 W1912 X1913 X1914 B1907 => ?_)
              have F1915 := F_1703.trans (N := 0) (S := 0) F1911 (by decide) (by decide) (by decide)
              have W1916 : rf_W [3, 4, 5, 6, 7, 8, 10, 11, 12, 13] m m1908 := W1706.trans W1912 (by decide)
              have W1917 : rf_W [3, 4, 5, 6, 7, 8, 10, 11, 12, 13] m17 m1908 := W_1703.trans W1912 (by decide)
              have B1918 : sf_B 0 4 (m1908 3) := T1910.B 3
              have B1919 : sf_B 0 50 (m1908 5) := T1910.B 5
              have B1920 : sf_B 0 16 (m1908 6) := T1910.B 6
              have B1921 : sf_B 0 99 (m1908 7) := T1910.B 7
              have B1922 : sf_B (-1) 99 (m1908 8) := T1910.B 8
              show pm_R _ 22 35 [.ref 25, .int 3, .int x2_1703] [.int r1906] _ _
              obtain ⟨f1923, e1924, b1925⟩ := X1914
              obtain ⟨f1926, e1927⟩ := T1910.C 26 (by decide) (by decide)
              have e1929 := (F1911.cell G (by decide) (by decide) e1714)
              refine pm_R_ifc pm_M22 (t := 40) (pc_q := 38) rfl rfl rfl (fun c1930 => ?_) (fun c1930 => ?_)
              · have B1931 : sf_B 1 1 r1906 := sf_neL0 c1930 sf_k0 B1907
                refine pm_R_lo pm_M22 (pc_q := 41) rfl rfl rfl ?_
                refine pm_R_get pm_M22 (pc_q := 44) (v := .ref 30) rfl rfl T1910.e25 (by decide) (T1910.lt (by decide)) rfl rfl ?_
                refine pm_R_cv pm_M22 (pc_q := 47) (a := 30) (ra := []) (rest := []) (ls_q := [.ref 30]) rfl rfl (Or.inl rfl) pm_M16 T1910.e30 rfl (by decide) (T1910.lt (by decide)) rfl rfl (Nat.le_of_ble_eq_true rfl) rfl rfl ?_
                refine cl_c16 (d := d + 5) G T1910  (fun m1934 h1935 T1936 F1937 W1938 => ?_)
                have F1939 := F1915.trans (N := 0) (S := 0) F1937 (by decide) (by decide) (by decide)
                have B1940 : sf_B 0 4 (m1934 3) := by rw [W1938 3 (by decide)]; exact B1918
                have ek1941 : (m1934 3).toInt = ((m1908 3)).toInt := by rw [W1938 3 (by decide)]
                have B1942 : sf_B 0 50 (m1934 5) := by rw [W1938 5 (by decide)]; exact B1919
                have ek1943 : (m1934 5).toInt = ((m1908 5)).toInt := by rw [W1938 5 (by decide)]
                have B1944 : sf_B 0 16 (m1934 6) := by rw [W1938 6 (by decide)]; exact B1920
                have ek1945 : (m1934 6).toInt = ((m1908 6)).toInt := by rw [W1938 6 (by decide)]
                have B1946 : sf_B 0 99 (m1934 7) := by rw [W1938 7 (by decide)]; exact B1921
                have ek1947 : (m1934 7).toInt = ((m1908 7)).toInt := by rw [W1938 7 (by decide)]
                have B1948 : sf_B (-1) 99 (m1934 8) := by rw [W1938 8 (by decide)]; exact B1922
                have ek1949 : (m1934 8).toInt = ((m1908 8)).toInt := by rw [W1938 8 (by decide)]
                have W1950 : rf_W [3, 4, 5, 6, 7, 8, 10, 11, 12, 13] m m1934 := W1916.trans W1938 (by decide)
                have W1951 : rf_W [3, 4, 5, 6, 7, 8, 10, 11, 12, 13] m17 m1934 := W1917.trans W1938 (by decide)
                show pm_R _ 22 47 [.ref 25, .int 3, .int x2_1703] [] _ _
                refine sf_R_iinc pm_M22 (pc_q := 50) (ls_q := fun z => [.ref 25, .int 3, .int z]) rfl B1723 rfl (by decide) (by decide) (by decide) (fun _ => rfl) rfl (fun z1952 e1953 B1954 => ?_)
                show pm_R _ 22 50 [.ref 25, .int 3, .int z1952] [] _ _
                refine pm_R_br pm_M22 (pc_q := 9) rfl rfl ?_
                have e1955 := (F1937.cell G (by decide) (by decide) e1927)
                have e1956 := (F1937.cell G (by decide) (by decide) e1929)
                have e1957 := (F1937.cell G (by decide) (by decide) e1924)
                exact ih_1703 _ (sf_up hN_1703 e1953 B1723 (by decide) (by decide)) h1935 m1934 z1952 T1936 F1939 W1951 (sf_weak B1954 (by decide) (by decide)) ⟨(fun z => ⟨_, _, e1955, e1956, (X1913.at (cl_aux68 _ _ ek1941 z) e1927 e1929).keep (cl_aux3 _ _ ek1943) (cl_aux3 _ _ ek1945) (cl_aux3 _ _ ek1947) (cl_aux3 _ _ ek1949)⟩), ⟨_, e1957, b1925⟩⟩ rfl
              · have B1958 : sf_B 0 0 r1906 := sf_eqL (Classical.not_not.mp c1930) sf_k0
                refine pm_R_op pm_M22 (pc_q := 39) (st_q := [.int 0]) rfl rfl rfl ?_
                exact pm_R_ret pm_M22 (r := some (.int 0)) rfl rfl (K 0 m1908 h1909 T1910 F1915 W1916 (fun z => ⟨_, _, e1927, e1929, (X1913.at (cl_aux67 _ z) e1927 e1929).keep rfl rfl rfl rfl⟩) ⟨_, e1924, b1925⟩ (sf_weak sf_k0 (by decide) (by decide)))
            have B1959 : sf_B 11 12 z1737 := sf_neL0 c1905 sf_k10 B1904
            by_cases c1960 : z1737 = 11
            · rw [c1960]
              refine cl_c37_11 (d := d + 0) G T_1703 (fun z => ⟨_, _, e1711, e1714, (X_1703.1.at (cl_aux67 _ z) e1711 e1714).keep rfl rfl rfl rfl⟩) ⟨_, e1708, b1709⟩ (fun r1961 m1963 h1964 T1965 F1966 W1967 X1968 X1969 B1962 => ?_)
              have F1970 := F_1703.trans (N := 0) (S := 0) F1966 (by decide) (by decide) (by decide)
              have W1971 : rf_W [3, 4, 5, 6, 7, 8, 10, 11, 12, 13] m m1963 := W1706.trans W1967 (by decide)
              have W1972 : rf_W [3, 4, 5, 6, 7, 8, 10, 11, 12, 13] m17 m1963 := W_1703.trans W1967 (by decide)
              have B1973 : sf_B 0 4 (m1963 3) := T1965.B 3
              have B1974 : sf_B 0 50 (m1963 5) := T1965.B 5
              have B1975 : sf_B 0 16 (m1963 6) := T1965.B 6
              have B1976 : sf_B 0 99 (m1963 7) := T1965.B 7
              have B1977 : sf_B (-1) 99 (m1963 8) := T1965.B 8
              show pm_R _ 22 35 [.ref 25, .int 3, .int x2_1703] [.int r1961] _ _
              obtain ⟨f1978, e1979, b1980⟩ := X1969
              obtain ⟨f1981, e1982⟩ := T1965.C 26 (by decide) (by decide)
              have e1984 := (F1966.cell G (by decide) (by decide) e1714)
              refine pm_R_ifc pm_M22 (t := 40) (pc_q := 38) rfl rfl rfl (fun c1985 => ?_) (fun c1985 => ?_)
              · have B1986 : sf_B 1 1 r1961 := sf_neL0 c1985 sf_k0 B1962
                refine pm_R_lo pm_M22 (pc_q := 41) rfl rfl rfl ?_
                refine pm_R_get pm_M22 (pc_q := 44) (v := .ref 30) rfl rfl T1965.e25 (by decide) (T1965.lt (by decide)) rfl rfl ?_
                refine pm_R_cv pm_M22 (pc_q := 47) (a := 30) (ra := []) (rest := []) (ls_q := [.ref 30]) rfl rfl (Or.inl rfl) pm_M16 T1965.e30 rfl (by decide) (T1965.lt (by decide)) rfl rfl (Nat.le_of_ble_eq_true rfl) rfl rfl ?_
                refine cl_c16 (d := d + 5) G T1965  (fun m1989 h1990 T1991 F1992 W1993 => ?_)
                have F1994 := F1970.trans (N := 0) (S := 0) F1992 (by decide) (by decide) (by decide)
                have B1995 : sf_B 0 4 (m1989 3) := by rw [W1993 3 (by decide)]; exact B1973
                have ek1996 : (m1989 3).toInt = ((m1963 3)).toInt := by rw [W1993 3 (by decide)]
                have B1997 : sf_B 0 50 (m1989 5) := by rw [W1993 5 (by decide)]; exact B1974
                have ek1998 : (m1989 5).toInt = ((m1963 5)).toInt := by rw [W1993 5 (by decide)]
                have B1999 : sf_B 0 16 (m1989 6) := by rw [W1993 6 (by decide)]; exact B1975
                have ek2000 : (m1989 6).toInt = ((m1963 6)).toInt := by rw [W1993 6 (by decide)]
                have B2001 : sf_B 0 99 (m1989 7) := by rw [W1993 7 (by decide)]; exact B1976
                have ek2002 : (m1989 7).toInt = ((m1963 7)).toInt := by rw [W1993 7 (by decide)]
                have B2003 : sf_B (-1) 99 (m1989 8) := by rw [W1993 8 (by decide)]; exact B1977
                have ek2004 : (m1989 8).toInt = ((m1963 8)).toInt := by rw [W1993 8 (by decide)]
                have W2005 : rf_W [3, 4, 5, 6, 7, 8, 10, 11, 12, 13] m m1989 := W1971.trans W1993 (by decide)
                have W2006 : rf_W [3, 4, 5, 6, 7, 8, 10, 11, 12, 13] m17 m1989 := W1972.trans W1993 (by decide)
                show pm_R _ 22 47 [.ref 25, .int 3, .int x2_1703] [] _ _
                refine sf_R_iinc pm_M22 (pc_q := 50) (ls_q := fun z => [.ref 25, .int 3, .int z]) rfl B1723 rfl (by decide) (by decide) (by decide) (fun _ => rfl) rfl (fun z2007 e2008 B2009 => ?_)
                show pm_R _ 22 50 [.ref 25, .int 3, .int z2007] [] _ _
                refine pm_R_br pm_M22 (pc_q := 9) rfl rfl ?_
                have e2010 := (F1992.cell G (by decide) (by decide) e1982)
                have e2011 := (F1992.cell G (by decide) (by decide) e1984)
                have e2012 := (F1992.cell G (by decide) (by decide) e1979)
                exact ih_1703 _ (sf_up hN_1703 e2008 B1723 (by decide) (by decide)) h1990 m1989 z2007 T1991 F1994 W2006 (sf_weak B2009 (by decide) (by decide)) ⟨(fun z => ⟨_, _, e2010, e2011, (X1968.at (cl_aux68 _ _ ek1996 z) e1982 e1984).keep (cl_aux3 _ _ ek1998) (cl_aux3 _ _ ek2000) (cl_aux3 _ _ ek2002) (cl_aux3 _ _ ek2004)⟩), ⟨_, e2012, b1980⟩⟩ rfl
              · have B2013 : sf_B 0 0 r1961 := sf_eqL (Classical.not_not.mp c1985) sf_k0
                refine pm_R_op pm_M22 (pc_q := 39) (st_q := [.int 0]) rfl rfl rfl ?_
                exact pm_R_ret pm_M22 (r := some (.int 0)) rfl rfl (K 0 m1963 h1964 T1965 F1970 W1971 (fun z => ⟨_, _, e1982, e1984, (X1968.at (cl_aux67 _ z) e1982 e1984).keep rfl rfl rfl rfl⟩) ⟨_, e1979, b1980⟩ (sf_weak sf_k0 (by decide) (by decide)))
            have B2014 : sf_B 12 12 z1737 := sf_neL0 c1960 sf_k11 B1959
            rw [sf_pt2 B2014 sf_k12]
            refine cl_c37_12 (d := d + 0) G T_1703 (fun z => ⟨_, _, e1711, e1714, (X_1703.1.at (cl_aux67 _ z) e1711 e1714).keep rfl rfl rfl rfl⟩) ⟨_, e1708, b1709⟩ (fun r2015 m2017 h2018 T2019 F2020 W2021 X2022 X2023 B2016 => ?_)
            have F2024 := F_1703.trans (N := 0) (S := 0) F2020 (by decide) (by decide) (by decide)
            have W2025 : rf_W [3, 4, 5, 6, 7, 8, 10, 11, 12, 13] m m2017 := W1706.trans W2021 (by decide)
            have W2026 : rf_W [3, 4, 5, 6, 7, 8, 10, 11, 12, 13] m17 m2017 := W_1703.trans W2021 (by decide)
            have B2027 : sf_B 0 4 (m2017 3) := T2019.B 3
            have B2028 : sf_B 0 50 (m2017 5) := T2019.B 5
            have B2029 : sf_B 0 16 (m2017 6) := T2019.B 6
            have B2030 : sf_B 0 99 (m2017 7) := T2019.B 7
            have B2031 : sf_B (-1) 99 (m2017 8) := T2019.B 8
            show pm_R _ 22 35 [.ref 25, .int 3, .int x2_1703] [.int r2015] _ _
            obtain ⟨f2032, e2033, b2034⟩ := X2023
            obtain ⟨f2035, e2036⟩ := T2019.C 26 (by decide) (by decide)
            have e2038 := (F2020.cell G (by decide) (by decide) e1714)
            refine pm_R_ifc pm_M22 (t := 40) (pc_q := 38) rfl rfl rfl (fun c2039 => ?_) (fun c2039 => ?_)
            · have B2040 : sf_B 1 1 r2015 := sf_neL0 c2039 sf_k0 B2016
              refine pm_R_lo pm_M22 (pc_q := 41) rfl rfl rfl ?_
              refine pm_R_get pm_M22 (pc_q := 44) (v := .ref 30) rfl rfl T2019.e25 (by decide) (T2019.lt (by decide)) rfl rfl ?_
              refine pm_R_cv pm_M22 (pc_q := 47) (a := 30) (ra := []) (rest := []) (ls_q := [.ref 30]) rfl rfl (Or.inl rfl) pm_M16 T2019.e30 rfl (by decide) (T2019.lt (by decide)) rfl rfl (Nat.le_of_ble_eq_true rfl) rfl rfl ?_
              refine cl_c16 (d := d + 5) G T2019  (fun m2043 h2044 T2045 F2046 W2047 => ?_)
              have F2048 := F2024.trans (N := 0) (S := 0) F2046 (by decide) (by decide) (by decide)
              have B2049 : sf_B 0 4 (m2043 3) := by rw [W2047 3 (by decide)]; exact B2027
              have ek2050 : (m2043 3).toInt = ((m2017 3)).toInt := by rw [W2047 3 (by decide)]
              have B2051 : sf_B 0 50 (m2043 5) := by rw [W2047 5 (by decide)]; exact B2028
              have ek2052 : (m2043 5).toInt = ((m2017 5)).toInt := by rw [W2047 5 (by decide)]
              have B2053 : sf_B 0 16 (m2043 6) := by rw [W2047 6 (by decide)]; exact B2029
              have ek2054 : (m2043 6).toInt = ((m2017 6)).toInt := by rw [W2047 6 (by decide)]
              have B2055 : sf_B 0 99 (m2043 7) := by rw [W2047 7 (by decide)]; exact B2030
              have ek2056 : (m2043 7).toInt = ((m2017 7)).toInt := by rw [W2047 7 (by decide)]
              have B2057 : sf_B (-1) 99 (m2043 8) := by rw [W2047 8 (by decide)]; exact B2031
              have ek2058 : (m2043 8).toInt = ((m2017 8)).toInt := by rw [W2047 8 (by decide)]
              have W2059 : rf_W [3, 4, 5, 6, 7, 8, 10, 11, 12, 13] m m2043 := W2025.trans W2047 (by decide)
              have W2060 : rf_W [3, 4, 5, 6, 7, 8, 10, 11, 12, 13] m17 m2043 := W2026.trans W2047 (by decide)
              show pm_R _ 22 47 [.ref 25, .int 3, .int x2_1703] [] _ _
              refine sf_R_iinc pm_M22 (pc_q := 50) (ls_q := fun z => [.ref 25, .int 3, .int z]) rfl B1723 rfl (by decide) (by decide) (by decide) (fun _ => rfl) rfl (fun z2061 e2062 B2063 => ?_)
              show pm_R _ 22 50 [.ref 25, .int 3, .int z2061] [] _ _
              refine pm_R_br pm_M22 (pc_q := 9) rfl rfl ?_
              have e2064 := (F2046.cell G (by decide) (by decide) e2036)
              have e2065 := (F2046.cell G (by decide) (by decide) e2038)
              have e2066 := (F2046.cell G (by decide) (by decide) e2033)
              exact ih_1703 _ (sf_up hN_1703 e2062 B1723 (by decide) (by decide)) h2044 m2043 z2061 T2045 F2048 W2060 (sf_weak B2063 (by decide) (by decide)) ⟨(fun z => ⟨_, _, e2064, e2065, (X2022.at (cl_aux68 _ _ ek2050 z) e2036 e2038).keep (cl_aux3 _ _ ek2052) (cl_aux3 _ _ ek2054) (cl_aux3 _ _ ek2056) (cl_aux3 _ _ ek2058)⟩), ⟨_, e2066, b2034⟩⟩ rfl
            · have B2067 : sf_B 0 0 r2015 := sf_eqL (Classical.not_not.mp c2039) sf_k0
              refine pm_R_op pm_M22 (pc_q := 39) (st_q := [.int 0]) rfl rfl rfl ?_
              exact pm_R_ret pm_M22 (r := some (.int 0)) rfl rfl (K 0 m2017 h2018 T2019 F2024 W2025 (fun z => ⟨_, _, e2036, e2038, (X2022.at (cl_aux67 _ z) e2036 e2038).keep rfl rfl rfl rfl⟩) ⟨_, e2033, b2034⟩ (sf_weak sf_k0 (by decide) (by decide)))
          · have B2068 : sf_B (-1) (-1) r1728 := sf_eqL (Classical.not_not.mp c1735) sf_kn1
            refine pm_R_op pm_M23 (pc_q := 90) (st_q := [.int (-1)]) rfl rfl rfl ?_
            refine pm_R_br pm_M23 (pc_q := 97) rfl rfl ?_
            refine pm_R_ret pm_M23 (r := some (.int (-1))) rfl rfl ?_
            show pm_R _ 22 32 [.ref 25, .int 3, .int x2_1703] [.int (-1), .ref 25] _ _
            refine pm_R_cv pm_M22 (pc_q := 35) (a := 25) (ra := [.int (-1)]) (rest := []) (ls_q := [.ref 25, .int (-1), pm_no]) rfl rfl (Or.inl rfl) pm_M37 T_1703.e25 rfl (by decide) (T_1703.lt (by decide)) rfl rfl (Nat.le_of_ble_eq_true rfl) rfl rfl ?_
            show pm_R _ 37 0 [.ref 25, .int (-1), pm_no] [] _ _
            refine pm_R_lo pm_M37 (pc_q := 1) rfl rfl rfl ?_
            refine pm_R_op pm_M37 (pc_q := 2) (st_q := [.int (-1), .int (-1)]) rfl rfl rfl ?_
            refine pm_R_br pm_M37 (pc_q := 5) (st_q := []) rfl rfl ?_
            refine pm_R_op pm_M37 (pc_q := 6) (st_q := [.int 0]) rfl rfl rfl ?_
            refine pm_R_ret pm_M37 (r := some (.int 0)) rfl rfl ?_
            show pm_R _ 22 35 [.ref 25, .int 3, .int x2_1703] [.int 0] _ _
            refine pm_R_br pm_M22 (pc_q := 38) (st_q := []) rfl rfl ?_
            refine pm_R_op pm_M22 (pc_q := 39) (st_q := [.int 0]) rfl rfl rfl ?_
            exact pm_R_ret pm_M22 (r := some (.int 0)) rfl rfl (K 0 m_1703 h_1703 T_1703 F_1703 W1706 (fun z => ⟨_, _, e1711, e1714, (X_1703.1.at (cl_aux67 _ z) e1711 e1714).keep rfl rfl rfl rfl⟩) ⟨_, e1708, b1709⟩ (sf_weak sf_k0 (by decide) (by decide)))
  have e2069 := (F20.cell G (by decide) (by decide) e5)
  have e2070 := (F20.cell G (by decide) (by decide) e8)
  have e2071 := (F20.cell G (by decide) (by decide) e2)
  exact L_1703 _ h18 m17 0 T19 F22 (rf_W.refl _ _) (sf_weak sf_k0 (by decide) (by decide)) ⟨(fun z => ⟨_, _, e2069, e2070, (R.at (cl_aux68 _ _ ek24 z) e5 e8).keep (cl_aux3 _ _ ek26) (cl_aux3 _ _ ek28) (cl_aux3 _ _ ek30) (cl_aux3 _ _ ek32)⟩), ⟨_, e2071, b3⟩⟩ rfl

theorem cl_aux83 (v0 : Int) (q0 : 0 ≤ v0) (q1 : v0 ≤ 0) : v0 = 0 := by omega
theorem cl_aux84 (v0 : Int) (q0 : 4 ≤ v0) (q1 : v0 ≤ 4) : v0 = 4 := by omega
set_option maxRecDepth 100000 in
set_option maxHeartbeats 4000000 in
/-- SilentTable$TextReader.readTape -/
theorem cl_c11_0 {d : Nat} {ck : cl_K} {E : Nat → pm_E} {m : Nat → Int32} {o : Nat → Option Nat} {h : pm_H} {Q : Option Value → pm_H → Prop} {a0 : Int32} (G : cl_G ck E) (T : cl_T ck E m o h) (Ba0 : sf_B 0 600 a0) (Y : cl_Y h) (K : ∀ (m_q : Nat → Int32) (h_q : pm_H), cl_T ck E m_q o h_q → cl_F ck [25, 26, 27, 28, 29, 30] 0 0 h h_q → rf_W [3, 4, 5, 6, 7, 8, 9, 10, 11, 12, 13] m m_q → cl_Rd 0 m_q h_q → cl_Y h_q → Q none h_q) : pm_R (d + 9) 11 0 [.ref 25, .int a0, .int 0, pm_no] [] h Q := by
  obtain ⟨f1, e2, b3⟩ := id Y
  refine pm_R_lo pm_M11 (pc_q := 1) rfl rfl rfl ?_
  refine pm_R_cv pm_M11 (pc_q := 4) (a := 25) (ra := []) (rest := []) (ls_q := [.ref 25]) rfl rfl (Or.inl rfl) pm_M12 T.e25 rfl (by decide) (T.lt (by decide)) rfl rfl (Nat.le_of_ble_eq_true rfl) rfl rfl ?_
  refine pm_R_lo pm_M12 (pc_q := 1) rfl rfl rfl ?_
  refine pm_R_op pm_M12 (pc_q := 2) (st_q := [.int 0, .ref 25]) rfl rfl rfl ?_
  refine cl_R_put25 G pm_M12 T (k := 3) (pc_q := 5) rfl rfl rfl (by decide) rfl rfl (sf_weak sf_k0 (by decide) (by decide)) rfl rfl rfl rfl rfl (fun h4 m7 em8 T5 F6 => ?_)
  have F9 := F6.cl (ck := ck) T.1
  have F10 := (cl_F.refl (ck := ck) (A := [25, 26, 27, 28, 29, 30]) (n := 0) (s := 0) T.1).trans (N := 0) (S := 0) F9 (by decide) (by decide) (by decide)
  have B11 : sf_B 0 0 (m7 3) := by rw [em8]; exact sf_k0
  have W13 : rf_W [3, 4, 5, 6, 7, 8, 9, 10, 11, 12, 13] m m7 := by rw [em8]; exact (rf_W.refl [3, 4, 5, 6, 7, 8, 9, 10, 11, 12, 13] m).put (by decide)
  have B14 : sf_B 0 50 (m7 5) := T5.B 5
  have B15 : sf_B 0 16 (m7 6) := T5.B 6
  have B16 : sf_B 0 99 (m7 7) := T5.B 7
  have B17 : sf_B (-1) 99 (m7 8) := T5.B 8
  refine pm_R_lo pm_M12 (pc_q := 6) rfl rfl rfl ?_
  refine pm_R_op pm_M12 (pc_q := 7) (st_q := [.int (-1), .ref 25]) rfl rfl rfl ?_
  refine cl_R_put25 G pm_M12 T5 (k := 4) (pc_q := 10) rfl rfl rfl (by decide) rfl rfl (sf_weak sf_kn1 (by decide) (by decide)) rfl rfl rfl rfl rfl (fun h18 m21 em22 T19 F20 => ?_)
  have F23 := F20.cl (ck := ck) T5.1
  have F24 := F10.trans (N := 0) (S := 0) F23 (by decide) (by decide) (by decide)
  have B25 : sf_B 0 0 (m21 3) := by rw [em22]; exact B11
  have ek26 : (m21 3).toInt = ((m7 3)).toInt := by rw [em22]; rfl
  have B27 : sf_B 0 50 (m21 5) := by rw [em22]; exact B14
  have ek28 : (m21 5).toInt = ((m7 5)).toInt := by rw [em22]; rfl
  have B29 : sf_B 0 16 (m21 6) := by rw [em22]; exact B15
  have ek30 : (m21 6).toInt = ((m7 6)).toInt := by rw [em22]; rfl
  have B31 : sf_B 0 99 (m21 7) := by rw [em22]; exact B16
  have ek32 : (m21 7).toInt = ((m7 7)).toInt := by rw [em22]; rfl
  have B33 : sf_B (-1) 99 (m21 8) := by rw [em22]; exact B17
  have ek34 : (m21 8).toInt = ((m7 8)).toInt := by rw [em22]; rfl
  have B35 : sf_B (-1) (-1) (m21 4) := by rw [em22]; exact sf_kn1
  have W37 : rf_W [3, 4, 5, 6, 7, 8, 9, 10, 11, 12, 13] m m21 := by rw [em22]; exact W13.put (by decide)
  refine pm_R_lo pm_M12 (pc_q := 11) rfl rfl rfl ?_
  refine pm_R_op pm_M12 (pc_q := 12) (st_q := [.int 0, .ref 25]) rfl rfl rfl ?_
  refine cl_R_put25 G pm_M12 T19 (k := 5) (pc_q := 15) rfl rfl rfl (by decide) rfl rfl (sf_weak sf_k0 (by decide) (by decide)) rfl rfl rfl rfl rfl (fun h38 m41 em42 T39 F40 => ?_)
  have F43 := F40.cl (ck := ck) T19.1
  have F44 := F24.trans (N := 0) (S := 0) F43 (by decide) (by decide) (by decide)
  have B45 : sf_B 0 0 (m41 3) := by rw [em42]; exact B25
  have ek46 : (m41 3).toInt = ((m7 3)).toInt := by rw [em42]; exact ek26
  have B47 : sf_B 0 16 (m41 6) := by rw [em42]; exact B29
  have ek48 : (m41 6).toInt = ((m7 6)).toInt := by rw [em42]; exact ek30
  have B49 : sf_B 0 99 (m41 7) := by rw [em42]; exact B31
  have ek50 : (m41 7).toInt = ((m7 7)).toInt := by rw [em42]; exact ek32
  have B51 : sf_B (-1) 99 (m41 8) := by rw [em42]; exact B33
  have ek52 : (m41 8).toInt = ((m7 8)).toInt := by rw [em42]; exact ek34
  have B53 : sf_B (-1) (-1) (m41 4) := by rw [em42]; exact B35
  have B54 : sf_B 0 0 (m41 5) := by rw [em42]; exact sf_k0
  have W56 : rf_W [3, 4, 5, 6, 7, 8, 9, 10, 11, 12, 13] m m41 := by rw [em42]; exact W37.put (by decide)
  refine pm_R_lo pm_M12 (pc_q := 16) rfl rfl rfl ?_
  refine pm_R_op pm_M12 (pc_q := 17) (st_q := [.int 0, .ref 25]) rfl rfl rfl ?_
  refine cl_R_put25 G pm_M12 T39 (k := 6) (pc_q := 20) rfl rfl rfl (by decide) rfl rfl (sf_weak sf_k0 (by decide) (by decide)) rfl rfl rfl rfl rfl (fun h57 m60 em61 T58 F59 => ?_)
  have F62 := F59.cl (ck := ck) T39.1
  have F63 := F44.trans (N := 0) (S := 0) F62 (by decide) (by decide) (by decide)
  have B64 : sf_B 0 0 (m60 3) := by rw [em61]; exact B45
  have ek65 : (m60 3).toInt = ((m7 3)).toInt := by rw [em61]; exact ek46
  have B66 : sf_B 0 99 (m60 7) := by rw [em61]; exact B49
  have ek67 : (m60 7).toInt = ((m7 7)).toInt := by rw [em61]; exact ek50
  have B68 : sf_B (-1) 99 (m60 8) := by rw [em61]; exact B51
  have ek69 : (m60 8).toInt = ((m7 8)).toInt := by rw [em61]; exact ek52
  have B70 : sf_B (-1) (-1) (m60 4) := by rw [em61]; exact B53
  have B71 : sf_B 0 0 (m60 5) := by rw [em61]; exact B54
  have ek72 : (m60 5).toInt = ((m41 5)).toInt := by rw [em61]; rfl
  have B73 : sf_B 0 0 (m60 6) := by rw [em61]; exact sf_k0
  have W75 : rf_W [3, 4, 5, 6, 7, 8, 9, 10, 11, 12, 13] m m60 := by rw [em61]; exact W56.put (by decide)
  refine pm_R_lo pm_M12 (pc_q := 21) rfl rfl rfl ?_
  refine pm_R_get pm_M12 (pc_q := 24) (v := .ref 28) rfl rfl T58.e25 (by decide) (T58.lt (by decide)) rfl rfl ?_
  refine pm_R_op pm_M12 (pc_q := 25) (st_q := [.int 0, .ref 28]) rfl rfl rfl ?_
  refine pm_R_cs pm_M12 (pc_q := 28) (ra := [.int 0, .ref 28]) (rest := []) (ls_q := [.ref 28, .int 0, pm_no, pm_no]) rfl rfl (Or.inl rfl) pm_M13 rfl rfl (Nat.le_of_ble_eq_true rfl) rfl rfl ?_
  refine pm_R_op pm_M13 (pc_q := 1) (st_q := [.int 0]) rfl rfl rfl ?_
  refine pm_R_lo pm_M13 (pc_q := 2) (ls_q := [.ref 28, .int 0, .int 0, pm_no]) (st_q := []) rfl rfl rfl ?_
  refine pm_R_lo pm_M13 (pc_q := 3) rfl rfl rfl ?_
  have e76 := (F62.cell G (by decide) (by decide) (F43.cell G (by decide) (by decide) (F23.cell G (by decide) (by decide) (F9.cell G (by decide) (by decide) e2))))
  refine pm_R_alen pm_M13 (pc_q := 4) (v := 10) rfl e76 (by decide) (T58.lt (by decide)) (by decide) rfl rfl ?_
  refine pm_R_lo pm_M13 (pc_q := 5) (ls_q := [.ref 28, .int 0, .int 0, .int 10]) (st_q := []) rfl rfl rfl ?_
  refine pm_R_lo pm_M13 (pc_q := 6) rfl rfl rfl ?_
  refine pm_R_lo pm_M13 (pc_q := 7) rfl rfl rfl ?_
  refine pm_R_br pm_M13 (pc_q := 10) (st_q := []) rfl rfl ?_
  refine pm_R_lo pm_M13 (pc_q := 11) rfl rfl rfl ?_
  refine pm_R_lo pm_M13 (pc_q := 12) rfl rfl rfl ?_
  refine pm_R_lo pm_M13 (pc_q := 13) rfl rfl rfl ?_
  refine cl_R_ist G pm_M13 T58 (pc_q := 14) rfl e76 (by decide) ⟨_, rfl⟩ rfl rfl (fun h77 T78 F79 e80 => ?_)
  have F81 := F79.cl (ck := ck) T58.1
  have F82 := F63.trans (N := 0) (S := 0) F81 (by decide) (by decide) (by decide)
  refine pm_R_lo pm_M13 (pc_q := 17) (ls_q := [.ref 28, .int 0, .int 1, .int 10]) (st_q := []) rfl rfl rfl ?_
  refine pm_R_br pm_M13 (pc_q := 5) rfl rfl ?_
  refine pm_R_lo pm_M13 (pc_q := 6) rfl rfl rfl ?_
  refine pm_R_lo pm_M13 (pc_q := 7) rfl rfl rfl ?_
  refine pm_R_br pm_M13 (pc_q := 10) (st_q := []) rfl rfl ?_
  refine pm_R_lo pm_M13 (pc_q := 11) rfl rfl rfl ?_
  refine pm_R_lo pm_M13 (pc_q := 12) rfl rfl rfl ?_
  refine pm_R_lo pm_M13 (pc_q := 13) rfl rfl rfl ?_
  refine cl_R_ist G pm_M13 T78 (pc_q := 14) rfl e80 (by decide) ⟨_, rfl⟩ rfl rfl (fun h83 T84 F85 e86 => ?_)
  have F87 := F85.cl (ck := ck) T78.1
  have F88 := F82.trans (N := 0) (S := 0) F87 (by decide) (by decide) (by decide)
  refine pm_R_lo pm_M13 (pc_q := 17) (ls_q := [.ref 28, .int 0, .int 2, .int 10]) (st_q := []) rfl rfl rfl ?_
  refine pm_R_br pm_M13 (pc_q := 5) rfl rfl ?_
  refine pm_R_lo pm_M13 (pc_q := 6) rfl rfl rfl ?_
  refine pm_R_lo pm_M13 (pc_q := 7) rfl rfl rfl ?_
  refine pm_R_br pm_M13 (pc_q := 10) (st_q := []) rfl rfl ?_
  refine pm_R_lo pm_M13 (pc_q := 11) rfl rfl rfl ?_
  refine pm_R_lo pm_M13 (pc_q := 12) rfl rfl rfl ?_
  refine pm_R_lo pm_M13 (pc_q := 13) rfl rfl rfl ?_
  refine cl_R_ist G pm_M13 T84 (pc_q := 14) rfl e86 (by decide) ⟨_, rfl⟩ rfl rfl (fun h89 T90 F91 e92 => ?_)
  have F93 := F91.cl (ck := ck) T84.1
  have F94 := F88.trans (N := 0) (S := 0) F93 (by decide) (by decide) (by decide)
  refine pm_R_lo pm_M13 (pc_q := 17) (ls_q := [.ref 28, .int 0, .int 3, .int 10]) (st_q := []) rfl rfl rfl ?_
  refine pm_R_br pm_M13 (pc_q := 5) rfl rfl ?_
  refine pm_R_lo pm_M13 (pc_q := 6) rfl rfl rfl ?_
  refine pm_R_lo pm_M13 (pc_q := 7) rfl rfl rfl ?_
  refine pm_R_br pm_M13 (pc_q := 10) (st_q := []) rfl rfl ?_
  refine pm_R_lo pm_M13 (pc_q := 11) rfl rfl rfl ?_
  refine pm_R_lo pm_M13 (pc_q := 12) rfl rfl rfl ?_
  refine pm_R_lo pm_M13 (pc_q := 13) rfl rfl rfl ?_
  refine cl_R_ist G pm_M13 T90 (pc_q := 14) rfl e92 (by decide) ⟨_, rfl⟩ rfl rfl (fun h95 T96 F97 e98 => ?_)
  have F99 := F97.cl (ck := ck) T90.1
  have F100 := F94.trans (N := 0) (S := 0) F99 (by decide) (by decide) (by decide)
  refine pm_R_lo pm_M13 (pc_q := 17) (ls_q := [.ref 28, .int 0, .int 4, .int 10]) (st_q := []) rfl rfl rfl ?_
  refine pm_R_br pm_M13 (pc_q := 5) rfl rfl ?_
  refine pm_R_lo pm_M13 (pc_q := 6) rfl rfl rfl ?_
  refine pm_R_lo pm_M13 (pc_q := 7) rfl rfl rfl ?_
  refine pm_R_br pm_M13 (pc_q := 10) (st_q := []) rfl rfl ?_
  refine pm_R_lo pm_M13 (pc_q := 11) rfl rfl rfl ?_
  refine pm_R_lo pm_M13 (pc_q := 12) rfl rfl rfl ?_
  refine pm_R_lo pm_M13 (pc_q := 13) rfl rfl rfl ?_
  refine cl_R_ist G pm_M13 T96 (pc_q := 14) rfl e98 (by decide) ⟨_, rfl⟩ rfl rfl (fun h101 T102 F103 e104 => ?_)
  have F105 := F103.cl (ck := ck) T96.1
  have F106 := F100.trans (N := 0) (S := 0) F105 (by decide) (by decide) (by decide)
  refine pm_R_lo pm_M13 (pc_q := 17) (ls_q := [.ref 28, .int 0, .int 5, .int 10]) (st_q := []) rfl rfl rfl ?_
  refine pm_R_br pm_M13 (pc_q := 5) rfl rfl ?_
  refine pm_R_lo pm_M13 (pc_q := 6) rfl rfl rfl ?_
  refine pm_R_lo pm_M13 (pc_q := 7) rfl rfl rfl ?_
  refine pm_R_br pm_M13 (pc_q := 10) (st_q := []) rfl rfl ?_
  refine pm_R_lo pm_M13 (pc_q := 11) rfl rfl rfl ?_
  refine pm_R_lo pm_M13 (pc_q := 12) rfl rfl rfl ?_
  refine pm_R_lo pm_M13 (pc_q := 13) rfl rfl rfl ?_
  refine cl_R_ist G pm_M13 T102 (pc_q := 14) rfl e104 (by decide) ⟨_, rfl⟩ rfl rfl (fun h107 T108 F109 e110 => ?_)
  have F111 := F109.cl (ck := ck) T102.1
  have F112 := F106.trans (N := 0) (S := 0) F111 (by decide) (by decide) (by decide)
  refine pm_R_lo pm_M13 (pc_q := 17) (ls_q := [.ref 28, .int 0, .int 6, .int 10]) (st_q := []) rfl rfl rfl ?_
  refine pm_R_br pm_M13 (pc_q := 5) rfl rfl ?_
  refine pm_R_lo pm_M13 (pc_q := 6) rfl rfl rfl ?_
  refine pm_R_lo pm_M13 (pc_q := 7) rfl rfl rfl ?_
  refine pm_R_br pm_M13 (pc_q := 10) (st_q := []) rfl rfl ?_
  refine pm_R_lo pm_M13 (pc_q := 11) rfl rfl rfl ?_
  refine pm_R_lo pm_M13 (pc_q := 12) rfl rfl rfl ?_
  refine pm_R_lo pm_M13 (pc_q := 13) rfl rfl rfl ?_
  refine cl_R_ist G pm_M13 T108 (pc_q := 14) rfl e110 (by decide) ⟨_, rfl⟩ rfl rfl (fun h113 T114 F115 e116 => ?_)
  have F117 := F115.cl (ck := ck) T108.1
  have F118 := F112.trans (N := 0) (S := 0) F117 (by decide) (by decide) (by decide)
  refine pm_R_lo pm_M13 (pc_q := 17) (ls_q := [.ref 28, .int 0, .int 7, .int 10]) (st_q := []) rfl rfl rfl ?_
  refine pm_R_br pm_M13 (pc_q := 5) rfl rfl ?_
  refine pm_R_lo pm_M13 (pc_q := 6) rfl rfl rfl ?_
  refine pm_R_lo pm_M13 (pc_q := 7) rfl rfl rfl ?_
  refine pm_R_br pm_M13 (pc_q := 10) (st_q := []) rfl rfl ?_
  refine pm_R_lo pm_M13 (pc_q := 11) rfl rfl rfl ?_
  refine pm_R_lo pm_M13 (pc_q := 12) rfl rfl rfl ?_
  refine pm_R_lo pm_M13 (pc_q := 13) rfl rfl rfl ?_
  refine cl_R_ist G pm_M13 T114 (pc_q := 14) rfl e116 (by decide) ⟨_, rfl⟩ rfl rfl (fun h119 T120 F121 e122 => ?_)
  have F123 := F121.cl (ck := ck) T114.1
  have F124 := F118.trans (N := 0) (S := 0) F123 (by decide) (by decide) (by decide)
  refine pm_R_lo pm_M13 (pc_q := 17) (ls_q := [.ref 28, .int 0, .int 8, .int 10]) (st_q := []) rfl rfl rfl ?_
  refine pm_R_br pm_M13 (pc_q := 5) rfl rfl ?_
  refine pm_R_lo pm_M13 (pc_q := 6) rfl rfl rfl ?_
  refine pm_R_lo pm_M13 (pc_q := 7) rfl rfl rfl ?_
  refine pm_R_br pm_M13 (pc_q := 10) (st_q := []) rfl rfl ?_
  refine pm_R_lo pm_M13 (pc_q := 11) rfl rfl rfl ?_
  refine pm_R_lo pm_M13 (pc_q := 12) rfl rfl rfl ?_
  refine pm_R_lo pm_M13 (pc_q := 13) rfl rfl rfl ?_
  refine cl_R_ist G pm_M13 T120 (pc_q := 14) rfl e122 (by decide) ⟨_, rfl⟩ rfl rfl (fun h125 T126 F127 e128 => ?_)
  have F129 := F127.cl (ck := ck) T120.1
  have F130 := F124.trans (N := 0) (S := 0) F129 (by decide) (by decide) (by decide)
  refine pm_R_lo pm_M13 (pc_q := 17) (ls_q := [.ref 28, .int 0, .int 9, .int 10]) (st_q := []) rfl rfl rfl ?_
  refine pm_R_br pm_M13 (pc_q := 5) rfl rfl ?_
  refine pm_R_lo pm_M13 (pc_q := 6) rfl rfl rfl ?_
  refine pm_R_lo pm_M13 (pc_q := 7) rfl rfl rfl ?_
  refine pm_R_br pm_M13 (pc_q := 10) (st_q := []) rfl rfl ?_
  refine pm_R_lo pm_M13 (pc_q := 11) rfl rfl rfl ?_
  refine pm_R_lo pm_M13 (pc_q := 12) rfl rfl rfl ?_
  refine pm_R_lo pm_M13 (pc_q := 13) rfl rfl rfl ?_
  refine cl_R_ist G pm_M13 T126 (pc_q := 14) rfl e128 (by decide) ⟨_, rfl⟩ rfl rfl (fun h131 T132 F133 e134 => ?_)
  have F135 := F133.cl (ck := ck) T126.1
  have F136 := F130.trans (N := 0) (S := 0) F135 (by decide) (by decide) (by decide)
  refine pm_R_lo pm_M13 (pc_q := 17) (ls_q := [.ref 28, .int 0, .int 10, .int 10]) (st_q := []) rfl rfl rfl ?_
  refine pm_R_br pm_M13 (pc_q := 5) rfl rfl ?_
  refine pm_R_lo pm_M13 (pc_q := 6) rfl rfl rfl ?_
  refine pm_R_lo pm_M13 (pc_q := 7) rfl rfl rfl ?_
  refine pm_R_br pm_M13 (pc_q := 20) (st_q := []) rfl rfl ?_
  refine pm_R_ret pm_M13 (r := none) rfl rfl ?_
  show pm_R _ 12 28 [.ref 25] [] _ _
  refine pm_R_lo pm_M12 (pc_q := 29) rfl rfl rfl ?_
  refine pm_R_op pm_M12 (pc_q := 30) (st_q := [.int 4, .ref 25]) rfl rfl rfl ?_
  refine cl_R_put25 G pm_M12 T132 (k := 7) (pc_q := 33) rfl rfl rfl (by decide) rfl rfl (sf_weak sf_k4 (by decide) (by decide)) rfl rfl rfl rfl rfl (fun h137 m140 em141 T138 F139 => ?_)
  have F142 := F139.cl (ck := ck) T132.1
  have F143 := F136.trans (N := 0) (S := 0) F142 (by decide) (by decide) (by decide)
  have B144 : sf_B 0 0 (m140 3) := by rw [em141]; exact B64
  have ek145 : (m140 3).toInt = ((m7 3)).toInt := by rw [em141]; exact ek65
  have B146 : sf_B (-1) 99 (m140 8) := by rw [em141]; exact B68
  have ek147 : (m140 8).toInt = ((m7 8)).toInt := by rw [em141]; exact ek69
  have B148 : sf_B (-1) (-1) (m140 4) := by rw [em141]; exact B70
  have B149 : sf_B 0 0 (m140 5) := by rw [em141]; exact B71
  have ek150 : (m140 5).toInt = ((m41 5)).toInt := by rw [em141]; exact ek72
  have B151 : sf_B 0 0 (m140 6) := by rw [em141]; exact B73
  have ek152 : (m140 6).toInt = ((m60 6)).toInt := by rw [em141]; rfl
  have B153 : sf_B 4 4 (m140 7) := by rw [em141]; exact sf_k4
  have W155 : rf_W [3, 4, 5, 6, 7, 8, 9, 10, 11, 12, 13] m m140 := by rw [em141]; exact W75.put (by decide)
  refine pm_R_lo pm_M12 (pc_q := 34) rfl rfl rfl ?_
  refine pm_R_op pm_M12 (pc_q := 35) (st_q := [.int (-1), .ref 25]) rfl rfl rfl ?_
  refine cl_R_put25 G pm_M12 T138 (k := 8) (pc_q := 38) rfl rfl rfl (by decide) rfl rfl (sf_weak sf_kn1 (by decide) (by decide)) rfl rfl rfl rfl rfl (fun h156 m159 em160 T157 F158 => ?_)
  have F161 := F158.cl (ck := ck) T138.1
  have F162 := F143.trans (N := 0) (S := 0) F161 (by decide) (by decide) (by decide)
  have B163 : sf_B 0 0 (m159 3) := by rw [em160]; exact B144
  have ek164 : (m159 3).toInt = ((m7 3)).toInt := by rw [em160]; exact ek145
  have B165 : sf_B (-1) (-1) (m159 4) := by rw [em160]; exact B148
  have B166 : sf_B 0 0 (m159 5) := by rw [em160]; exact B149
  have ek167 : (m159 5).toInt = ((m41 5)).toInt := by rw [em160]; exact ek150
  have B168 : sf_B 0 0 (m159 6) := by rw [em160]; exact B151
  have ek169 : (m159 6).toInt = ((m60 6)).toInt := by rw [em160]; exact ek152
  have B170 : sf_B 4 4 (m159 7) := by rw [em160]; exact B153
  have ek171 : (m159 7).toInt = ((m140 7)).toInt := by rw [em160]; rfl
  have B172 : sf_B (-1) (-1) (m159 8) := by rw [em160]; exact sf_kn1
  have W174 : rf_W [3, 4, 5, 6, 7, 8, 9, 10, 11, 12, 13] m m159 := by rw [em160]; exact W155.put (by decide)
  refine pm_R_ret pm_M12 (r := none) rfl rfl ?_
  show pm_R _ 11 4 [.ref 25, .int a0, .int 0, pm_no] [] _ _
  refine pm_R_lo pm_M11 (pc_q := 5) rfl rfl rfl ?_
  refine pm_R_get pm_M11 (pc_q := 8) (v := .ref 30) rfl rfl T157.e25 (by decide) (T157.lt (by decide)) rfl rfl ?_
  refine pm_R_lo pm_M11 (pc_q := 9) rfl rfl rfl ?_
  refine pm_R_cv pm_M11 (pc_q := 12) (a := 30) (ra := [.int a0]) (rest := []) (ls_q := [.ref 30, .int a0]) rfl rfl (Or.inl rfl) pm_M14 T157.e30 rfl (by decide) (T157.lt (by decide)) rfl rfl (Nat.le_of_ble_eq_true rfl) rfl rfl ?_
  refine cl_c14 (d := d + 8) G T157 Ba0 (fun m177 h178 T179 F180 W181 => ?_)
  have F182 := F162.trans (N := 0) (S := 0) F180 (by decide) (by decide) (by decide)
  have B183 : sf_B 0 0 (m177 3) := by rw [W181 3 (by decide)]; exact B163
  have ek184 : (m177 3).toInt = ((m7 3)).toInt := by rw [W181 3 (by decide)]; exact ek164
  have B185 : sf_B (-1) (-1) (m177 4) := by rw [W181 4 (by decide)]; exact B165
  have B186 : sf_B 0 0 (m177 5) := by rw [W181 5 (by decide)]; exact B166
  have ek187 : (m177 5).toInt = ((m41 5)).toInt := by rw [W181 5 (by decide)]; exact ek167
  have B188 : sf_B 0 0 (m177 6) := by rw [W181 6 (by decide)]; exact B168
  have ek189 : (m177 6).toInt = ((m60 6)).toInt := by rw [W181 6 (by decide)]; exact ek169
  have B190 : sf_B 4 4 (m177 7) := by rw [W181 7 (by decide)]; exact B170
  have ek191 : (m177 7).toInt = ((m140 7)).toInt := by rw [W181 7 (by decide)]; exact ek171
  have B192 : sf_B (-1) (-1) (m177 8) := by rw [W181 8 (by decide)]; exact B172
  have ek193 : (m177 8).toInt = ((m159 8)).toInt := by rw [W181 8 (by decide)]
  have W194 : rf_W [3, 4, 5, 6, 7, 8, 9, 10, 11, 12, 13] m m177 := W174.trans W181 (by decide)
  show pm_R _ 11 12 [.ref 25, .int a0, .int 0, pm_no] [] _ _
  refine pm_R_lo pm_M11 (pc_q := 13) rfl rfl rfl ?_
  refine pm_R_op pm_M11 (pc_q := 14) (st_q := [.int 1, .int 0]) rfl rfl rfl ?_
  refine pm_R_br pm_M11 (pc_q := 24) (st_q := []) rfl rfl ?_
  refine pm_R_lo pm_M11 (pc_q := 25) rfl rfl rfl ?_
  refine pm_R_lo pm_M11 (pc_q := 26) rfl rfl rfl ?_
  refine pm_R_cv pm_M11 (pc_q := 29) (a := 25) (ra := [.int 0]) (rest := []) (ls_q := [.ref 25, .int 0, pm_no]) rfl rfl (Or.inl rfl) pm_M22 T179.e25 rfl (by decide) (T179.lt (by decide)) rfl rfl (Nat.le_of_ble_eq_true rfl) rfl rfl ?_
  obtain ⟨f195, e196⟩ := T179.C 26 (by decide) (by decide)
  obtain ⟨f198, e199⟩ := T179.C 27 (by decide) (by decide)
  have e201 := (F180.cell G (by decide) (by decide) (F161.cell G (by decide) (by decide) (F142.cell G (by decide) (by decide) e134)))
  refine cl_c22_0 (d := d + 0) G T179 (fun _ => ⟨_, _, e196, e199, cl_RF.start (cl_aux83 _ B186.1 B186.2) (cl_aux83 _ B188.1 B188.2) (cl_aux84 _ B190.1 B190.2)⟩) ⟨_, e201, (sf_upd (sf_upd (sf_upd (sf_upd (sf_upd (sf_upd (sf_upd (sf_upd (sf_upd (sf_upd b3 (sf_weak sf_k0 (by decide) (by decide)) _) (sf_weak sf_k0 (by decide) (by decide)) _) (sf_weak sf_k0 (by decide) (by decide)) _) (sf_weak sf_k0 (by decide) (by decide)) _) (sf_weak sf_k0 (by decide) (by decide)) _) (sf_weak sf_k0 (by decide) (by decide)) _) (sf_weak sf_k0 (by decide) (by decide)) _) (sf_weak sf_k0 (by decide) (by decide)) _) (sf_weak sf_k0 (by decide) (by decide)) _) (sf_weak sf_k0 (by decide) (by decide)) _)⟩ (fun r202 m204 h205 T206 F207 W208 X209 X210 B203 => ?_)
  have F211 := F182.trans (N := 0) (S := 0) F207 (by decide) (by decide) (by decide)
  have W212 : rf_W [3, 4, 5, 6, 7, 8, 9, 10, 11, 12, 13] m m204 := W194.trans W208 (by decide)
  have B213 : sf_B 0 4 (m204 3) := T206.B 3
  have B214 : sf_B 0 50 (m204 5) := T206.B 5
  have B215 : sf_B 0 16 (m204 6) := T206.B 6
  have B216 : sf_B 0 99 (m204 7) := T206.B 7
  have B217 : sf_B (-1) 99 (m204 8) := T206.B 8
  show pm_R _ 11 29 [.ref 25, .int a0, .int 0, pm_no] [.int r202] _ _
  obtain ⟨f218, e219, b220⟩ := id X210
  obtain ⟨f221, e222⟩ := T206.C 26 (by decide) (by decide)
  obtain ⟨f224, e225⟩ := T206.C 27 (by decide) (by decide)
  refine pm_R_lo pm_M11 (pc_q := 30) (ls_q := [.ref 25, .int a0, .int 0, .int r202]) (st_q := []) rfl rfl rfl ?_
  refine pm_R_lo pm_M11 (pc_q := 31) rfl rfl rfl ?_
  refine pm_R_ifc pm_M11 (t := 53) (pc_q := 34) rfl rfl rfl (fun c227 => ?_) (fun c227 => ?_)
  · have B228 : sf_B 1 1 r202 := sf_neL0 c227 sf_k0 B203
    refine pm_R_lo pm_M11 (pc_q := 54) rfl rfl rfl ?_
    refine pm_R_op pm_M11 (pc_q := 55) (st_q := [.int 1, .int 0]) rfl rfl rfl ?_
    refine pm_R_br pm_M11 (pc_q := 65) (st_q := []) rfl rfl ?_
    refine pm_R_lo pm_M11 (pc_q := 66) rfl rfl rfl ?_
    refine pm_R_op pm_M11 (pc_q := 67) (st_q := [.int 2, .int 0]) rfl rfl rfl ?_
    refine pm_R_br pm_M11 (pc_q := 87) (st_q := []) rfl rfl ?_
    exact pm_R_ret pm_M11 (r := none) rfl rfl (K m204 h205 T206 F211 W212 (fun z => ⟨_, _, e222, e225, (X209.at (cl_aux67 _ z) e222 e225).keep rfl rfl rfl rfl⟩) ⟨_, e219, b220⟩)
  · have B229 : sf_B 0 0 r202 := sf_eqL (Classical.not_not.mp c227) sf_k0
    refine pm_R_lo pm_M11 (pc_q := 35) rfl rfl rfl ?_
    refine pm_R_op pm_M11 (pc_q := 36) (st_q := [.int 1, .ref 25]) rfl rfl rfl ?_
    refine cl_R_put25 G pm_M11 T206 (k := 3) (pc_q := 39) rfl rfl rfl (by decide) rfl rfl (sf_weak sf_k1 (by decide) (by decide)) rfl rfl rfl rfl rfl (fun h230 m233 em234 T231 F232 => ?_)
    have F235 := F232.cl (ck := ck) T206.1
    have F236 := F211.trans (N := 0) (S := 0) F235 (by decide) (by decide) (by decide)
    have B237 : sf_B 0 50 (m233 5) := by rw [em234]; exact B214
    have ek238 : (m233 5).toInt = ((m204 5)).toInt := by rw [em234]; rfl
    have B239 : sf_B 0 16 (m233 6) := by rw [em234]; exact B215
    have ek240 : (m233 6).toInt = ((m204 6)).toInt := by rw [em234]; rfl
    have B241 : sf_B 0 99 (m233 7) := by rw [em234]; exact B216
    have ek242 : (m233 7).toInt = ((m204 7)).toInt := by rw [em234]; rfl
    have B243 : sf_B (-1) 99 (m233 8) := by rw [em234]; exact B217
    have ek244 : (m233 8).toInt = ((m204 8)).toInt := by rw [em234]; rfl
    have B245 : sf_B 1 1 (m233 3) := by rw [em234]; exact sf_k1
    have W247 : rf_W [3, 4, 5, 6, 7, 8, 9, 10, 11, 12, 13] m m233 := by rw [em234]; exact W212.put (by decide)
    refine pm_R_lo pm_M11 (pc_q := 40) rfl rfl rfl ?_
    refine pm_R_lo pm_M11 (pc_q := 41) rfl rfl rfl ?_
    refine pm_R_get pm_M11 (pc_q := 44) (v := .ref 30) rfl rfl T231.e25 (by decide) (T231.lt (by decide)) rfl rfl ?_
    have B248 : sf_B 0 600 (m233 11) := T231.B 11
    refine pm_R_get pm_M11 (pc_q := 47) (v := .int (m233 11)) rfl rfl T231.e30 (by decide) (T231.lt (by decide)) rfl rfl ?_
    refine cl_R_put25 G pm_M11 T231 (k := 4) (pc_q := 50) rfl rfl rfl (by decide) rfl rfl (sf_weak B248 (by decide) (by decide)) rfl rfl rfl rfl rfl (fun h249 m252 em253 T250 F251 => ?_)
    have F254 := F251.cl (ck := ck) T231.1
    have F255 := F236.trans (N := 0) (S := 0) F254 (by decide) (by decide) (by decide)
    have B256 : sf_B 0 50 (m252 5) := by rw [em253]; exact B237
    have ek257 : (m252 5).toInt = ((m204 5)).toInt := by rw [em253]; exact ek238
    have B258 : sf_B 0 16 (m252 6) := by rw [em253]; exact B239
    have ek259 : (m252 6).toInt = ((m204 6)).toInt := by rw [em253]; exact ek240
    have B260 : sf_B 0 99 (m252 7) := by rw [em253]; exact B241
    have ek261 : (m252 7).toInt = ((m204 7)).toInt := by rw [em253]; exact ek242
    have B262 : sf_B (-1) 99 (m252 8) := by rw [em253]; exact B243
    have ek263 : (m252 8).toInt = ((m204 8)).toInt := by rw [em253]; exact ek244
    have B264 : sf_B 1 1 (m252 3) := by rw [em253]; exact B245
    have ek265 : (m252 3).toInt = ((m233 3)).toInt := by rw [em253]; rfl
    have B266 : sf_B 0 600 (m252 4) := by rw [em253]; exact B248
    have ek267 : (m252 4).toInt = ((m233 11)).toInt := by rw [em253]; rfl
    have W268 : rf_W [3, 4, 5, 6, 7, 8, 9, 10, 11, 12, 13] m m252 := by rw [em253]; exact W247.put (by decide)
    refine pm_R_br pm_M11 (pc_q := 87) rfl rfl ?_
    have e269 := (F254.cell G (by decide) (by decide) (F235.cell G (by decide) (by decide) e222))
    have e270 := (F254.cell G (by decide) (by decide) (F235.cell G (by decide) (by decide) e219))
    exact pm_R_ret pm_M11 (r := none) rfl rfl (K m252 h249 T250 F255 W268 (fun z => sf_pos B264 (by decide) z) ⟨_, e270, b220⟩)

theorem cl_aux85 (v0 : Int) (q0 : 1 ≤ v0) (q1 : v0 ≤ 50) : 1 ≤ v0 := by omega
set_option maxRecDepth 100000 in
set_option maxHeartbeats 4000000 in
/-- SilentTable$TextReader.readTape -/
theorem cl_c11_1 {d : Nat} {ck : cl_K} {E : Nat → pm_E} {m : Nat → Int32} {o : Nat → Option Nat} {h : pm_H} {Q : Option Value → pm_H → Prop} {a0 : Int32} (G : cl_G ck E) (T : cl_T ck E m o h) (Ba0 : sf_B 0 600 a0) (Y : cl_Y h) (K : ∀ (m_q : Nat → Int32) (h_q : pm_H), cl_T ck E m_q o h_q → cl_F ck [25, 26, 28, 30] 0 0 h h_q → rf_W [3, 4, 5, 6, 7, 8, 9, 10, 11, 12, 13] m m_q → cl_Rd 1 m_q h_q → cl_Y h_q → ((m_q 3).toInt = 0 → 1 ≤ (m_q 5).toInt) → Q none h_q) : pm_R (d + 9) 11 0 [.ref 25, .int a0, .int 1, pm_no] [] h Q := by
  obtain ⟨f1, e2, b3⟩ := id Y
  refine pm_R_lo pm_M11 (pc_q := 1) rfl rfl rfl ?_
  refine pm_R_cv pm_M11 (pc_q := 4) (a := 25) (ra := []) (rest := []) (ls_q := [.ref 25]) rfl rfl (Or.inl rfl) pm_M12 T.e25 rfl (by decide) (T.lt (by decide)) rfl rfl (Nat.le_of_ble_eq_true rfl) rfl rfl ?_
  refine pm_R_lo pm_M12 (pc_q := 1) rfl rfl rfl ?_
  refine pm_R_op pm_M12 (pc_q := 2) (st_q := [.int 0, .ref 25]) rfl rfl rfl ?_
  refine cl_R_put25 G pm_M12 T (k := 3) (pc_q := 5) rfl rfl rfl (by decide) rfl rfl (sf_weak sf_k0 (by decide) (by decide)) rfl rfl rfl rfl rfl (fun h4 m7 em8 T5 F6 => ?_)
  have F9 := F6.cl (ck := ck) T.1
  have F10 := (cl_F.refl (ck := ck) (A := [25, 26, 28, 30]) (n := 0) (s := 0) T.1).trans (N := 0) (S := 0) F9 (by decide) (by decide) (by decide)
  have B11 : sf_B 0 0 (m7 3) := by rw [em8]; exact sf_k0
  have W13 : rf_W [3, 4, 5, 6, 7, 8, 9, 10, 11, 12, 13] m m7 := by rw [em8]; exact (rf_W.refl [3, 4, 5, 6, 7, 8, 9, 10, 11, 12, 13] m).put (by decide)
  have B14 : sf_B 0 50 (m7 5) := T5.B 5
  have B15 : sf_B 0 16 (m7 6) := T5.B 6
  have B16 : sf_B 0 99 (m7 7) := T5.B 7
  have B17 : sf_B (-1) 99 (m7 8) := T5.B 8
  refine pm_R_lo pm_M12 (pc_q := 6) rfl rfl rfl ?_
  refine pm_R_op pm_M12 (pc_q := 7) (st_q := [.int (-1), .ref 25]) rfl rfl rfl ?_
  refine cl_R_put25 G pm_M12 T5 (k := 4) (pc_q := 10) rfl rfl rfl (by decide) rfl rfl (sf_weak sf_kn1 (by decide) (by decide)) rfl rfl rfl rfl rfl (fun h18 m21 em22 T19 F20 => ?_)
  have F23 := F20.cl (ck := ck) T5.1
  have F24 := F10.trans (N := 0) (S := 0) F23 (by decide) (by decide) (by decide)
  have B25 : sf_B 0 0 (m21 3) := by rw [em22]; exact B11
  have ek26 : (m21 3).toInt = ((m7 3)).toInt := by rw [em22]; rfl
  have B27 : sf_B 0 50 (m21 5) := by rw [em22]; exact B14
  have ek28 : (m21 5).toInt = ((m7 5)).toInt := by rw [em22]; rfl
  have B29 : sf_B 0 16 (m21 6) := by rw [em22]; exact B15
  have ek30 : (m21 6).toInt = ((m7 6)).toInt := by rw [em22]; rfl
  have B31 : sf_B 0 99 (m21 7) := by rw [em22]; exact B16
  have ek32 : (m21 7).toInt = ((m7 7)).toInt := by rw [em22]; rfl
  have B33 : sf_B (-1) 99 (m21 8) := by rw [em22]; exact B17
  have ek34 : (m21 8).toInt = ((m7 8)).toInt := by rw [em22]; rfl
  have B35 : sf_B (-1) (-1) (m21 4) := by rw [em22]; exact sf_kn1
  have W37 : rf_W [3, 4, 5, 6, 7, 8, 9, 10, 11, 12, 13] m m21 := by rw [em22]; exact W13.put (by decide)
  refine pm_R_lo pm_M12 (pc_q := 11) rfl rfl rfl ?_
  refine pm_R_op pm_M12 (pc_q := 12) (st_q := [.int 0, .ref 25]) rfl rfl rfl ?_
  refine cl_R_put25 G pm_M12 T19 (k := 5) (pc_q := 15) rfl rfl rfl (by decide) rfl rfl (sf_weak sf_k0 (by decide) (by decide)) rfl rfl rfl rfl rfl (fun h38 m41 em42 T39 F40 => ?_)
  have F43 := F40.cl (ck := ck) T19.1
  have F44 := F24.trans (N := 0) (S := 0) F43 (by decide) (by decide) (by decide)
  have B45 : sf_B 0 0 (m41 3) := by rw [em42]; exact B25
  have ek46 : (m41 3).toInt = ((m7 3)).toInt := by rw [em42]; exact ek26
  have B47 : sf_B 0 16 (m41 6) := by rw [em42]; exact B29
  have ek48 : (m41 6).toInt = ((m7 6)).toInt := by rw [em42]; exact ek30
  have B49 : sf_B 0 99 (m41 7) := by rw [em42]; exact B31
  have ek50 : (m41 7).toInt = ((m7 7)).toInt := by rw [em42]; exact ek32
  have B51 : sf_B (-1) 99 (m41 8) := by rw [em42]; exact B33
  have ek52 : (m41 8).toInt = ((m7 8)).toInt := by rw [em42]; exact ek34
  have B53 : sf_B (-1) (-1) (m41 4) := by rw [em42]; exact B35
  have B54 : sf_B 0 0 (m41 5) := by rw [em42]; exact sf_k0
  have W56 : rf_W [3, 4, 5, 6, 7, 8, 9, 10, 11, 12, 13] m m41 := by rw [em42]; exact W37.put (by decide)
  refine pm_R_lo pm_M12 (pc_q := 16) rfl rfl rfl ?_
  refine pm_R_op pm_M12 (pc_q := 17) (st_q := [.int 0, .ref 25]) rfl rfl rfl ?_
  refine cl_R_put25 G pm_M12 T39 (k := 6) (pc_q := 20) rfl rfl rfl (by decide) rfl rfl (sf_weak sf_k0 (by decide) (by decide)) rfl rfl rfl rfl rfl (fun h57 m60 em61 T58 F59 => ?_)
  have F62 := F59.cl (ck := ck) T39.1
  have F63 := F44.trans (N := 0) (S := 0) F62 (by decide) (by decide) (by decide)
  have B64 : sf_B 0 0 (m60 3) := by rw [em61]; exact B45
  have ek65 : (m60 3).toInt = ((m7 3)).toInt := by rw [em61]; exact ek46
  have B66 : sf_B 0 99 (m60 7) := by rw [em61]; exact B49
  have ek67 : (m60 7).toInt = ((m7 7)).toInt := by rw [em61]; exact ek50
  have B68 : sf_B (-1) 99 (m60 8) := by rw [em61]; exact B51
  have ek69 : (m60 8).toInt = ((m7 8)).toInt := by rw [em61]; exact ek52
  have B70 : sf_B (-1) (-1) (m60 4) := by rw [em61]; exact B53
  have B71 : sf_B 0 0 (m60 5) := by rw [em61]; exact B54
  have ek72 : (m60 5).toInt = ((m41 5)).toInt := by rw [em61]; rfl
  have B73 : sf_B 0 0 (m60 6) := by rw [em61]; exact sf_k0
  have W75 : rf_W [3, 4, 5, 6, 7, 8, 9, 10, 11, 12, 13] m m60 := by rw [em61]; exact W56.put (by decide)
  refine pm_R_lo pm_M12 (pc_q := 21) rfl rfl rfl ?_
  refine pm_R_get pm_M12 (pc_q := 24) (v := .ref 28) rfl rfl T58.e25 (by decide) (T58.lt (by decide)) rfl rfl ?_
  refine pm_R_op pm_M12 (pc_q := 25) (st_q := [.int 0, .ref 28]) rfl rfl rfl ?_
  refine pm_R_cs pm_M12 (pc_q := 28) (ra := [.int 0, .ref 28]) (rest := []) (ls_q := [.ref 28, .int 0, pm_no, pm_no]) rfl rfl (Or.inl rfl) pm_M13 rfl rfl (Nat.le_of_ble_eq_true rfl) rfl rfl ?_
  refine pm_R_op pm_M13 (pc_q := 1) (st_q := [.int 0]) rfl rfl rfl ?_
  refine pm_R_lo pm_M13 (pc_q := 2) (ls_q := [.ref 28, .int 0, .int 0, pm_no]) (st_q := []) rfl rfl rfl ?_
  refine pm_R_lo pm_M13 (pc_q := 3) rfl rfl rfl ?_
  have e76 := (F62.cell G (by decide) (by decide) (F43.cell G (by decide) (by decide) (F23.cell G (by decide) (by decide) (F9.cell G (by decide) (by decide) e2))))
  refine pm_R_alen pm_M13 (pc_q := 4) (v := 10) rfl e76 (by decide) (T58.lt (by decide)) (by decide) rfl rfl ?_
  refine pm_R_lo pm_M13 (pc_q := 5) (ls_q := [.ref 28, .int 0, .int 0, .int 10]) (st_q := []) rfl rfl rfl ?_
  refine pm_R_lo pm_M13 (pc_q := 6) rfl rfl rfl ?_
  refine pm_R_lo pm_M13 (pc_q := 7) rfl rfl rfl ?_
  refine pm_R_br pm_M13 (pc_q := 10) (st_q := []) rfl rfl ?_
  refine pm_R_lo pm_M13 (pc_q := 11) rfl rfl rfl ?_
  refine pm_R_lo pm_M13 (pc_q := 12) rfl rfl rfl ?_
  refine pm_R_lo pm_M13 (pc_q := 13) rfl rfl rfl ?_
  refine cl_R_ist G pm_M13 T58 (pc_q := 14) rfl e76 (by decide) ⟨_, rfl⟩ rfl rfl (fun h77 T78 F79 e80 => ?_)
  have F81 := F79.cl (ck := ck) T58.1
  have F82 := F63.trans (N := 0) (S := 0) F81 (by decide) (by decide) (by decide)
  refine pm_R_lo pm_M13 (pc_q := 17) (ls_q := [.ref 28, .int 0, .int 1, .int 10]) (st_q := []) rfl rfl rfl ?_
  refine pm_R_br pm_M13 (pc_q := 5) rfl rfl ?_
  refine pm_R_lo pm_M13 (pc_q := 6) rfl rfl rfl ?_
  refine pm_R_lo pm_M13 (pc_q := 7) rfl rfl rfl ?_
  refine pm_R_br pm_M13 (pc_q := 10) (st_q := []) rfl rfl ?_
  refine pm_R_lo pm_M13 (pc_q := 11) rfl rfl rfl ?_
  refine pm_R_lo pm_M13 (pc_q := 12) rfl rfl rfl ?_
  refine pm_R_lo pm_M13 (pc_q := 13) rfl rfl rfl ?_
  refine cl_R_ist G pm_M13 T78 (pc_q := 14) rfl e80 (by decide) ⟨_, rfl⟩ rfl rfl (fun h83 T84 F85 e86 => ?_)
  have F87 := F85.cl (ck := ck) T78.1
  have F88 := F82.trans (N := 0) (S := 0) F87 (by decide) (by decide) (by decide)
  refine pm_R_lo pm_M13 (pc_q := 17) (ls_q := [.ref 28, .int 0, .int 2, .int 10]) (st_q := []) rfl rfl rfl ?_
  refine pm_R_br pm_M13 (pc_q := 5) rfl rfl ?_
  refine pm_R_lo pm_M13 (pc_q := 6) rfl rfl rfl ?_
  refine pm_R_lo pm_M13 (pc_q := 7) rfl rfl rfl ?_
  refine pm_R_br pm_M13 (pc_q := 10) (st_q := []) rfl rfl ?_
  refine pm_R_lo pm_M13 (pc_q := 11) rfl rfl rfl ?_
  refine pm_R_lo pm_M13 (pc_q := 12) rfl rfl rfl ?_
  refine pm_R_lo pm_M13 (pc_q := 13) rfl rfl rfl ?_
  refine cl_R_ist G pm_M13 T84 (pc_q := 14) rfl e86 (by decide) ⟨_, rfl⟩ rfl rfl (fun h89 T90 F91 e92 => ?_)
  have F93 := F91.cl (ck := ck) T84.1
  have F94 := F88.trans (N := 0) (S := 0) F93 (by decide) (by decide) (by decide)
  refine pm_R_lo pm_M13 (pc_q := 17) (ls_q := [.ref 28, .int 0, .int 3, .int 10]) (st_q := []) rfl rfl rfl ?_
  refine pm_R_br pm_M13 (pc_q := 5) rfl rfl ?_
  refine pm_R_lo pm_M13 (pc_q := 6) rfl rfl rfl ?_
  refine pm_R_lo pm_M13 (pc_q := 7) rfl rfl rfl ?_
  refine pm_R_br pm_M13 (pc_q := 10) (st_q := []) rfl rfl ?_
  refine pm_R_lo pm_M13 (pc_q := 11) rfl rfl rfl ?_
  refine pm_R_lo pm_M13 (pc_q := 12) rfl rfl rfl ?_
  refine pm_R_lo pm_M13 (pc_q := 13) rfl rfl rfl ?_
  refine cl_R_ist G pm_M13 T90 (pc_q := 14) rfl e92 (by decide) ⟨_, rfl⟩ rfl rfl (fun h95 T96 F97 e98 => ?_)
  have F99 := F97.cl (ck := ck) T90.1
  have F100 := F94.trans (N := 0) (S := 0) F99 (by decide) (by decide) (by decide)
  refine pm_R_lo pm_M13 (pc_q := 17) (ls_q := [.ref 28, .int 0, .int 4, .int 10]) (st_q := []) rfl rfl rfl ?_
  refine pm_R_br pm_M13 (pc_q := 5) rfl rfl ?_
  refine pm_R_lo pm_M13 (pc_q := 6) rfl rfl rfl ?_
  refine pm_R_lo pm_M13 (pc_q := 7) rfl rfl rfl ?_
  refine pm_R_br pm_M13 (pc_q := 10) (st_q := []) rfl rfl ?_
  refine pm_R_lo pm_M13 (pc_q := 11) rfl rfl rfl ?_
  refine pm_R_lo pm_M13 (pc_q := 12) rfl rfl rfl ?_
  refine pm_R_lo pm_M13 (pc_q := 13) rfl rfl rfl ?_
  refine cl_R_ist G pm_M13 T96 (pc_q := 14) rfl e98 (by decide) ⟨_, rfl⟩ rfl rfl (fun h101 T102 F103 e104 => ?_)
  have F105 := F103.cl (ck := ck) T96.1
  have F106 := F100.trans (N := 0) (S := 0) F105 (by decide) (by decide) (by decide)
  refine pm_R_lo pm_M13 (pc_q := 17) (ls_q := [.ref 28, .int 0, .int 5, .int 10]) (st_q := []) rfl rfl rfl ?_
  refine pm_R_br pm_M13 (pc_q := 5) rfl rfl ?_
  refine pm_R_lo pm_M13 (pc_q := 6) rfl rfl rfl ?_
  refine pm_R_lo pm_M13 (pc_q := 7) rfl rfl rfl ?_
  refine pm_R_br pm_M13 (pc_q := 10) (st_q := []) rfl rfl ?_
  refine pm_R_lo pm_M13 (pc_q := 11) rfl rfl rfl ?_
  refine pm_R_lo pm_M13 (pc_q := 12) rfl rfl rfl ?_
  refine pm_R_lo pm_M13 (pc_q := 13) rfl rfl rfl ?_
  refine cl_R_ist G pm_M13 T102 (pc_q := 14) rfl e104 (by decide) ⟨_, rfl⟩ rfl rfl (fun h107 T108 F109 e110 => ?_)
  have F111 := F109.cl (ck := ck) T102.1
  have F112 := F106.trans (N := 0) (S := 0) F111 (by decide) (by decide) (by decide)
  refine pm_R_lo pm_M13 (pc_q := 17) (ls_q := [.ref 28, .int 0, .int 6, .int 10]) (st_q := []) rfl rfl rfl ?_
  refine pm_R_br pm_M13 (pc_q := 5) rfl rfl ?_
  refine pm_R_lo pm_M13 (pc_q := 6) rfl rfl rfl ?_
  refine pm_R_lo pm_M13 (pc_q := 7) rfl rfl rfl ?_
  refine pm_R_br pm_M13 (pc_q := 10) (st_q := []) rfl rfl ?_
  refine pm_R_lo pm_M13 (pc_q := 11) rfl rfl rfl ?_
  refine pm_R_lo pm_M13 (pc_q := 12) rfl rfl rfl ?_
  refine pm_R_lo pm_M13 (pc_q := 13) rfl rfl rfl ?_
  refine cl_R_ist G pm_M13 T108 (pc_q := 14) rfl e110 (by decide) ⟨_, rfl⟩ rfl rfl (fun h113 T114 F115 e116 => ?_)
  have F117 := F115.cl (ck := ck) T108.1
  have F118 := F112.trans (N := 0) (S := 0) F117 (by decide) (by decide) (by decide)
  refine pm_R_lo pm_M13 (pc_q := 17) (ls_q := [.ref 28, .int 0, .int 7, .int 10]) (st_q := []) rfl rfl rfl ?_
  refine pm_R_br pm_M13 (pc_q := 5) rfl rfl ?_
  refine pm_R_lo pm_M13 (pc_q := 6) rfl rfl rfl ?_
  refine pm_R_lo pm_M13 (pc_q := 7) rfl rfl rfl ?_
  refine pm_R_br pm_M13 (pc_q := 10) (st_q := []) rfl rfl ?_
  refine pm_R_lo pm_M13 (pc_q := 11) rfl rfl rfl ?_
  refine pm_R_lo pm_M13 (pc_q := 12) rfl rfl rfl ?_
  refine pm_R_lo pm_M13 (pc_q := 13) rfl rfl rfl ?_
  refine cl_R_ist G pm_M13 T114 (pc_q := 14) rfl e116 (by decide) ⟨_, rfl⟩ rfl rfl (fun h119 T120 F121 e122 => ?_)
  have F123 := F121.cl (ck := ck) T114.1
  have F124 := F118.trans (N := 0) (S := 0) F123 (by decide) (by decide) (by decide)
  refine pm_R_lo pm_M13 (pc_q := 17) (ls_q := [.ref 28, .int 0, .int 8, .int 10]) (st_q := []) rfl rfl rfl ?_
  refine pm_R_br pm_M13 (pc_q := 5) rfl rfl ?_
  refine pm_R_lo pm_M13 (pc_q := 6) rfl rfl rfl ?_
  refine pm_R_lo pm_M13 (pc_q := 7) rfl rfl rfl ?_
  refine pm_R_br pm_M13 (pc_q := 10) (st_q := []) rfl rfl ?_
  refine pm_R_lo pm_M13 (pc_q := 11) rfl rfl rfl ?_
  refine pm_R_lo pm_M13 (pc_q := 12) rfl rfl rfl ?_
  refine pm_R_lo pm_M13 (pc_q := 13) rfl rfl rfl ?_
  refine cl_R_ist G pm_M13 T120 (pc_q := 14) rfl e122 (by decide) ⟨_, rfl⟩ rfl rfl (fun h125 T126 F127 e128 => ?_)
  have F129 := F127.cl (ck := ck) T120.1
  have F130 := F124.trans (N := 0) (S := 0) F129 (by decide) (by decide) (by decide)
  refine pm_R_lo pm_M13 (pc_q := 17) (ls_q := [.ref 28, .int 0, .int 9, .int 10]) (st_q := []) rfl rfl rfl ?_
  refine pm_R_br pm_M13 (pc_q := 5) rfl rfl ?_
  refine pm_R_lo pm_M13 (pc_q := 6) rfl rfl rfl ?_
  refine pm_R_lo pm_M13 (pc_q := 7) rfl rfl rfl ?_
  refine pm_R_br pm_M13 (pc_q := 10) (st_q := []) rfl rfl ?_
  refine pm_R_lo pm_M13 (pc_q := 11) rfl rfl rfl ?_
  refine pm_R_lo pm_M13 (pc_q := 12) rfl rfl rfl ?_
  refine pm_R_lo pm_M13 (pc_q := 13) rfl rfl rfl ?_
  refine cl_R_ist G pm_M13 T126 (pc_q := 14) rfl e128 (by decide) ⟨_, rfl⟩ rfl rfl (fun h131 T132 F133 e134 => ?_)
  have F135 := F133.cl (ck := ck) T126.1
  have F136 := F130.trans (N := 0) (S := 0) F135 (by decide) (by decide) (by decide)
  refine pm_R_lo pm_M13 (pc_q := 17) (ls_q := [.ref 28, .int 0, .int 10, .int 10]) (st_q := []) rfl rfl rfl ?_
  refine pm_R_br pm_M13 (pc_q := 5) rfl rfl ?_
  refine pm_R_lo pm_M13 (pc_q := 6) rfl rfl rfl ?_
  refine pm_R_lo pm_M13 (pc_q := 7) rfl rfl rfl ?_
  refine pm_R_br pm_M13 (pc_q := 20) (st_q := []) rfl rfl ?_
  refine pm_R_ret pm_M13 (r := none) rfl rfl ?_
  show pm_R _ 12 28 [.ref 25] [] _ _
  refine pm_R_lo pm_M12 (pc_q := 29) rfl rfl rfl ?_
  refine pm_R_op pm_M12 (pc_q := 30) (st_q := [.int 4, .ref 25]) rfl rfl rfl ?_
  refine cl_R_put25 G pm_M12 T132 (k := 7) (pc_q := 33) rfl rfl rfl (by decide) rfl rfl (sf_weak sf_k4 (by decide) (by decide)) rfl rfl rfl rfl rfl (fun h137 m140 em141 T138 F139 => ?_)
  have F142 := F139.cl (ck := ck) T132.1
  have F143 := F136.trans (N := 0) (S := 0) F142 (by decide) (by decide) (by decide)
  have B144 : sf_B 0 0 (m140 3) := by rw [em141]; exact B64
  have ek145 : (m140 3).toInt = ((m7 3)).toInt := by rw [em141]; exact ek65
  have B146 : sf_B (-1) 99 (m140 8) := by rw [em141]; exact B68
  have ek147 : (m140 8).toInt = ((m7 8)).toInt := by rw [em141]; exact ek69
  have B148 : sf_B (-1) (-1) (m140 4) := by rw [em141]; exact B70
  have B149 : sf_B 0 0 (m140 5) := by rw [em141]; exact B71
  have ek150 : (m140 5).toInt = ((m41 5)).toInt := by rw [em141]; exact ek72
  have B151 : sf_B 0 0 (m140 6) := by rw [em141]; exact B73
  have ek152 : (m140 6).toInt = ((m60 6)).toInt := by rw [em141]; rfl
  have B153 : sf_B 4 4 (m140 7) := by rw [em141]; exact sf_k4
  have W155 : rf_W [3, 4, 5, 6, 7, 8, 9, 10, 11, 12, 13] m m140 := by rw [em141]; exact W75.put (by decide)
  refine pm_R_lo pm_M12 (pc_q := 34) rfl rfl rfl ?_
  refine pm_R_op pm_M12 (pc_q := 35) (st_q := [.int (-1), .ref 25]) rfl rfl rfl ?_
  refine cl_R_put25 G pm_M12 T138 (k := 8) (pc_q := 38) rfl rfl rfl (by decide) rfl rfl (sf_weak sf_kn1 (by decide) (by decide)) rfl rfl rfl rfl rfl (fun h156 m159 em160 T157 F158 => ?_)
  have F161 := F158.cl (ck := ck) T138.1
  have F162 := F143.trans (N := 0) (S := 0) F161 (by decide) (by decide) (by decide)
  have B163 : sf_B 0 0 (m159 3) := by rw [em160]; exact B144
  have ek164 : (m159 3).toInt = ((m7 3)).toInt := by rw [em160]; exact ek145
  have B165 : sf_B (-1) (-1) (m159 4) := by rw [em160]; exact B148
  have B166 : sf_B 0 0 (m159 5) := by rw [em160]; exact B149
  have ek167 : (m159 5).toInt = ((m41 5)).toInt := by rw [em160]; exact ek150
  have B168 : sf_B 0 0 (m159 6) := by rw [em160]; exact B151
  have ek169 : (m159 6).toInt = ((m60 6)).toInt := by rw [em160]; exact ek152
  have B170 : sf_B 4 4 (m159 7) := by rw [em160]; exact B153
  have ek171 : (m159 7).toInt = ((m140 7)).toInt := by rw [em160]; rfl
  have B172 : sf_B (-1) (-1) (m159 8) := by rw [em160]; exact sf_kn1
  have W174 : rf_W [3, 4, 5, 6, 7, 8, 9, 10, 11, 12, 13] m m159 := by rw [em160]; exact W155.put (by decide)
  refine pm_R_ret pm_M12 (r := none) rfl rfl ?_
  show pm_R _ 11 4 [.ref 25, .int a0, .int 1, pm_no] [] _ _
  refine pm_R_lo pm_M11 (pc_q := 5) rfl rfl rfl ?_
  refine pm_R_get pm_M11 (pc_q := 8) (v := .ref 30) rfl rfl T157.e25 (by decide) (T157.lt (by decide)) rfl rfl ?_
  refine pm_R_lo pm_M11 (pc_q := 9) rfl rfl rfl ?_
  refine pm_R_cv pm_M11 (pc_q := 12) (a := 30) (ra := [.int a0]) (rest := []) (ls_q := [.ref 30, .int a0]) rfl rfl (Or.inl rfl) pm_M14 T157.e30 rfl (by decide) (T157.lt (by decide)) rfl rfl (Nat.le_of_ble_eq_true rfl) rfl rfl ?_
  refine cl_c14 (d := d + 8) G T157 Ba0 (fun m177 h178 T179 F180 W181 => ?_)
  have F182 := F162.trans (N := 0) (S := 0) F180 (by decide) (by decide) (by decide)
  have B183 : sf_B 0 0 (m177 3) := by rw [W181 3 (by decide)]; exact B163
  have ek184 : (m177 3).toInt = ((m7 3)).toInt := by rw [W181 3 (by decide)]; exact ek164
  have B185 : sf_B (-1) (-1) (m177 4) := by rw [W181 4 (by decide)]; exact B165
  have B186 : sf_B 0 0 (m177 5) := by rw [W181 5 (by decide)]; exact B166
  have ek187 : (m177 5).toInt = ((m41 5)).toInt := by rw [W181 5 (by decide)]; exact ek167
  have B188 : sf_B 0 0 (m177 6) := by rw [W181 6 (by decide)]; exact B168
  have ek189 : (m177 6).toInt = ((m60 6)).toInt := by rw [W181 6 (by decide)]; exact ek169
  have B190 : sf_B 4 4 (m177 7) := by rw [W181 7 (by decide)]; exact B170
  have ek191 : (m177 7).toInt = ((m140 7)).toInt := by rw [W181 7 (by decide)]; exact ek171
  have B192 : sf_B (-1) (-1) (m177 8) := by rw [W181 8 (by decide)]; exact B172
  have ek193 : (m177 8).toInt = ((m159 8)).toInt := by rw [W181 8 (by decide)]
  have W194 : rf_W [3, 4, 5, 6, 7, 8, 9, 10, 11, 12, 13] m m177 := W174.trans W181 (by decide)
  show pm_R _ 11 12 [.ref 25, .int a0, .int 1, pm_no] [] _ _
  refine pm_R_lo pm_M11 (pc_q := 13) rfl rfl rfl ?_
  refine pm_R_op pm_M11 (pc_q := 14) (st_q := [.int 1, .int 1]) rfl rfl rfl ?_
  refine pm_R_br pm_M11 (pc_q := 17) (st_q := []) rfl rfl ?_
  refine pm_R_lo pm_M11 (pc_q := 18) rfl rfl rfl ?_
  refine pm_R_cv pm_M11 (pc_q := 21) (a := 25) (ra := []) (rest := []) (ls_q := [.ref 25, pm_no]) rfl rfl (Or.inl rfl) pm_M15 T179.e25 rfl (by decide) (T179.lt (by decide)) rfl rfl (Nat.le_of_ble_eq_true rfl) rfl rfl ?_
  obtain ⟨f195, e196⟩ := T179.C 26 (by decide) (by decide)
  obtain ⟨f198, e199⟩ := T179.C 27 (by decide) (by decide)
  have e201 := (F180.cell G (by decide) (by decide) (F161.cell G (by decide) (by decide) (F142.cell G (by decide) (by decide) e134)))
  refine cl_c15 (d := d + 5) G T179 (fun _ => ⟨_, _, e196, e199, cl_RF.start (cl_aux83 _ B186.1 B186.2) (cl_aux83 _ B188.1 B188.2) (cl_aux84 _ B190.1 B190.2)⟩) ⟨_, e201, (sf_upd (sf_upd (sf_upd (sf_upd (sf_upd (sf_upd (sf_upd (sf_upd (sf_upd (sf_upd b3 (sf_weak sf_k0 (by decide) (by decide)) _) (sf_weak sf_k0 (by decide) (by decide)) _) (sf_weak sf_k0 (by decide) (by decide)) _) (sf_weak sf_k0 (by decide) (by decide)) _) (sf_weak sf_k0 (by decide) (by decide)) _) (sf_weak sf_k0 (by decide) (by decide)) _) (sf_weak sf_k0 (by decide) (by decide)) _) (sf_weak sf_k0 (by decide) (by decide)) _) (sf_weak sf_k0 (by decide) (by decide)) _) (sf_weak sf_k0 (by decide) (by decide)) _)⟩ (fun r202 m204 h205 T206 F207 W208 X209 X210 B203 => ?_)
  have F211 := F182.trans (N := 0) (S := 0) F207 (by decide) (by decide) (by decide)
  have B212 : sf_B 0 0 (m204 6) := by rw [W208 6 (by decide)]; exact B188
  have ek213 : (m204 6).toInt = ((m60 6)).toInt := by rw [W208 6 (by decide)]; exact ek189
  have B214 : sf_B 4 4 (m204 7) := by rw [W208 7 (by decide)]; exact B190
  have ek215 : (m204 7).toInt = ((m140 7)).toInt := by rw [W208 7 (by decide)]; exact ek191
  have B216 : sf_B (-1) (-1) (m204 8) := by rw [W208 8 (by decide)]; exact B192
  have ek217 : (m204 8).toInt = ((m159 8)).toInt := by rw [W208 8 (by decide)]; exact ek193
  have W218 : rf_W [3, 4, 5, 6, 7, 8, 9, 10, 11, 12, 13] m m204 := W194.trans W208 (by decide)
  have B219 : sf_B 0 4 (m204 3) := T206.B 3
  have B220 : sf_B 0 50 (m204 5) := T206.B 5
  show pm_R _ 11 21 [.ref 25, .int a0, .int 1, pm_no] [.int r202] _ _
  obtain ⟨f221, e222, b223⟩ := id X210
  obtain ⟨f224, e225⟩ := T206.C 26 (by decide) (by decide)
  have e227 := (F207.cell G (by decide) (by decide) e199)
  refine pm_R_br pm_M11 (pc_q := 29) rfl rfl ?_
  refine pm_R_lo pm_M11 (pc_q := 30) (ls_q := [.ref 25, .int a0, .int 1, .int r202]) (st_q := []) rfl rfl rfl ?_
  refine pm_R_lo pm_M11 (pc_q := 31) rfl rfl rfl ?_
  refine pm_R_ifc pm_M11 (t := 53) (pc_q := 34) rfl rfl rfl (fun c228 => ?_) (fun c228 => ?_)
  · have B229 : sf_B 1 1 r202 := sf_neL0 c228 sf_k0 B203
    refine pm_R_lo pm_M11 (pc_q := 54) rfl rfl rfl ?_
    refine pm_R_op pm_M11 (pc_q := 55) (st_q := [.int 1, .int 1]) rfl rfl rfl ?_
    refine pm_R_br pm_M11 (pc_q := 58) (st_q := []) rfl rfl ?_
    refine pm_R_lo pm_M11 (pc_q := 59) rfl rfl rfl ?_
    refine pm_R_get pm_M11 (pc_q := 62) (v := .int (m204 5)) rfl rfl T206.e25 (by decide) (T206.lt (by decide)) rfl rfl ?_
    refine pm_R_ifc pm_M11 (t := 81) (pc_q := 65) rfl rfl rfl (fun c230 => ?_) (fun c230 => ?_)
    · have B231 : sf_B 0 0 (m204 5) := sf_eqL c230 sf_k0
      refine pm_R_lo pm_M11 (pc_q := 82) rfl rfl rfl ?_
      refine pm_R_op pm_M11 (pc_q := 83) (st_q := [.int 4, .ref 25]) rfl rfl rfl ?_
      refine pm_R_lo pm_M11 (pc_q := 84) rfl rfl rfl ?_
      refine pm_R_cv pm_M11 (pc_q := 87) (a := 25) (ra := [.int a0, .int 4]) (rest := []) (ls_q := [.ref 25, .int 4, .int a0]) rfl rfl (Or.inl rfl) pm_M21 T206.e25 rfl (by decide) (T206.lt (by decide)) rfl rfl (Nat.le_of_ble_eq_true rfl) rfl rfl ?_
      refine pm_R_lo pm_M21 (pc_q := 1) rfl rfl rfl ?_
      refine pm_R_get pm_M21 (pc_q := 4) (v := .int (m204 3)) rfl rfl T206.e25 (by decide) (T206.lt (by decide)) rfl rfl ?_
      refine pm_R_ifc pm_M21 (t := 17) (pc_q := 7) rfl rfl rfl (fun c232 => ?_) (fun c232 => ?_)
      · have B233 : sf_B 1 4 (m204 3) := sf_neL0 c232 sf_k0 B219
        refine pm_R_ret pm_M21 (r := none) rfl rfl ?_
        show pm_R _ 11 87 [.ref 25, .int a0, .int 1, .int r202] [] _ _
        exact pm_R_ret pm_M11 (r := none) rfl rfl (K m204 h205 T206 F211 W218 (fun z => sf_pos B233 (by decide) z) ⟨_, e222, b223⟩ (fun z => sf_pos B233 (by decide) z))
      · have B234 : sf_B 0 0 (m204 3) := sf_eqL (Classical.not_not.mp c232) sf_k0
        refine pm_R_lo pm_M21 (pc_q := 8) rfl rfl rfl ?_
        refine pm_R_lo pm_M21 (pc_q := 9) rfl rfl rfl ?_
        refine cl_R_put25 G pm_M21 T206 (k := 3) (pc_q := 12) rfl rfl rfl (by decide) rfl rfl (sf_weak sf_k4 (by decide) (by decide)) rfl rfl rfl rfl rfl (fun h235 m238 em239 T236 F237 => ?_)
        have F240 := F237.cl (ck := ck) T206.1
        have F241 := F211.trans (N := 0) (S := 0) F240 (by decide) (by decide) (by decide)
        have B242 : sf_B 0 0 (m238 6) := by rw [em239]; exact B212
        have ek243 : (m238 6).toInt = ((m204 6)).toInt := by rw [em239]; rfl
        have B244 : sf_B 4 4 (m238 7) := by rw [em239]; exact B214
        have ek245 : (m238 7).toInt = ((m204 7)).toInt := by rw [em239]; rfl
        have B246 : sf_B (-1) (-1) (m238 8) := by rw [em239]; exact B216
        have ek247 : (m238 8).toInt = ((m204 8)).toInt := by rw [em239]; rfl
        have B248 : sf_B 0 0 (m238 5) := by rw [em239]; exact B231
        have ek249 : (m238 5).toInt = ((m204 5)).toInt := by rw [em239]; rfl
        have B250 : sf_B 4 4 (m238 3) := by rw [em239]; exact sf_k4
        have W252 : rf_W [3, 4, 5, 6, 7, 8, 9, 10, 11, 12, 13] m m238 := by rw [em239]; exact W218.put (by decide)
        refine pm_R_lo pm_M21 (pc_q := 13) rfl rfl rfl ?_
        refine pm_R_lo pm_M21 (pc_q := 14) rfl rfl rfl ?_
        refine cl_R_put25 G pm_M21 T236 (k := 4) (pc_q := 17) rfl rfl rfl (by decide) rfl rfl (sf_weak Ba0 (by decide) (by decide)) rfl rfl rfl rfl rfl (fun h253 m256 em257 T254 F255 => ?_)
        have F258 := F255.cl (ck := ck) T236.1
        have F259 := F241.trans (N := 0) (S := 0) F258 (by decide) (by decide) (by decide)
        have B260 : sf_B 0 0 (m256 6) := by rw [em257]; exact B242
        have ek261 : (m256 6).toInt = ((m204 6)).toInt := by rw [em257]; exact ek243
        have B262 : sf_B 4 4 (m256 7) := by rw [em257]; exact B244
        have ek263 : (m256 7).toInt = ((m204 7)).toInt := by rw [em257]; exact ek245
        have B264 : sf_B (-1) (-1) (m256 8) := by rw [em257]; exact B246
        have ek265 : (m256 8).toInt = ((m204 8)).toInt := by rw [em257]; exact ek247
        have B266 : sf_B 0 0 (m256 5) := by rw [em257]; exact B248
        have ek267 : (m256 5).toInt = ((m204 5)).toInt := by rw [em257]; exact ek249
        have B268 : sf_B 4 4 (m256 3) := by rw [em257]; exact B250
        have ek269 : (m256 3).toInt = ((m238 3)).toInt := by rw [em257]; rfl
        have B270 : sf_B 0 600 (m256 4) := by rw [em257]; exact Ba0
        have ek271 : (m256 4).toInt = (a0).toInt := by rw [em257]; rfl
        have W272 : rf_W [3, 4, 5, 6, 7, 8, 9, 10, 11, 12, 13] m m256 := by rw [em257]; exact W252.put (by decide)
        refine pm_R_ret pm_M21 (r := none) rfl rfl ?_
        show pm_R _ 11 87 [.ref 25, .int a0, .int 1, .int r202] [] _ _
        have e273 := (F258.cell G (by decide) (by decide) (F240.cell G (by decide) (by decide) e225))
        have e274 := (F258.cell G (by decide) (by decide) (F240.cell G (by decide) (by decide) e222))
        exact pm_R_ret pm_M11 (r := none) rfl rfl (K m256 h253 T254 F259 W272 (fun z => sf_pos B268 (by decide) z) ⟨_, e274, b223⟩ (fun z => sf_pos B268 (by decide) z))
    · have B275 : sf_B 1 50 (m204 5) := sf_neL0 c230 sf_k0 B220
      refine pm_R_lo pm_M11 (pc_q := 66) rfl rfl rfl ?_
      refine pm_R_op pm_M11 (pc_q := 67) (st_q := [.int 2, .int 1]) rfl rfl rfl ?_
      refine pm_R_br pm_M11 (pc_q := 87) (st_q := []) rfl rfl ?_
      exact pm_R_ret pm_M11 (r := none) rfl rfl (K m204 h205 T206 F211 W218 (fun z => ⟨_, _, e225, e227, (X209.at (cl_aux67 _ z) e225 e227).keep rfl rfl rfl rfl⟩) ⟨_, e222, b223⟩ (fun _ => (cl_aux85 _ B275.1 B275.2)))
  · have B276 : sf_B 0 0 r202 := sf_eqL (Classical.not_not.mp c228) sf_k0
    refine pm_R_lo pm_M11 (pc_q := 35) rfl rfl rfl ?_
    refine pm_R_op pm_M11 (pc_q := 36) (st_q := [.int 1, .ref 25]) rfl rfl rfl ?_
    refine cl_R_put25 G pm_M11 T206 (k := 3) (pc_q := 39) rfl rfl rfl (by decide) rfl rfl (sf_weak sf_k1 (by decide) (by decide)) rfl rfl rfl rfl rfl (fun h277 m280 em281 T278 F279 => ?_)
    have F282 := F279.cl (ck := ck) T206.1
    have F283 := F211.trans (N := 0) (S := 0) F282 (by decide) (by decide) (by decide)
    have B284 : sf_B 0 0 (m280 6) := by rw [em281]; exact B212
    have ek285 : (m280 6).toInt = ((m204 6)).toInt := by rw [em281]; rfl
    have B286 : sf_B 4 4 (m280 7) := by rw [em281]; exact B214
    have ek287 : (m280 7).toInt = ((m204 7)).toInt := by rw [em281]; rfl
    have B288 : sf_B (-1) (-1) (m280 8) := by rw [em281]; exact B216
    have ek289 : (m280 8).toInt = ((m204 8)).toInt := by rw [em281]; rfl
    have B290 : sf_B 0 50 (m280 5) := by rw [em281]; exact B220
    have ek291 : (m280 5).toInt = ((m204 5)).toInt := by rw [em281]; rfl
    have B292 : sf_B 1 1 (m280 3) := by rw [em281]; exact sf_k1
    have W294 : rf_W [3, 4, 5, 6, 7, 8, 9, 10, 11, 12, 13] m m280 := by rw [em281]; exact W218.put (by decide)
    refine pm_R_lo pm_M11 (pc_q := 40) rfl rfl rfl ?_
    refine pm_R_lo pm_M11 (pc_q := 41) rfl rfl rfl ?_
    refine pm_R_get pm_M11 (pc_q := 44) (v := .ref 30) rfl rfl T278.e25 (by decide) (T278.lt (by decide)) rfl rfl ?_
    have B295 : sf_B 0 600 (m280 11) := T278.B 11
    refine pm_R_get pm_M11 (pc_q := 47) (v := .int (m280 11)) rfl rfl T278.e30 (by decide) (T278.lt (by decide)) rfl rfl ?_
    refine cl_R_put25 G pm_M11 T278 (k := 4) (pc_q := 50) rfl rfl rfl (by decide) rfl rfl (sf_weak B295 (by decide) (by decide)) rfl rfl rfl rfl rfl (fun h296 m299 em300 T297 F298 => ?_)
    have F301 := F298.cl (ck := ck) T278.1
    have F302 := F283.trans (N := 0) (S := 0) F301 (by decide) (by decide) (by decide)
    have B303 : sf_B 0 0 (m299 6) := by rw [em300]; exact B284
    have ek304 : (m299 6).toInt = ((m204 6)).toInt := by rw [em300]; exact ek285
    have B305 : sf_B 4 4 (m299 7) := by rw [em300]; exact B286
    have ek306 : (m299 7).toInt = ((m204 7)).toInt := by rw [em300]; exact ek287
    have B307 : sf_B (-1) (-1) (m299 8) := by rw [em300]; exact B288
    have ek308 : (m299 8).toInt = ((m204 8)).toInt := by rw [em300]; exact ek289
    have B309 : sf_B 0 50 (m299 5) := by rw [em300]; exact B290
    have ek310 : (m299 5).toInt = ((m204 5)).toInt := by rw [em300]; exact ek291
    have B311 : sf_B 1 1 (m299 3) := by rw [em300]; exact B292
    have ek312 : (m299 3).toInt = ((m280 3)).toInt := by rw [em300]; rfl
    have B313 : sf_B 0 600 (m299 4) := by rw [em300]; exact B295
    have ek314 : (m299 4).toInt = ((m280 11)).toInt := by rw [em300]; rfl
    have W315 : rf_W [3, 4, 5, 6, 7, 8, 9, 10, 11, 12, 13] m m299 := by rw [em300]; exact W294.put (by decide)
    refine pm_R_br pm_M11 (pc_q := 87) rfl rfl ?_
    have e316 := (F301.cell G (by decide) (by decide) (F282.cell G (by decide) (by decide) e225))
    have e317 := (F301.cell G (by decide) (by decide) (F282.cell G (by decide) (by decide) e222))
    exact pm_R_ret pm_M11 (r := none) rfl rfl (K m299 h296 T297 F302 W315 (fun z => sf_pos B311 (by decide) z) ⟨_, e317, b223⟩ (fun z => sf_pos B311 (by decide) z))
