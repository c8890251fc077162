set_option maxRecDepth 100000 in
set_option maxHeartbeats 4000000 in
/-- SilentTable$Tokens.startOver -/
theorem cl_c14 {d : Nat} {ck : cl_K} {E : Nat → pm_E} {m : Nat → Int32} {o : Nat → Option Nat} {h : pm_H} {Q : Option Value → pm_H → Prop} {a0 : Int32} (G : cl_G ck E) (T : cl_T ck E m o h) (Ba0 : sf_B 0 600 a0) (K : ∀ (m_q : Nat → Int32) (h_q : pm_H), cl_T ck E m_q o h_q → cl_F ck [30] 0 0 h h_q → rf_W [9, 10, 11, 12] m m_q → Q none h_q) : pm_R (d + 0) 14 0 [.ref 30, .int a0] [] h Q := by
  refine pm_R_lo pm_M14 (pc_q := 1) rfl rfl rfl ?_
  refine pm_R_lo pm_M14 (pc_q := 2) rfl rfl rfl ?_
  refine pm_R_lo pm_M14 (pc_q := 3) rfl rfl rfl ?_
  refine pm_R_get pm_M14 (pc_q := 6) (v := .ref 18) rfl rfl T.e30 (by decide) (T.lt (by decide)) rfl rfl ?_
  obtain ⟨f1, e2⟩ := T.C 18 (by decide) (by decide)
  refine pm_R_alen pm_M14 (pc_q := 7) (v := 600) rfl e2 (by decide) (T.lt (by decide)) (by decide) rfl rfl ?_
  refine cl_R_min pm_M14 (pc_q := 10) rfl rfl rfl (Nat.le_of_ble_eq_true rfl) rfl Ba0 sf_k600 (fun z4 B5 => ?_)
  refine cl_R_put30 G pm_M14 T (k := 9) (pc_q := 13) rfl rfl rfl (by decide) rfl rfl B5 rfl rfl rfl rfl rfl (fun h6 m9 em10 T7 F8 => ?_)
  have F11 := F8.cl (ck := ck) T.1
  have F12 := (cl_F.refl (ck := ck) (A := [30]) (n := 0) (s := 0) T.1).trans (N := 0) (S := 0) F11 (by decide) (by decide) (by decide)
  have B13 : sf_B 0 600 (m9 9) := by rw [em10]; exact B5
  have ek14 : (m9 9).toInt = (z4).toInt := by rw [em10]; rfl
  have W15 : rf_W [9, 10, 11, 12] m m9 := by rw [em10]; exact (rf_W.refl [9, 10, 11, 12] m).put (by decide)
  refine pm_R_lo pm_M14 (pc_q := 14) rfl rfl rfl ?_
  refine pm_R_op pm_M14 (pc_q := 15) (st_q := [.int 0, .ref 30]) rfl rfl rfl ?_
  refine cl_R_put30 G pm_M14 T7 (k := 11) (pc_q := 18) rfl rfl rfl (by decide) rfl rfl (sf_weak sf_k0 (by decide) (by decide)) rfl rfl rfl rfl rfl (fun h16 m19 em20 T17 F18 => ?_)
  have F21 := F18.cl (ck := ck) T7.1
  have F22 := F12.trans (N := 0) (S := 0) F21 (by decide) (by decide) (by decide)
  have B23 : sf_B 0 0 (m19 11) := by rw [em20]; exact sf_k0
  have W25 : rf_W [9, 10, 11, 12] m m19 := by rw [em20]; exact W15.put (by decide)
  refine pm_R_lo pm_M14 (pc_q := 19) rfl rfl rfl ?_
  refine pm_R_op pm_M14 (pc_q := 20) (st_q := [.int 0, .ref 30]) rfl rfl rfl ?_
  refine cl_R_put30 G pm_M14 T17 (k := 10) (pc_q := 23) rfl rfl rfl (by decide) rfl rfl (sf_weak sf_k0 (by decide) (by decide)) rfl rfl rfl rfl rfl (fun h26 m29 em30 T27 F28 => ?_)
  have F31 := F28.cl (ck := ck) T17.1
  have F32 := F22.trans (N := 0) (S := 0) F31 (by decide) (by decide) (by decide)
  have B33 : sf_B 0 0 (m29 11) := by rw [em30]; exact B23
  have B34 : sf_B 0 0 (m29 10) := by rw [em30]; exact sf_k0
  have W36 : rf_W [9, 10, 11, 12] m m29 := by rw [em30]; exact W25.put (by decide)
  refine pm_R_lo pm_M14 (pc_q := 24) rfl rfl rfl ?_
  refine pm_R_op pm_M14 (pc_q := 25) (st_q := [.int 0, .ref 30]) rfl rfl rfl ?_
  refine cl_R_put30 G pm_M14 T27 (k := 12) (pc_q := 28) rfl rfl rfl (by decide) rfl rfl (sf_weak sf_k0 (by decide) (by decide)) rfl rfl rfl rfl rfl (fun h37 m40 em41 T38 F39 => ?_)
  have F42 := F39.cl (ck := ck) T27.1
  have F43 := F32.trans (N := 0) (S := 0) F42 (by decide) (by decide) (by decide)
  have B44 : sf_B 0 0 (m40 11) := by rw [em41]; exact B33
  have B45 : sf_B 0 0 (m40 10) := by rw [em41]; exact B34
  have B46 : sf_B 0 0 (m40 12) := by rw [em41]; exact sf_k0
  have W48 : rf_W [9, 10, 11, 12] m m40 := by rw [em41]; exact W36.put (by decide)
  exact pm_R_ret pm_M14 (r := none) rfl rfl (K m40 h37 T38 F43 W48)

theorem cl_aux24 (v0 v1 v2 v3 v4 : Int) (q0 : v0 = v1 - v2) (q1 : ((v1 - v3 = 0 ∧ v4 = 0) ∨ (v1 - v3 = 1 ∧ v4 ≤ 9) ∨ 2 ≤ v1 - v3)) (q2 : v3 = v2) (q3 : v0 < 2) : v4 ≤ 9 := by omega
theorem cl_aux25 (v0 v1 v2 : Int) (q0 : v0 = v1 + 1) (q1 : v2 = v0) : v2 = v1 + 1 := by omega
theorem cl_aux26 (v0 v1 v2 v3 v4 v5 v6 v7 v8 v9 : Int) (q0 : v0 = v1 + 1) (q1 : v2 = v0) (q2 : v3 = v4) (q3 : v5 = v6) (q4 : v1 < v7) (q5 : v8 = v1 - v4) (q6 : 2 ≤ v8) (q7 : v1 ≤ v7) (q8 : 0 ≤ v1) (q9 : v1 ≤ 599) (q10 : 1 ≤ v2) (q11 : v2 ≤ 600) (q12 : 0 ≤ v4) (q13 : v4 ≤ 600) (q14 : 0 ≤ v3) (q15 : v3 ≤ 600) (q16 : 0 ≤ v6) (q17 : v6 ≤ 99) (q18 : 0 ≤ v5) (q19 : v5 ≤ 99) (q20 : 1 ≤ v7) (q21 : v7 ≤ 600) (q22 : 2 ≤ v8) (q23 : v8 ≤ 599) (q24 : ((v1 - v9 = 0 ∧ v6 = 0) ∨ (v1 - v9 = 1 ∧ v6 ≤ 9) ∨ 2 ≤ v1 - v9)) (q25 : v9 = v4) : ((v2 - v3 = 0 ∧ v5 = 0) ∨ (v2 - v3 = 1 ∧ v5 ≤ 9) ∨ 2 ≤ v2 - v3) := by omega
theorem cl_aux27 (v0 v1 v2 v3 v4 v5 v6 v7 v8 v9 v10 v11 v12 v13 : Int) (q0 : v0 = v1 + 1) (q1 : v2 = v0) (q2 : v3 = v4) (q3 : v5 = v6 * 10) (q4 : v7 = v5 + v8) (q5 : v9 = v7 - 48) (q6 : v10 = v9) (q7 : v1 < v11) (q8 : 48 ≤ v8) (q9 : v8 ≤ 57) (q10 : v12 = v1 - v4) (q11 : v12 < 2) (q12 : v1 ≤ v11) (q13 : 0 ≤ v1) (q14 : v1 ≤ 599) (q15 : 1 ≤ v2) (q16 : v2 ≤ 600) (q17 : 0 ≤ v4) (q18 : v4 ≤ 600) (q19 : 0 ≤ v3) (q20 : v3 ≤ 600) (q21 : 0 ≤ v6) (q22 : v6 ≤ 9) (q23 : 48 ≤ v8) (q24 : 0 ≤ v10) (q25 : v10 ≤ 99) (q26 : 1 ≤ v11) (q27 : v11 ≤ 600) (q28 : (-600) ≤ v12) (q29 : v12 ≤ 1) (q30 : ((v1 - v13 = 0 ∧ v6 = 0) ∨ (v1 - v13 = 1 ∧ v6 ≤ 9) ∨ 2 ≤ v1 - v13)) (q31 : v13 = v4) : ((v2 - v3 = 0 ∧ v10 = 0) ∨ (v2 - v3 = 1 ∧ v10 ≤ 9) ∨ 2 ≤ v2 - v3) := by omega
theorem cl_aux28 (v0 v1 v2 v3 v4 : Int) (q0 : v0 = v1) (q1 : v2 = v3) (q2 : 0 ≤ v1) (q3 : v1 ≤ 600) (q4 : 0 ≤ v0) (q5 : v0 ≤ 600) (q6 : 0 ≤ v3) (q7 : v3 ≤ 600) (q8 : 0 ≤ v2) (q9 : v2 ≤ 600) (q10 : 0 ≤ v4) (q11 : v4 ≤ 0) (q12 : v1 = v3) : ((v0 - v2 = 0 ∧ v4 = 0) ∨ (v0 - v2 = 1 ∧ v4 ≤ 9) ∨ 2 ≤ v0 - v2) := by omega
set_option maxRecDepth 100000 in
set_option maxHeartbeats 4000000 in
/-- SilentTable$Tokens.takeDigits -/
theorem cl_c20 {d : Nat} {ck : cl_K} {E : Nat → pm_E} {m : Nat → Int32} {o : Nat → Option Nat} {h : pm_H} {Q : Option Value → pm_H → Prop}  (G : cl_G ck E) (T : cl_T ck E m o h) (E0 : (m 10).toInt = (m 11).toInt) (K : ∀ (m_q : Nat → Int32) (h_q : pm_H), cl_T ck E m_q o h_q → cl_F ck [30] 0 0 h h_q → rf_W [10, 12, 13] m m_q → Q none h_q) : pm_R (d + 1) 20 0 [.ref 30] [] h Q := by
  have B1 : sf_B 0 600 (m 10) := T.B 10
  have B2 : sf_B 0 600 (m 11) := T.B 11
  have B3 : sf_B 0 99 (m 13) := T.B 13
  refine pm_R_lo pm_M20 (pc_q := 1) rfl rfl rfl ?_
  refine pm_R_op pm_M20 (pc_q := 2) (st_q := [.int 0, .ref 30]) rfl rfl rfl ?_
  refine cl_R_put30 G pm_M20 T (k := 13) (pc_q := 5) rfl rfl rfl (by decide) rfl rfl (sf_weak sf_k0 (by decide) (by decide)) rfl rfl rfl rfl rfl (fun h4 m7 em8 T5 F6 => ?_)
  have F9 := F6.cl (ck := ck) T.1
  have F10 := (cl_F.refl (ck := ck) (A := [30]) (n := 0) (s := 0) T.1).trans (N := 0) (S := 0) F9 (by decide) (by decide) (by decide)
  have B11 : sf_B 0 600 (m7 10) := by rw [em8]; exact B1
  have ek12 : (m7 10).toInt = ((m 10)).toInt := by rw [em8]; rfl
  have B13 : sf_B 0 600 (m7 11) := by rw [em8]; exact B2
  have ek14 : (m7 11).toInt = ((m 11)).toInt := by rw [em8]; rfl
  have B15 : sf_B 0 0 (m7 13) := by rw [em8]; exact sf_k0
  have W17 : rf_W [10, 12, 13] m m7 := by rw [em8]; exact (rf_W.refl [10, 12, 13] m).put (by decide)
  have B18 : sf_B 0 600 (m7 9) := T5.B 9
  have L_237 : ∀ (N : Nat) (h_237 : pm_H) (m_237 : Nat → Int32), cl_T ck E m_237 o h_237 → cl_F ck [30] 0 0 h h_237 → rf_W [10, 13] m7 m_237 → (((m_237 10).toInt - (m_237 11).toInt = 0 ∧ (m_237 13).toInt = 0) ∨ ((m_237 10).toInt - (m_237 11).toInt = 1 ∧ (m_237 13).toInt ≤ 9) ∨ 2 ≤ (m_237 10).toInt - (m_237 11).toInt) → (600 - (m_237 10).toInt).toNat = N → pm_R (d + 1) 20 5 [.ref 30] [] h_237 Q := by
    intro N
    induction N using Nat.strongRecOn with
    | ind N ih_237 =>
      intro h_237 m_237 T_237 F_237 W_237 X_237 hN_237
      have B240 : sf_B 0 600 (m_237 11) := by rw [W_237 11 (by decide)]; exact B13
      have ek241 : (m_237 11).toInt = ((m 11)).toInt := by rw [W_237 11 (by decide)]; exact ek14
      have B242 : sf_B 0 600 (m_237 9) := by rw [W_237 9 (by decide)]; exact B18
      have ek243 : (m_237 9).toInt = ((m7 9)).toInt := by rw [W_237 9 (by decide)]
      have W244 : rf_W [10, 12, 13] m m_237 := W17.trans W_237 (by decide)
      have B245 : sf_B 0 600 (m_237 10) := T_237.B 10
      have B246 : sf_B 0 99 (m_237 13) := T_237.B 13
      refine pm_R_lo pm_M20 (pc_q := 6) rfl rfl rfl ?_
      refine pm_R_get pm_M20 (pc_q := 9) (v := .int (m_237 10)) rfl rfl T_237.e30 (by decide) (T_237.lt (by decide)) rfl rfl ?_
      refine pm_R_lo pm_M20 (pc_q := 10) rfl rfl rfl ?_
      refine pm_R_get pm_M20 (pc_q := 13) (v := .int (m7 9)) rfl rfl T_237.e30 (by decide) (T_237.lt (by decide)) (congrArg (fun z => some (Value.int z)) (Int32.toInt_inj.mp (cl_aux3 _ _ ek243))) rfl ?_
      refine pm_R_icmp pm_M20 (t := 81) (pc_q := 16) rfl rfl rfl (fun c247 => ?_) (fun c247 => ?_)
      · skip
        refine pm_R_lo pm_M20 (pc_q := 82) rfl rfl rfl ?_
        refine pm_R_lo pm_M20 (pc_q := 83) rfl rfl rfl ?_
        refine pm_R_get pm_M20 (pc_q := 86) (v := .int (m_237 10)) rfl rfl T_237.e30 (by decide) (T_237.lt (by decide)) rfl rfl ?_
        refine pm_R_lo pm_M20 (pc_q := 87) rfl rfl rfl ?_
        refine pm_R_get pm_M20 (pc_q := 90) (v := .int (m 11)) rfl rfl T_237.e30 (by decide) (T_237.lt (by decide)) (congrArg (fun z => some (Value.int z)) (Int32.toInt_inj.mp (cl_aux3 _ _ ek241))) rfl ?_
        refine sf_R_isub pm_M20 (pc_q := 91) rfl rfl B245 B2 (by decide) (by decide) (fun z248 e249 B250 => ?_)
        refine pm_R_op pm_M20 (pc_q := 92) (st_q := [.int 2, .int z248, .ref 30]) rfl rfl rfl ?_
        refine pm_R_icmp pm_M20 (t := 99) (pc_q := 95) rfl rfl rfl (fun c251 => ?_) (fun c251 => ?_)
        · have B252 : sf_B 3 600 z248 := sf_ltR c251 sf_k2 B250
          refine pm_R_op pm_M20 (pc_q := 100) (st_q := [.int 4, .ref 30]) rfl rfl rfl ?_
          refine cl_R_put30 G pm_M20 T_237 (k := 12) (pc_q := 103) rfl rfl rfl (by decide) rfl rfl (sf_weak sf_k4 (by decide) (by decide)) rfl rfl rfl rfl rfl (fun h253 m256 em257 T254 F255 => ?_)
          have F258 := F255.cl (ck := ck) T_237.1
          have F259 := F_237.trans (N := 0) (S := 0) F258 (by decide) (by decide) (by decide)
          have B260 : sf_B 0 600 (m256 11) := by rw [em257]; exact B240
          have ek261 : (m256 11).toInt = ((m 11)).toInt := by rw [em257]; exact ek241
          have B262 : sf_B 0 600 (m256 9) := by rw [em257]; exact B242
          have ek263 : (m256 9).toInt = ((m7 9)).toInt := by rw [em257]; exact ek243
          have B264 : sf_B 0 600 (m256 10) := by rw [em257]; exact B245
          have ek265 : (m256 10).toInt = ((m_237 10)).toInt := by rw [em257]; rfl
          have B266 : sf_B 0 99 (m256 13) := by rw [em257]; exact B246
          have ek267 : (m256 13).toInt = ((m_237 13)).toInt := by rw [em257]; rfl
          have B268 : sf_B 4 4 (m256 12) := by rw [em257]; exact sf_k4
          have W270 : rf_W [10, 12, 13] m m256 := by rw [em257]; exact W244.put (by decide)
          exact pm_R_ret pm_M20 (r := none) rfl rfl (K m256 h253 T254 F259 W270)
        · have B271 : sf_B (-600) 2 z248 := sf_leL (Int32.not_lt.mp c251) B250 sf_k2
          refine pm_R_op pm_M20 (pc_q := 96) (st_q := [.int 2, .ref 30]) rfl rfl rfl ?_
          refine pm_R_br pm_M20 (pc_q := 100) rfl rfl ?_
          refine cl_R_put30 G pm_M20 T_237 (k := 12) (pc_q := 103) rfl rfl rfl (by decide) rfl rfl (sf_weak sf_k2 (by decide) (by decide)) rfl rfl rfl rfl rfl (fun h272 m275 em276 T273 F274 => ?_)
          have F277 := F274.cl (ck := ck) T_237.1
          have F278 := F_237.trans (N := 0) (S := 0) F277 (by decide) (by decide) (by decide)
          have B279 : sf_B 0 600 (m275 11) := by rw [em276]; exact B240
          have ek280 : (m275 11).toInt = ((m 11)).toInt := by rw [em276]; exact ek241
          have B281 : sf_B 0 600 (m275 9) := by rw [em276]; exact B242
          have ek282 : (m275 9).toInt = ((m7 9)).toInt := by rw [em276]; exact ek243
          have B283 : sf_B 0 600 (m275 10) := by rw [em276]; exact B245
          have ek284 : (m275 10).toInt = ((m_237 10)).toInt := by rw [em276]; rfl
          have B285 : sf_B 0 99 (m275 13) := by rw [em276]; exact B246
          have ek286 : (m275 13).toInt = ((m_237 13)).toInt := by rw [em276]; rfl
          have B287 : sf_B 2 2 (m275 12) := by rw [em276]; exact sf_k2
          have W289 : rf_W [10, 12, 13] m m275 := by rw [em276]; exact W244.put (by decide)
          exact pm_R_ret pm_M20 (r := none) rfl rfl (K m275 h272 T273 F278 W289)
      · have B290 : sf_B 0 599 (m_237 10) := sf_ltL (Int32.not_le.mp c247) B245 B18
        have B291 : sf_B 1 600 (m7 9) := sf_ltR (Int32.not_le.mp c247) B245 B18
        refine pm_R_lo pm_M20 (pc_q := 17) rfl rfl rfl ?_
        refine pm_R_get pm_M20 (pc_q := 20) (v := .ref 18) rfl rfl T_237.e30 (by decide) (T_237.lt (by decide)) rfl rfl ?_
        refine pm_R_lo pm_M20 (pc_q := 21) rfl rfl rfl ?_
        refine pm_R_get pm_M20 (pc_q := 24) (v := .int (m_237 10)) rfl rfl T_237.e30 (by decide) (T_237.lt (by decide)) rfl rfl ?_
        obtain ⟨f295, e296⟩ := T_237.C 18 (by decide) (by decide)
        obtain ⟨z292, ez293⟩ : ∃ y, f295 (Int32.toNatClampNeg (m_237 10)) = y := ⟨_, rfl⟩
        refine pm_R_bald pm_M20 (pc_q := 25) (v := z292) rfl e296 (Or.inl rfl) (by decide) (T_237.lt (by decide)) (sf_in B290 (by decide) (by decide)) ez293 rfl ?_
        refine pm_R_cs pm_M20 (pc_q := 28) (ra := [.int z292]) (rest := []) (ls_q := [.int z292]) rfl rfl (Or.inl rfl) pm_M19 rfl rfl (Nat.le_of_ble_eq_true rfl) rfl rfl ?_
        refine pm_R_lo pm_M19 (pc_q := 1) rfl rfl rfl ?_
        refine pm_R_op pm_M19 (pc_q := 3) (st_q := [.int 48, .int z292]) rfl rfl rfl ?_
        refine pm_R_icmp pm_M19 (t := 16) (pc_q := 6) rfl rfl rfl (fun c298 => ?_) (fun c298 => ?_)
        · have B299 : sf_B (-2147483648) 47 z292 := sf_ltL c298 (sf_any z292) sf_k48
          refine pm_R_op pm_M19 (pc_q := 17) (st_q := [.int 0]) rfl rfl rfl ?_
          refine pm_R_ret pm_M19 (r := some (.int 0)) rfl rfl ?_
          show pm_R _ 20 28 [.ref 30] [.int 0] _ _
          refine pm_R_br pm_M20 (pc_q := 81) (st_q := []) rfl rfl ?_
          refine pm_R_lo pm_M20 (pc_q := 82) rfl rfl rfl ?_
          refine pm_R_lo pm_M20 (pc_q := 83) rfl rfl rfl ?_
          refine pm_R_get pm_M20 (pc_q := 86) (v := .int (m_237 10)) rfl rfl T_237.e30 (by decide) (T_237.lt (by decide)) rfl rfl ?_
          refine pm_R_lo pm_M20 (pc_q := 87) rfl rfl rfl ?_
          refine pm_R_get pm_M20 (pc_q := 90) (v := .int (m 11)) rfl rfl T_237.e30 (by decide) (T_237.lt (by decide)) (congrArg (fun z => some (Value.int z)) (Int32.toInt_inj.mp (cl_aux3 _ _ ek241))) rfl ?_
          refine sf_R_isub pm_M20 (pc_q := 91) rfl rfl B290 B2 (by decide) (by decide) (fun z300 e301 B302 => ?_)
          refine pm_R_op pm_M20 (pc_q := 92) (st_q := [.int 2, .int z300, .ref 30]) rfl rfl rfl ?_
          refine pm_R_icmp pm_M20 (t := 99) (pc_q := 95) rfl rfl rfl (fun c303 => ?_) (fun c303 => ?_)
          · have B304 : sf_B 3 599 z300 := sf_ltR c303 sf_k2 B302
            refine pm_R_op pm_M20 (pc_q := 100) (st_q := [.int 4, .ref 30]) rfl rfl rfl ?_
            refine cl_R_put30 G pm_M20 T_237 (k := 12) (pc_q := 103) rfl rfl rfl (by decide) rfl rfl (sf_weak sf_k4 (by decide) (by decide)) rfl rfl rfl rfl rfl (fun h305 m308 em309 T306 F307 => ?_)
            have F310 := F307.cl (ck := ck) T_237.1
            have F311 := F_237.trans (N := 0) (S := 0) F310 (by decide) (by decide) (by decide)
            have B312 : sf_B 0 600 (m308 11) := by rw [em309]; exact B240
            have ek313 : (m308 11).toInt = ((m 11)).toInt := by rw [em309]; exact ek241
            have B314 : sf_B 0 600 (m308 9) := by rw [em309]; exact B242
            have ek315 : (m308 9).toInt = ((m7 9)).toInt := by rw [em309]; exact ek243
            have B316 : sf_B 0 599 (m308 10) := by rw [em309]; exact B290
            have ek317 : (m308 10).toInt = ((m_237 10)).toInt := by rw [em309]; rfl
            have B318 : sf_B 0 99 (m308 13) := by rw [em309]; exact B246
            have ek319 : (m308 13).toInt = ((m_237 13)).toInt := by rw [em309]; rfl
            have B320 : sf_B 4 4 (m308 12) := by rw [em309]; exact sf_k4
            have W322 : rf_W [10, 12, 13] m m308 := by rw [em309]; exact W244.put (by decide)
            exact pm_R_ret pm_M20 (r := none) rfl rfl (K m308 h305 T306 F311 W322)
          · have B323 : sf_B (-600) 2 z300 := sf_leL (Int32.not_lt.mp c303) B302 sf_k2
            refine pm_R_op pm_M20 (pc_q := 96) (st_q := [.int 2, .ref 30]) rfl rfl rfl ?_
            refine pm_R_br pm_M20 (pc_q := 100) rfl rfl ?_
            refine cl_R_put30 G pm_M20 T_237 (k := 12) (pc_q := 103) rfl rfl rfl (by decide) rfl rfl (sf_weak sf_k2 (by decide) (by decide)) rfl rfl rfl rfl rfl (fun h324 m327 em328 T325 F326 => ?_)
            have F329 := F326.cl (ck := ck) T_237.1
            have F330 := F_237.trans (N := 0) (S := 0) F329 (by decide) (by decide) (by decide)
            have B331 : sf_B 0 600 (m327 11) := by rw [em328]; exact B240
            have ek332 : (m327 11).toInt = ((m 11)).toInt := by rw [em328]; exact ek241
            have B333 : sf_B 0 600 (m327 9) := by rw [em328]; exact B242
            have ek334 : (m327 9).toInt = ((m7 9)).toInt := by rw [em328]; exact ek243
            have B335 : sf_B 0 599 (m327 10) := by rw [em328]; exact B290
            have ek336 : (m327 10).toInt = ((m_237 10)).toInt := by rw [em328]; rfl
            have B337 : sf_B 0 99 (m327 13) := by rw [em328]; exact B246
            have ek338 : (m327 13).toInt = ((m_237 13)).toInt := by rw [em328]; rfl
            have B339 : sf_B 2 2 (m327 12) := by rw [em328]; exact sf_k2
            have W341 : rf_W [10, 12, 13] m m327 := by rw [em328]; exact W244.put (by decide)
            exact pm_R_ret pm_M20 (r := none) rfl rfl (K m327 h324 T325 F330 W341)
        · have B342 : sf_B 48 2147483647 z292 := sf_leR (Int32.not_lt.mp c298) sf_k48 (sf_any z292)
          refine pm_R_lo pm_M19 (pc_q := 7) rfl rfl rfl ?_
          refine pm_R_op pm_M19 (pc_q := 9) (st_q := [.int 57, .int z292]) rfl rfl rfl ?_
          refine pm_R_icmp pm_M19 (t := 16) (pc_q := 12) rfl rfl rfl (fun c343 => ?_) (fun c343 => ?_)
          · have B344 : sf_B 58 2147483647 z292 := sf_ltR c343 sf_k57 B342
            refine pm_R_op pm_M19 (pc_q := 17) (st_q := [.int 0]) rfl rfl rfl ?_
            refine pm_R_ret pm_M19 (r := some (.int 0)) rfl rfl ?_
            show pm_R _ 20 28 [.ref 30] [.int 0] _ _
            refine pm_R_br pm_M20 (pc_q := 81) (st_q := []) rfl rfl ?_
            refine pm_R_lo pm_M20 (pc_q := 82) rfl rfl rfl ?_
            refine pm_R_lo pm_M20 (pc_q := 83) rfl rfl rfl ?_
            refine pm_R_get pm_M20 (pc_q := 86) (v := .int (m_237 10)) rfl rfl T_237.e30 (by decide) (T_237.lt (by decide)) rfl rfl ?_
            refine pm_R_lo pm_M20 (pc_q := 87) rfl rfl rfl ?_
            refine pm_R_get pm_M20 (pc_q := 90) (v := .int (m 11)) rfl rfl T_237.e30 (by decide) (T_237.lt (by decide)) (congrArg (fun z => some (Value.int z)) (Int32.toInt_inj.mp (cl_aux3 _ _ ek241))) rfl ?_
            refine sf_R_isub pm_M20 (pc_q := 91) rfl rfl B290 B2 (by decide) (by decide) (fun z345 e346 B347 => ?_)
            refine pm_R_op pm_M20 (pc_q := 92) (st_q := [.int 2, .int z345, .ref 30]) rfl rfl rfl ?_
            refine pm_R_icmp pm_M20 (t := 99) (pc_q := 95) rfl rfl rfl (fun c348 => ?_) (fun c348 => ?_)
            · have B349 : sf_B 3 599 z345 := sf_ltR c348 sf_k2 B347
              refine pm_R_op pm_M20 (pc_q := 100) (st_q := [.int 4, .ref 30]) rfl rfl rfl ?_
              refine cl_R_put30 G pm_M20 T_237 (k := 12) (pc_q := 103) rfl rfl rfl (by decide) rfl rfl (sf_weak sf_k4 (by decide) (by decide)) rfl rfl rfl rfl rfl (fun h350 m353 em354 T351 F352 => ?_)
              have F355 := F352.cl (ck := ck) T_237.1
              have F356 := F_237.trans (N := 0) (S := 0) F355 (by decide) (by decide) (by decide)
              have B357 : sf_B 0 600 (m353 11) := by rw [em354]; exact B240
              have ek358 : (m353 11).toInt = ((m 11)).toInt := by rw [em354]; exact ek241
              have B359 : sf_B 0 600 (m353 9) := by rw [em354]; exact B242
              have ek360 : (m353 9).toInt = ((m7 9)).toInt := by rw [em354]; exact ek243
              have B361 : sf_B 0 599 (m353 10) := by rw [em354]; exact B290
              have ek362 : (m353 10).toInt = ((m_237 10)).toInt := by rw [em354]; rfl
              have B363 : sf_B 0 99 (m353 13) := by rw [em354]; exact B246
              have ek364 : (m353 13).toInt = ((m_237 13)).toInt := by rw [em354]; rfl
              have B365 : sf_B 4 4 (m353 12) := by rw [em354]; exact sf_k4
              have W367 : rf_W [10, 12, 13] m m353 := by rw [em354]; exact W244.put (by decide)
              exact pm_R_ret pm_M20 (r := none) rfl rfl (K m353 h350 T351 F356 W367)
            · have B368 : sf_B (-600) 2 z345 := sf_leL (Int32.not_lt.mp c348) B347 sf_k2
              refine pm_R_op pm_M20 (pc_q := 96) (st_q := [.int 2, .ref 30]) rfl rfl rfl ?_
              refine pm_R_br pm_M20 (pc_q := 100) rfl rfl ?_
              refine cl_R_put30 G pm_M20 T_237 (k := 12) (pc_q := 103) rfl rfl rfl (by decide) rfl rfl (sf_weak sf_k2 (by decide) (by decide)) rfl rfl rfl rfl rfl (fun h369 m372 em373 T370 F371 => ?_)
              have F374 := F371.cl (ck := ck) T_237.1
              have F375 := F_237.trans (N := 0) (S := 0) F374 (by decide) (by decide) (by decide)
              have B376 : sf_B 0 600 (m372 11) := by rw [em373]; exact B240
              have ek377 : (m372 11).toInt = ((m 11)).toInt := by rw [em373]; exact ek241
              have B378 : sf_B 0 600 (m372 9) := by rw [em373]; exact B242
              have ek379 : (m372 9).toInt = ((m7 9)).toInt := by rw [em373]; exact ek243
              have B380 : sf_B 0 599 (m372 10) := by rw [em373]; exact B290
              have ek381 : (m372 10).toInt = ((m_237 10)).toInt := by rw [em373]; rfl
              have B382 : sf_B 0 99 (m372 13) := by rw [em373]; exact B246
              have ek383 : (m372 13).toInt = ((m_237 13)).toInt := by rw [em373]; rfl
              have B384 : sf_B 2 2 (m372 12) := by rw [em373]; exact sf_k2
              have W386 : rf_W [10, 12, 13] m m372 := by rw [em373]; exact W244.put (by decide)
              exact pm_R_ret pm_M20 (r := none) rfl rfl (K m372 h369 T370 F375 W386)
          · have B387 : sf_B 48 57 z292 := sf_leL (Int32.not_lt.mp c343) B342 sf_k57
            refine pm_R_op pm_M19 (pc_q := 13) (st_q := [.int 1]) rfl rfl rfl ?_
            refine pm_R_br pm_M19 (pc_q := 17) rfl rfl ?_
            refine pm_R_ret pm_M19 (r := some (.int 1)) rfl rfl ?_
            show pm_R _ 20 28 [.ref 30] [.int 1] _ _
            refine pm_R_br pm_M20 (pc_q := 31) (st_q := []) rfl rfl ?_
            refine pm_R_lo pm_M20 (pc_q := 32) rfl rfl rfl ?_
            refine pm_R_get pm_M20 (pc_q := 35) (v := .int (m_237 10)) rfl rfl T_237.e30 (by decide) (T_237.lt (by decide)) rfl rfl ?_
            refine pm_R_lo pm_M20 (pc_q := 36) rfl rfl rfl ?_
            refine pm_R_get pm_M20 (pc_q := 39) (v := .int (m 11)) rfl rfl T_237.e30 (by decide) (T_237.lt (by decide)) (congrArg (fun z => some (Value.int z)) (Int32.toInt_inj.mp (cl_aux3 _ _ ek241))) rfl ?_
            refine sf_R_isub pm_M20 (pc_q := 40) rfl rfl B290 B2 (by decide) (by decide) (fun z388 e389 B390 => ?_)
            refine pm_R_op pm_M20 (pc_q := 41) (st_q := [.int 2, .int z388]) rfl rfl rfl ?_
            refine pm_R_icmp pm_M20 (t := 68) (pc_q := 44) rfl rfl rfl (fun c391 => ?_) (fun c391 => ?_)
            · have B392 : sf_B 2 599 z388 := sf_leR c391 sf_k2 B390
              refine pm_R_lo pm_M20 (pc_q := 69) rfl rfl rfl ?_
              refine pm_R_op pm_M20 (pc_q := 70) (st_q := [.ref 30, .ref 30]) rfl rfl rfl ?_
              refine pm_R_get pm_M20 (pc_q := 73) (v := .int (m_237 10)) rfl rfl T_237.e30 (by decide) (T_237.lt (by decide)) rfl rfl ?_
              refine pm_R_op pm_M20 (pc_q := 74) (st_q := [.int 1, .int (m_237 10), .ref 30]) rfl rfl rfl ?_
              refine sf_R_iadd pm_M20 (pc_q := 75) rfl rfl B290 sf_k1 (by decide) (by decide) (fun z393 e394 B395 => ?_)
              refine cl_R_put30 G pm_M20 T_237 (k := 10) (pc_q := 78) rfl rfl rfl (by decide) rfl rfl (sf_weak B395 (by decide) (by decide)) rfl rfl rfl rfl rfl (fun h396 m399 em400 T397 F398 => ?_)
              have F401 := F398.cl (ck := ck) T_237.1
              have F402 := F_237.trans (N := 0) (S := 0) F401 (by decide) (by decide) (by decide)
              have B403 : sf_B 0 600 (m399 11) := by rw [em400]; exact B240
              have ek404 : (m399 11).toInt = ((m 11)).toInt := by rw [em400]; exact ek241
              have B405 : sf_B 0 600 (m399 9) := by rw [em400]; exact B242
              have ek406 : (m399 9).toInt = ((m7 9)).toInt := by rw [em400]; exact ek243
              have B407 : sf_B 0 99 (m399 13) := by rw [em400]; exact B246
              have ek408 : (m399 13).toInt = ((m_237 13)).toInt := by rw [em400]; rfl
              have B409 : sf_B 1 600 (m399 10) := by rw [em400]; exact B395
              have ek410 : (m399 10).toInt = (z393).toInt := by rw [em400]; rfl
              have W411 : rf_W [10, 12, 13] m m399 := by rw [em400]; exact W244.put (by decide)
              have W412 : rf_W [10, 13] m7 m399 := by rw [em400]; exact W_237.put (by decide)
              refine pm_R_br pm_M20 (pc_q := 5) rfl rfl ?_
              exact ih_237 _ (sf_up hN_237 (cl_aux25 _ _ _ e394 ek410) B290 (by decide) (by decide)) h396 m399  T397 F402 W412  (cl_aux26 _ _ _ _ _ _ _ _ _ _ e394 ek410 ek404 ek408 (Int32.lt_iff_toInt_lt.mp (Int32.not_le.mp c247)) e389 (Int32.le_iff_toInt_le.mp c391) (Int.le_of_lt (Int32.lt_iff_toInt_lt.mp (Int32.not_le.mp c247))) B290.1 B290.2 B409.1 B409.2 B2.1 B2.2 B403.1 B403.2 B246.1 B246.2 B407.1 B407.2 B291.1 B291.2 B392.1 B392.2 X_237 ek241) rfl
            · have B413 : sf_B 0 9 (m_237 13) := ⟨B246.1, (cl_aux24 _ _ _ _ _ e389 X_237 ek241 (Int32.lt_iff_toInt_lt.mp (Int32.not_le.mp c391)))⟩
              have B414 : sf_B (-600) 1 z388 := sf_ltL (Int32.not_le.mp c391) B390 sf_k2
              refine pm_R_lo pm_M20 (pc_q := 45) rfl rfl rfl ?_
              refine pm_R_lo pm_M20 (pc_q := 46) rfl rfl rfl ?_
              refine pm_R_get pm_M20 (pc_q := 49) (v := .int (m_237 13)) rfl rfl T_237.e30 (by decide) (T_237.lt (by decide)) rfl rfl ?_
              refine pm_R_op pm_M20 (pc_q := 51) (st_q := [.int 10, .int (m_237 13), .ref 30]) rfl rfl rfl ?_
              refine sf_R_imul pm_M20 (pc_q := 52) rfl rfl B413 sf_k10 (by decide) (by decide) (by decide) (fun z415 e416 B417 => ?_)
              refine pm_R_lo pm_M20 (pc_q := 53) rfl rfl rfl ?_
              refine pm_R_get pm_M20 (pc_q := 56) (v := .ref 18) rfl rfl T_237.e30 (by decide) (T_237.lt (by decide)) rfl rfl ?_
              refine pm_R_lo pm_M20 (pc_q := 57) rfl rfl rfl ?_
              refine pm_R_get pm_M20 (pc_q := 60) (v := .int (m_237 10)) rfl rfl T_237.e30 (by decide) (T_237.lt (by decide)) rfl rfl ?_
              refine pm_R_bald pm_M20 (pc_q := 61) (v := z292) rfl e296 (Or.inl rfl) (by decide) (T_237.lt (by decide)) (sf_in B290 (by decide) (by decide)) ez293 rfl ?_
              refine sf_R_iadd pm_M20 (pc_q := 62) rfl rfl B417 B387 (by decide) (by decide) (fun z421 e422 B423 => ?_)
              refine pm_R_op pm_M20 (pc_q := 64) (st_q := [.int 48, .int z421, .ref 30]) rfl rfl rfl ?_
              refine sf_R_isub pm_M20 (pc_q := 65) rfl rfl B423 sf_k48 (by decide) (by decide) (fun z424 e425 B426 => ?_)
              refine cl_R_put30 G pm_M20 T_237 (k := 13) (pc_q := 68) rfl rfl rfl (by decide) rfl rfl B426 rfl rfl rfl rfl rfl (fun h427 m430 em431 T428 F429 => ?_)
              have F432 := F429.cl (ck := ck) T_237.1
              have F433 := F_237.trans (N := 0) (S := 0) F432 (by decide) (by decide) (by decide)
              have B434 : sf_B 0 600 (m430 11) := by rw [em431]; exact B240
              have ek435 : (m430 11).toInt = ((m 11)).toInt := by rw [em431]; exact ek241
              have B436 : sf_B 0 600 (m430 9) := by rw [em431]; exact B242
              have ek437 : (m430 9).toInt = ((m7 9)).toInt := by rw [em431]; exact ek243
              have B438 : sf_B 0 599 (m430 10) := by rw [em431]; exact B290
              have ek439 : (m430 10).toInt = ((m_237 10)).toInt := by rw [em431]; rfl
              have B440 : sf_B 0 99 (m430 13) := by rw [em431]; exact B426
              have ek441 : (m430 13).toInt = (z424).toInt := by rw [em431]; rfl
              have W442 : rf_W [10, 12, 13] m m430 := by rw [em431]; exact W244.put (by decide)
              have W443 : rf_W [10, 13] m7 m430 := by rw [em431]; exact W_237.put (by decide)
              refine pm_R_lo pm_M20 (pc_q := 69) rfl rfl rfl ?_
              refine pm_R_op pm_M20 (pc_q := 70) (st_q := [.ref 30, .ref 30]) rfl rfl rfl ?_
              refine pm_R_get pm_M20 (pc_q := 73) (v := .int (m_237 10)) rfl rfl T428.e30 (by decide) (T428.lt (by decide)) (congrArg (fun z => some (Value.int z)) (Int32.toInt_inj.mp (cl_aux3 _ _ ek439))) rfl ?_
              refine pm_R_op pm_M20 (pc_q := 74) (st_q := [.int 1, .int (m_237 10), .ref 30]) rfl rfl rfl ?_
              refine sf_R_iadd pm_M20 (pc_q := 75) rfl rfl B290 sf_k1 (by decide) (by decide) (fun z444 e445 B446 => ?_)
              refine cl_R_put30 G pm_M20 T428 (k := 10) (pc_q := 78) rfl rfl rfl (by decide) rfl rfl (sf_weak B446 (by decide) (by decide)) rfl rfl rfl rfl rfl (fun h447 m450 em451 T448 F449 => ?_)
              have F452 := F449.cl (ck := ck) T428.1
              have F453 := F433.trans (N := 0) (S := 0) F452 (by decide) (by decide) (by decide)
              have B454 : sf_B 0 600 (m450 11) := by rw [em451]; exact B434
              have ek455 : (m450 11).toInt = ((m 11)).toInt := by rw [em451]; exact ek435
              have B456 : sf_B 0 600 (m450 9) := by rw [em451]; exact B436
              have ek457 : (m450 9).toInt = ((m7 9)).toInt := by rw [em451]; exact ek437
              have B458 : sf_B 0 99 (m450 13) := by rw [em451]; exact B440
              have ek459 : (m450 13).toInt = (z424).toInt := by rw [em451]; exact ek441
              have B460 : sf_B 1 600 (m450 10) := by rw [em451]; exact B446
              have ek461 : (m450 10).toInt = (z444).toInt := by rw [em451]; rfl
              have W462 : rf_W [10, 12, 13] m m450 := by rw [em451]; exact W442.put (by decide)
              have W463 : rf_W [10, 13] m7 m450 := by rw [em451]; exact W443.put (by decide)
              refine pm_R_br pm_M20 (pc_q := 5) rfl rfl ?_
              exact ih_237 _ (sf_up hN_237 (cl_aux25 _ _ _ e445 ek461) B290 (by decide) (by decide)) h447 m450  T448 F453 W463  (cl_aux27 _ _ _ _ _ _ _ _ _ _ _ _ _ _ e445 ek461 ek455 e416 e422 e425 ek459 (Int32.lt_iff_toInt_lt.mp (Int32.not_le.mp c247)) (Int32.le_iff_toInt_le.mp (Int32.not_lt.mp c298)) (Int32.le_iff_toInt_le.mp (Int32.not_lt.mp c343)) e389 (Int32.lt_iff_toInt_lt.mp (Int32.not_le.mp c391)) (Int.le_of_lt (Int32.lt_iff_toInt_lt.mp (Int32.not_le.mp c247))) B290.1 B290.2 B460.1 B460.2 B2.1 B2.2 B454.1 B454.2 B413.1 B413.2 B342.1 B458.1 B458.2 B291.1 B291.2 B414.1 B414.2 X_237 ek241) rfl
  exact L_237 _ h4 m7  T5 F10 (rf_W.refl _ _)  (cl_aux28 _ _ _ _ _ ek12 ek14 B1.1 B1.2 B11.1 B11.2 B2.1 B2.2 B13.1 B13.2 B15.1 B15.2 E0) rfl

theorem cl_aux29 (v0 v1 v2 : Int) (q0 : v0 = v1) (q1 : v2 = v1) : v0 = v2 := by omega
set_option maxRecDepth 100000 in
set_option maxHeartbeats 4000000 in
/-- SilentTable$Tokens.step -/
theorem cl_c16 {d : Nat} {ck : cl_K} {E : Nat → pm_E} {m : Nat → Int32} {o : Nat → Option Nat} {h : pm_H} {Q : Option Value → pm_H → Prop}  (G : cl_G ck E) (T : cl_T ck E m o h)  (K : ∀ (m_q : Nat → Int32) (h_q : pm_H), cl_T ck E m_q o h_q → cl_F ck [30] 0 0 h h_q → rf_W [10, 11, 12, 13] m m_q → Q none h_q) : pm_R (d + 2) 16 0 [.ref 30] [] h Q := by
  refine pm_R_lo pm_M16 (pc_q := 1) rfl rfl rfl ?_
  refine pm_R_lo pm_M16 (pc_q := 2) rfl rfl rfl ?_
  have B1 : sf_B 0 600 (m 10) := T.B 10
  refine pm_R_get pm_M16 (pc_q := 5) (v := .int (m 10)) rfl rfl T.e30 (by decide) (T.lt (by decide)) rfl rfl ?_
  refine cl_R_put30 G pm_M16 T (k := 11) (pc_q := 8) rfl rfl rfl (by decide) rfl rfl B1 rfl rfl rfl rfl rfl (fun h2 m5 em6 T3 F4 => ?_)
  have F7 := F4.cl (ck := ck) T.1
  have F8 := (cl_F.refl (ck := ck) (A := [30]) (n := 0) (s := 0) T.1).trans (N := 0) (S := 0) F7 (by decide) (by decide) (by decide)
  have B9 : sf_B 0 600 (m5 10) := by rw [em6]; exact B1
  have ek10 : (m5 10).toInt = ((m 10)).toInt := by rw [em6]; rfl
  have B11 : sf_B 0 600 (m5 11) := by rw [em6]; exact B1
  have ek12 : (m5 11).toInt = ((m 10)).toInt := by rw [em6]; rfl
  have W13 : rf_W [10, 11, 12, 13] m m5 := by rw [em6]; exact (rf_W.refl [10, 11, 12, 13] m).put (by decide)
  have L_798 : ∀ (N : Nat) (h_798 : pm_H) (m_798 : Nat → Int32), cl_T ck E m_798 o h_798 → cl_F ck [30] 0 0 h h_798 → rf_W [11] m5 m_798 → True → (600 - (m_798 11).toInt).toNat = N → pm_R (d + 2) 16 8 [.ref 30] [] h_798 Q := by
    intro N
    induction N using Nat.strongRecOn with
    | ind N ih_798 =>
      intro h_798 m_798 T_798 F_798 W_798 X_798 hN_798
      have B801 : sf_B 0 600 (m_798 10) := by rw [W_798 10 (by decide)]; exact B9
      have ek802 : (m_798 10).toInt = ((m 10)).toInt := by rw [W_798 10 (by decide)]; exact ek10
      have W803 : rf_W [10, 11, 12, 13] m m_798 := W13.trans W_798 (by decide)
      refine pm_R_lo pm_M16 (pc_q := 9) rfl rfl rfl ?_
      have B804 : sf_B 0 600 (m_798 11) := T_798.B 11
      refine pm_R_get pm_M16 (pc_q := 12) (v := .int (m_798 11)) rfl rfl T_798.e30 (by decide) (T_798.lt (by decide)) rfl rfl ?_
      refine pm_R_lo pm_M16 (pc_q := 13) rfl rfl rfl ?_
      have B805 : sf_B 0 600 (m_798 9) := T_798.B 9
      refine pm_R_get pm_M16 (pc_q := 16) (v := .int (m_798 9)) rfl rfl T_798.e30 (by decide) (T_798.lt (by decide)) rfl rfl ?_
      refine pm_R_icmp pm_M16 (t := 47) (pc_q := 19) rfl rfl rfl (fun c806 => ?_) (fun c806 => ?_)
      · skip
        refine pm_R_lo pm_M16 (pc_q := 48) rfl rfl rfl ?_
        refine pm_R_lo pm_M16 (pc_q := 49) rfl rfl rfl ?_
        refine pm_R_get pm_M16 (pc_q := 52) (v := .int (m_798 11)) rfl rfl T_798.e30 (by decide) (T_798.lt (by decide)) rfl rfl ?_
        refine cl_R_put30 G pm_M16 T_798 (k := 10) (pc_q := 55) rfl rfl rfl (by decide) rfl rfl B804 rfl rfl rfl rfl rfl (fun h807 m810 em811 T808 F809 => ?_)
        have F812 := F809.cl (ck := ck) T_798.1
        have F813 := F_798.trans (N := 0) (S := 0) F812 (by decide) (by decide) (by decide)
        have B814 : sf_B 0 600 (m810 11) := by rw [em811]; exact B804
        have ek815 : (m810 11).toInt = ((m_798 11)).toInt := by rw [em811]; rfl
        have B816 : sf_B 0 600 (m810 10) := by rw [em811]; exact B804
        have ek817 : (m810 10).toInt = ((m_798 11)).toInt := by rw [em811]; rfl
        have W818 : rf_W [10, 11, 12, 13] m m810 := by rw [em811]; exact W803.put (by decide)
        refine pm_R_lo pm_M16 (pc_q := 56) rfl rfl rfl ?_
        refine pm_R_get pm_M16 (pc_q := 59) (v := .int (m_798 11)) rfl rfl T808.e30 (by decide) (T808.lt (by decide)) (congrArg (fun z => some (Value.int z)) (Int32.toInt_inj.mp (cl_aux3 _ _ ek815))) rfl ?_
        refine pm_R_lo pm_M16 (pc_q := 60) rfl rfl rfl ?_
        have B819 : sf_B 0 600 (m810 9) := T808.B 9
        refine pm_R_get pm_M16 (pc_q := 63) (v := .int (m810 9)) rfl rfl T808.e30 (by decide) (T808.lt (by decide)) rfl rfl ?_
        refine pm_R_icmp pm_M16 (t := 74) (pc_q := 66) rfl rfl rfl (fun c820 => ?_) (fun c820 => ?_)
        · have B821 : sf_B 0 599 (m_798 11) := sf_ltL c820 B804 B819
          have B822 : sf_B 1 600 (m810 9) := sf_ltR c820 B804 B819
          refine pm_R_lo pm_M16 (pc_q := 75) rfl rfl rfl ?_
          refine pm_R_get pm_M16 (pc_q := 78) (v := .ref 18) rfl rfl T808.e30 (by decide) (T808.lt (by decide)) rfl rfl ?_
          refine pm_R_lo pm_M16 (pc_q := 79) rfl rfl rfl ?_
          refine pm_R_get pm_M16 (pc_q := 82) (v := .int (m_798 11)) rfl rfl T808.e30 (by decide) (T808.lt (by decide)) (congrArg (fun z => some (Value.int z)) (Int32.toInt_inj.mp (cl_aux3 _ _ ek815))) rfl ?_
          obtain ⟨f826, e827⟩ := T808.C 18 (by decide) (by decide)
          obtain ⟨z823, ez824⟩ : ∃ y, f826 (Int32.toNatClampNeg (m_798 11)) = y := ⟨_, rfl⟩
          refine pm_R_bald pm_M16 (pc_q := 83) (v := z823) rfl e827 (Or.inl rfl) (by decide) (T808.lt (by decide)) (sf_in B821 (by decide) (by decide)) ez824 rfl ?_
          refine pm_R_cs pm_M16 (pc_q := 86) (ra := [.int z823]) (rest := []) (ls_q := [.int z823]) rfl rfl (Or.inl rfl) pm_M18 rfl rfl (Nat.le_of_ble_eq_true rfl) rfl rfl ?_
          refine pm_R_lo pm_M18 (pc_q := 1) rfl rfl rfl ?_
          refine pm_R_op pm_M18 (pc_q := 3) (st_q := [.int 97, .int z823]) rfl rfl rfl ?_
          refine pm_R_icmp pm_M18 (t := 16) (pc_q := 6) rfl rfl rfl (fun c829 => ?_) (fun c829 => ?_)
          · have B830 : sf_B (-2147483648) 96 z823 := sf_ltL c829 (sf_any z823) sf_k97
            refine pm_R_op pm_M18 (pc_q := 17) (st_q := [.int 0]) rfl rfl rfl ?_
            refine pm_R_ret pm_M18 (r := some (.int 0)) rfl rfl ?_
            show pm_R _ 16 86 [.ref 30] [.int 0] _ _
            refine pm_R_br pm_M16 (pc_q := 136) (st_q := []) rfl rfl ?_
            refine pm_R_lo pm_M16 (pc_q := 137) (pm_q16_1 (Nat.le_of_ble_eq_true rfl)) rfl rfl ?_
            refine pm_R_get pm_M16 (pc_q := 140) (v := .ref 18) (pm_q16_1 (Nat.le_of_ble_eq_true rfl)) rfl T808.e30 (by decide) (T808.lt (by decide)) rfl rfl ?_
            refine pm_R_lo pm_M16 (pc_q := 141) (pm_q16_1 (Nat.le_of_ble_eq_true rfl)) rfl rfl ?_
            refine pm_R_get pm_M16 (pc_q := 144) (v := .int (m_798 11)) (pm_q16_1 (Nat.le_of_ble_eq_true rfl)) rfl T808.e30 (by decide) (T808.lt (by decide)) (congrArg (fun z => some (Value.int z)) (Int32.toInt_inj.mp (cl_aux3 _ _ ek815))) rfl ?_
            refine pm_R_bald pm_M16 (pc_q := 145) (v := z823) (pm_q16_1 (Nat.le_of_ble_eq_true rfl)) e827 (Or.inl rfl) (by decide) (T808.lt (by decide)) (sf_in B821 (by decide) (by decide)) ez824 rfl ?_
            refine pm_R_cs pm_M16 (pc_q := 148) (ra := [.int z823]) (rest := []) (ls_q := [.int z823]) (pm_q16_1 (Nat.le_of_ble_eq_true rfl)) rfl (Or.inl rfl) pm_M19 rfl rfl (Nat.le_of_ble_eq_true rfl) rfl rfl ?_
            refine pm_R_lo pm_M19 (pc_q := 1) rfl rfl rfl ?_
            refine pm_R_op pm_M19 (pc_q := 3) (st_q := [.int 48, .int z823]) rfl rfl rfl ?_
            refine pm_R_icmp pm_M19 (t := 16) (pc_q := 6) rfl rfl rfl (fun c834 => ?_) (fun c834 => ?_)
            · have B835 : sf_B (-2147483648) 47 z823 := sf_ltL c834 B830 sf_k48
              refine pm_R_op pm_M19 (pc_q := 17) (st_q := [.int 0]) rfl rfl rfl ?_
              refine pm_R_ret pm_M19 (r := some (.int 0)) rfl rfl ?_
              show pm_R _ 16 148 [.ref 30] [.int 0] _ _
              refine pm_R_br pm_M16 (pc_q := 158) (st_q := []) (pm_q16_1 (Nat.le_of_ble_eq_true rfl)) rfl ?_
              refine pm_R_lo pm_M16 (pc_q := 159) (pm_q16_1 (Nat.le_of_ble_eq_true rfl)) rfl rfl ?_
              refine pm_R_lo pm_M16 (pc_q := 160) (pm_q16_1 (Nat.le_of_ble_eq_true rfl)) rfl rfl ?_
              refine pm_R_get pm_M16 (pc_q := 163) (v := .ref 18) (pm_q16_1 (Nat.le_of_ble_eq_true rfl)) rfl T808.e30 (by decide) (T808.lt (by decide)) rfl rfl ?_
              refine pm_R_lo pm_M16 (pc_q := 164) (pm_q16_1 (Nat.le_of_ble_eq_true rfl)) rfl rfl ?_
              refine pm_R_get pm_M16 (pc_q := 167) (v := .int (m_798 11)) (pm_q16_1 (Nat.le_of_ble_eq_true rfl)) rfl T808.e30 (by decide) (T808.lt (by decide)) (congrArg (fun z => some (Value.int z)) (Int32.toInt_inj.mp (cl_aux3 _ _ ek815))) rfl ?_
              refine pm_R_bald pm_M16 (pc_q := 168) (v := z823) (pm_q16_1 (Nat.le_of_ble_eq_true rfl)) e827 (Or.inl rfl) (by decide) (T808.lt (by decide)) (sf_in B821 (by decide) (by decide)) ez824 rfl ?_
              refine pm_R_op pm_M16 (pc_q := 170) (st_q := [.int 59, .int z823, .ref 30]) (pm_q16_1 (Nat.le_of_ble_eq_true rfl)) rfl rfl ?_
              refine pm_R_icmp pm_M16 (t := 177) (pc_q := 173) (pm_q16_1 (Nat.le_of_ble_eq_true rfl)) rfl rfl (fun c839 => ?_) (fun c839 => absurd (Classical.not_not.mp c839) (sf_neq2 B835 sf_k59 (by decide)))
              skip
              refine pm_R_op pm_M16 (pc_q := 178) (st_q := [.int 4, .ref 30]) (pm_q16_1 (Nat.le_of_ble_eq_true rfl)) rfl rfl ?_
              refine cl_R_put30 G pm_M16 T808 (k := 12) (pc_q := 181) (pm_q16_1 (Nat.le_of_ble_eq_true rfl)) rfl rfl (by decide) rfl rfl (sf_weak sf_k4 (by decide) (by decide)) rfl rfl rfl rfl rfl (fun h840 m843 em844 T841 F842 => ?_)
              have F845 := F842.cl (ck := ck) T808.1
              have F846 := F813.trans (N := 0) (S := 0) F845 (by decide) (by decide) (by decide)
              have B847 : sf_B 0 600 (m843 11) := by rw [em844]; exact B814
              have ek848 : (m843 11).toInt = ((m_798 11)).toInt := by rw [em844]; exact ek815
              have B849 : sf_B 0 600 (m843 10) := by rw [em844]; exact B816
              have ek850 : (m843 10).toInt = ((m_798 11)).toInt := by rw [em844]; exact ek817
              have B851 : sf_B 1 600 (m843 9) := by rw [em844]; exact B822
              have B852 : sf_B 4 4 (m843 12) := by rw [em844]; exact sf_k4
              have W854 : rf_W [10, 11, 12, 13] m m843 := by rw [em844]; exact W818.put (by decide)
              refine pm_R_lo pm_M16 (pc_q := 182) (pm_q16_1 (Nat.le_of_ble_eq_true rfl)) rfl rfl ?_
              refine pm_R_op pm_M16 (pc_q := 183) (st_q := [.ref 30, .ref 30]) (pm_q16_1 (Nat.le_of_ble_eq_true rfl)) rfl rfl ?_
              refine pm_R_get pm_M16 (pc_q := 186) (v := .int (m_798 11)) (pm_q16_1 (Nat.le_of_ble_eq_true rfl)) rfl T841.e30 (by decide) (T841.lt (by decide)) (congrArg (fun z => some (Value.int z)) (Int32.toInt_inj.mp (cl_aux3 _ _ ek850))) rfl ?_
              refine pm_R_op pm_M16 (pc_q := 187) (st_q := [.int 1, .int (m_798 11), .ref 30]) (pm_q16_1 (Nat.le_of_ble_eq_true rfl)) rfl rfl ?_
              refine sf_R_iadd pm_M16 (pc_q := 188) (pm_q16_1 (Nat.le_of_ble_eq_true rfl)) rfl B821 sf_k1 (by decide) (by decide) (fun z855 e856 B857 => ?_)
              refine cl_R_put30 G pm_M16 T841 (k := 10) (pc_q := 191) (pm_q16_1 (Nat.le_of_ble_eq_true rfl)) rfl rfl (by decide) rfl rfl (sf_weak B857 (by decide) (by decide)) rfl rfl rfl rfl rfl (fun h858 m861 em862 T859 F860 => ?_)
              have F863 := F860.cl (ck := ck) T841.1
              have F864 := F846.trans (N := 0) (S := 0) F863 (by decide) (by decide) (by decide)
              have B865 : sf_B 0 600 (m861 11) := by rw [em862]; exact B847
              have ek866 : (m861 11).toInt = ((m_798 11)).toInt := by rw [em862]; exact ek848
              have B867 : sf_B 1 600 (m861 9) := by rw [em862]; exact B851
              have B868 : sf_B 4 4 (m861 12) := by rw [em862]; exact B852
              have B869 : sf_B 1 600 (m861 10) := by rw [em862]; exact B857
              have ek870 : (m861 10).toInt = (z855).toInt := by rw [em862]; rfl
              have W871 : rf_W [10, 11, 12, 13] m m861 := by rw [em862]; exact W854.put (by decide)
              exact pm_R_ret pm_M16 (r := none) (pm_q16_1 (Nat.le_of_ble_eq_true rfl)) rfl (K m861 h858 T859 F864 W871)
            · have B872 : sf_B 48 96 z823 := sf_leR (Int32.not_lt.mp c834) sf_k48 B830
              refine pm_R_lo pm_M19 (pc_q := 7) rfl rfl rfl ?_
              refine pm_R_op pm_M19 (pc_q := 9) (st_q := [.int 57, .int z823]) rfl rfl rfl ?_
              refine pm_R_icmp pm_M19 (t := 16) (pc_q := 12) rfl rfl rfl (fun c873 => ?_) (fun c873 => ?_)
              · have B874 : sf_B 58 96 z823 := sf_ltR c873 sf_k57 B872
                refine pm_R_op pm_M19 (pc_q := 17) (st_q := [.int 0]) rfl rfl rfl ?_
                refine pm_R_ret pm_M19 (r := some (.int 0)) rfl rfl ?_
                show pm_R _ 16 148 [.ref 30] [.int 0] _ _
                refine pm_R_br pm_M16 (pc_q := 158) (st_q := []) (pm_q16_1 (Nat.le_of_ble_eq_true rfl)) rfl ?_
                refine pm_R_lo pm_M16 (pc_q := 159) (pm_q16_1 (Nat.le_of_ble_eq_true rfl)) rfl rfl ?_
                refine pm_R_lo pm_M16 (pc_q := 160) (pm_q16_1 (Nat.le_of_ble_eq_true rfl)) rfl rfl ?_
                refine pm_R_get pm_M16 (pc_q := 163) (v := .ref 18) (pm_q16_1 (Nat.le_of_ble_eq_true rfl)) rfl T808.e30 (by decide) (T808.lt (by decide)) rfl rfl ?_
                refine pm_R_lo pm_M16 (pc_q := 164) (pm_q16_1 (Nat.le_of_ble_eq_true rfl)) rfl rfl ?_
                refine pm_R_get pm_M16 (pc_q := 167) (v := .int (m_798 11)) (pm_q16_1 (Nat.le_of_ble_eq_true rfl)) rfl T808.e30 (by decide) (T808.lt (by decide)) (congrArg (fun z => some (Value.int z)) (Int32.toInt_inj.mp (cl_aux3 _ _ ek815))) rfl ?_
                refine pm_R_bald pm_M16 (pc_q := 168) (v := z823) (pm_q16_1 (Nat.le_of_ble_eq_true rfl)) e827 (Or.inl rfl) (by decide) (T808.lt (by decide)) (sf_in B821 (by decide) (by decide)) ez824 rfl ?_
                refine pm_R_op pm_M16 (pc_q := 170) (st_q := [.int 59, .int z823, .ref 30]) (pm_q16_1 (Nat.le_of_ble_eq_true rfl)) rfl rfl ?_
                refine pm_R_icmp pm_M16 (t := 177) (pc_q := 173) (pm_q16_1 (Nat.le_of_ble_eq_true rfl)) rfl rfl (fun c878 => ?_) (fun c878 => ?_)
                · skip
                  refine pm_R_op pm_M16 (pc_q := 178) (st_q := [.int 4, .ref 30]) (pm_q16_1 (Nat.le_of_ble_eq_true rfl)) rfl rfl ?_
                  refine cl_R_put30 G pm_M16 T808 (k := 12) (pc_q := 181) (pm_q16_1 (Nat.le_of_ble_eq_true rfl)) rfl rfl (by decide) rfl rfl (sf_weak sf_k4 (by decide) (by decide)) rfl rfl rfl rfl rfl (fun h879 m882 em883 T880 F881 => ?_)
                  have F884 := F881.cl (ck := ck) T808.1
                  have F885 := F813.trans (N := 0) (S := 0) F884 (by decide) (by decide) (by decide)
                  have B886 : sf_B 0 600 (m882 11) := by rw [em883]; exact B814
                  have ek887 : (m882 11).toInt = ((m_798 11)).toInt := by rw [em883]; exact ek815
                  have B888 : sf_B 0 600 (m882 10) := by rw [em883]; exact B816
                  have ek889 : (m882 10).toInt = ((m_798 11)).toInt := by rw [em883]; exact ek817
                  have B890 : sf_B 1 600 (m882 9) := by rw [em883]; exact B822
                  have B891 : sf_B 4 4 (m882 12) := by rw [em883]; exact sf_k4
                  have W893 : rf_W [10, 11, 12, 13] m m882 := by rw [em883]; exact W818.put (by decide)
                  refine pm_R_lo pm_M16 (pc_q := 182) (pm_q16_1 (Nat.le_of_ble_eq_true rfl)) rfl rfl ?_
                  refine pm_R_op pm_M16 (pc_q := 183) (st_q := [.ref 30, .ref 30]) (pm_q16_1 (Nat.le_of_ble_eq_true rfl)) rfl rfl ?_
                  refine pm_R_get pm_M16 (pc_q := 186) (v := .int (m_798 11)) (pm_q16_1 (Nat.le_of_ble_eq_true rfl)) rfl T880.e30 (by decide) (T880.lt (by decide)) (congrArg (fun z => some (Value.int z)) (Int32.toInt_inj.mp (cl_aux3 _ _ ek889))) rfl ?_
                  refine pm_R_op pm_M16 (pc_q := 187) (st_q := [.int 1, .int (m_798 11), .ref 30]) (pm_q16_1 (Nat.le_of_ble_eq_true rfl)) rfl rfl ?_
                  refine sf_R_iadd pm_M16 (pc_q := 188) (pm_q16_1 (Nat.le_of_ble_eq_true rfl)) rfl B821 sf_k1 (by decide) (by decide) (fun z894 e895 B896 => ?_)
                  refine cl_R_put30 G pm_M16 T880 (k := 10) (pc_q := 191) (pm_q16_1 (Nat.le_of_ble_eq_true rfl)) rfl rfl (by decide) rfl rfl (sf_weak B896 (by decide) (by decide)) rfl rfl rfl rfl rfl (fun h897 m900 em901 T898 F899 => ?_)
                  have F902 := F899.cl (ck := ck) T880.1
                  have F903 := F885.trans (N := 0) (S := 0) F902 (by decide) (by decide) (by decide)
                  have B904 : sf_B 0 600 (m900 11) := by rw [em901]; exact B886
                  have ek905 : (m900 11).toInt = ((m_798 11)).toInt := by rw [em901]; exact ek887
                  have B906 : sf_B 1 600 (m900 9) := by rw [em901]; exact B890
                  have B907 : sf_B 4 4 (m900 12) := by rw [em901]; exact B891
                  have B908 : sf_B 1 600 (m900 10) := by rw [em901]; exact B896
                  have ek909 : (m900 10).toInt = (z894).toInt := by rw [em901]; rfl
                  have W910 : rf_W [10, 11, 12, 13] m m900 := by rw [em901]; exact W893.put (by decide)
                  exact pm_R_ret pm_M16 (r := none) (pm_q16_1 (Nat.le_of_ble_eq_true rfl)) rfl (K m900 h897 T898 F903 W910)
                · have B911 : sf_B 59 59 z823 := sf_eqL (Classical.not_not.mp c878) sf_k59
                  refine pm_R_op pm_M16 (pc_q := 174) (st_q := [.int 3, .ref 30]) (pm_q16_1 (Nat.le_of_ble_eq_true rfl)) rfl rfl ?_
                  refine pm_R_br pm_M16 (pc_q := 178) (pm_q16_1 (Nat.le_of_ble_eq_true rfl)) rfl ?_
                  refine cl_R_put30 G pm_M16 T808 (k := 12) (pc_q := 181) (pm_q16_1 (Nat.le_of_ble_eq_true rfl)) rfl rfl (by decide) rfl rfl (sf_weak sf_k3 (by decide) (by decide)) rfl rfl rfl rfl rfl (fun h912 m915 em916 T913 F914 => ?_)
                  have F917 := F914.cl (ck := ck) T808.1
                  have F918 := F813.trans (N := 0) (S := 0) F917 (by decide) (by decide) (by decide)
                  have B919 : sf_B 0 600 (m915 11) := by rw [em916]; exact B814
                  have ek920 : (m915 11).toInt = ((m_798 11)).toInt := by rw [em916]; exact ek815
                  have B921 : sf_B 0 600 (m915 10) := by rw [em916]; exact B816
                  have ek922 : (m915 10).toInt = ((m_798 11)).toInt := by rw [em916]; exact ek817
                  have B923 : sf_B 1 600 (m915 9) := by rw [em916]; exact B822
                  have B924 : sf_B 3 3 (m915 12) := by rw [em916]; exact sf_k3
                  have W926 : rf_W [10, 11, 12, 13] m m915 := by rw [em916]; exact W818.put (by decide)
                  refine pm_R_lo pm_M16 (pc_q := 182) (pm_q16_1 (Nat.le_of_ble_eq_true rfl)) rfl rfl ?_
                  refine pm_R_op pm_M16 (pc_q := 183) (st_q := [.ref 30, .ref 30]) (pm_q16_1 (Nat.le_of_ble_eq_true rfl)) rfl rfl ?_
                  refine pm_R_get pm_M16 (pc_q := 186) (v := .int (m_798 11)) (pm_q16_1 (Nat.le_of_ble_eq_true rfl)) rfl T913.e30 (by decide) (T913.lt (by decide)) (congrArg (fun z => some (Value.int z)) (Int32.toInt_inj.mp (cl_aux3 _ _ ek922))) rfl ?_
                  refine pm_R_op pm_M16 (pc_q := 187) (st_q := [.int 1, .int (m_798 11), .ref 30]) (pm_q16_1 (Nat.le_of_ble_eq_true rfl)) rfl rfl ?_
                  refine sf_R_iadd pm_M16 (pc_q := 188) (pm_q16_1 (Nat.le_of_ble_eq_true rfl)) rfl B821 sf_k1 (by decide) (by decide) (fun z927 e928 B929 => ?_)
                  refine cl_R_put30 G pm_M16 T913 (k := 10) (pc_q := 191) (pm_q16_1 (Nat.le_of_ble_eq_true rfl)) rfl rfl (by decide) rfl rfl (sf_weak B929 (by decide) (by decide)) rfl rfl rfl rfl rfl (fun h930 m933 em934 T931 F932 => ?_)
                  have F935 := F932.cl (ck := ck) T913.1
                  have F936 := F918.trans (N := 0) (S := 0) F935 (by decide) (by decide) (by decide)
                  have B937 : sf_B 0 600 (m933 11) := by rw [em934]; exact B919
                  have ek938 : (m933 11).toInt = ((m_798 11)).toInt := by rw [em934]; exact ek920
                  have B939 : sf_B 1 600 (m933 9) := by rw [em934]; exact B923
                  have B940 : sf_B 3 3 (m933 12) := by rw [em934]; exact B924
                  have B941 : sf_B 1 600 (m933 10) := by rw [em934]; exact B929
                  have ek942 : (m933 10).toInt = (z927).toInt := by rw [em934]; rfl
                  have W943 : rf_W [10, 11, 12, 13] m m933 := by rw [em934]; exact W926.put (by decide)
                  exact pm_R_ret pm_M16 (r := none) (pm_q16_1 (Nat.le_of_ble_eq_true rfl)) rfl (K m933 h930 T931 F936 W943)
              · have B944 : sf_B 48 57 z823 := sf_leL (Int32.not_lt.mp c873) B872 sf_k57
                refine pm_R_op pm_M19 (pc_q := 13) (st_q := [.int 1]) rfl rfl rfl ?_
                refine pm_R_br pm_M19 (pc_q := 17) rfl rfl ?_
                refine pm_R_ret pm_M19 (r := some (.int 1)) rfl rfl ?_
                show pm_R _ 16 148 [.ref 30] [.int 1] _ _
                refine pm_R_br pm_M16 (pc_q := 151) (st_q := []) (pm_q16_1 (Nat.le_of_ble_eq_true rfl)) rfl ?_
                refine pm_R_lo pm_M16 (pc_q := 152) (pm_q16_1 (Nat.le_of_ble_eq_true rfl)) rfl rfl ?_
                refine pm_R_cv pm_M16 (pc_q := 155) (a := 30) (ra := []) (rest := []) (ls_q := [.ref 30]) (pm_q16_1 (Nat.le_of_ble_eq_true rfl)) rfl (Or.inl rfl) pm_M20 T808.e30 rfl (by decide) (T808.lt (by decide)) rfl rfl (Nat.le_of_ble_eq_true rfl) rfl rfl ?_
                refine cl_c20 (d := d + 0) G T808 (cl_aux29 _ _ _ ek817 ek815) (fun m947 h948 T949 F950 W951 => ?_)
                have F952 := F813.trans (N := 0) (S := 0) F950 (by decide) (by decide) (by decide)
                have B953 : sf_B 0 600 (m947 11) := by rw [W951 11 (by decide)]; exact B814
                have ek954 : (m947 11).toInt = ((m_798 11)).toInt := by rw [W951 11 (by decide)]; exact ek815
                have B955 : sf_B 1 600 (m947 9) := by rw [W951 9 (by decide)]; exact B822
                have W956 : rf_W [10, 11, 12, 13] m m947 := W818.trans W951 (by decide)
                have B957 : sf_B 0 600 (m947 10) := T949.B 10
                show pm_R _ 16 155 [.ref 30] [] _ _
                refine pm_R_br pm_M16 (pc_q := 191) (pm_q16_1 (Nat.le_of_ble_eq_true rfl)) rfl ?_
                exact pm_R_ret pm_M16 (r := none) (pm_q16_1 (Nat.le_of_ble_eq_true rfl)) rfl (K m947 h948 T949 F952 W956)
          · have B958 : sf_B 97 2147483647 z823 := sf_leR (Int32.not_lt.mp c829) sf_k97 (sf_any z823)
            refine pm_R_lo pm_M18 (pc_q := 7) rfl rfl rfl ?_
            refine pm_R_op pm_M18 (pc_q := 9) (st_q := [.int 122, .int z823]) rfl rfl rfl ?_
            refine pm_R_icmp pm_M18 (t := 16) (pc_q := 12) rfl rfl rfl (fun c959 => ?_) (fun c959 => ?_)
            · have B960 : sf_B 123 2147483647 z823 := sf_ltR c959 sf_k122 B958
              refine pm_R_op pm_M18 (pc_q := 17) (st_q := [.int 0]) rfl rfl rfl ?_
              refine pm_R_ret pm_M18 (r := some (.int 0)) rfl rfl ?_
              show pm_R _ 16 86 [.ref 30] [.int 0] _ _
              refine pm_R_br pm_M16 (pc_q := 136) (st_q := []) rfl rfl ?_
              refine pm_R_lo pm_M16 (pc_q := 137) (pm_q16_1 (Nat.le_of_ble_eq_true rfl)) rfl rfl ?_
              refine pm_R_get pm_M16 (pc_q := 140) (v := .ref 18) (pm_q16_1 (Nat.le_of_ble_eq_true rfl)) rfl T808.e30 (by decide) (T808.lt (by decide)) rfl rfl ?_
              refine pm_R_lo pm_M16 (pc_q := 141) (pm_q16_1 (Nat.le_of_ble_eq_true rfl)) rfl rfl ?_
              refine pm_R_get pm_M16 (pc_q := 144) (v := .int (m_798 11)) (pm_q16_1 (Nat.le_of_ble_eq_true rfl)) rfl T808.e30 (by decide) (T808.lt (by decide)) (congrArg (fun z => some (Value.int z)) (Int32.toInt_inj.mp (cl_aux3 _ _ ek815))) rfl ?_
              refine pm_R_bald pm_M16 (pc_q := 145) (v := z823) (pm_q16_1 (Nat.le_of_ble_eq_true rfl)) e827 (Or.inl rfl) (by decide) (T808.lt (by decide)) (sf_in B821 (by decide) (by decide)) ez824 rfl ?_
              refine pm_R_cs pm_M16 (pc_q := 148) (ra := [.int z823]) (rest := []) (ls_q := [.int z823]) (pm_q16_1 (Nat.le_of_ble_eq_true rfl)) rfl (Or.inl rfl) pm_M19 rfl rfl (Nat.le_of_ble_eq_true rfl) rfl rfl ?_
              refine pm_R_lo pm_M19 (pc_q := 1) rfl rfl rfl ?_
              refine pm_R_op pm_M19 (pc_q := 3) (st_q := [.int 48, .int z823]) rfl rfl rfl ?_
              refine pm_R_icmp pm_M19 (t := 16) (pc_q := 6) rfl rfl rfl (fun c964 => absurd c964 (sf_nlt B960 sf_k48 (by decide))) (fun c964 => ?_)
              skip
              refine pm_R_lo pm_M19 (pc_q := 7) rfl rfl rfl ?_
              refine pm_R_op pm_M19 (pc_q := 9) (st_q := [.int 57, .int z823]) rfl rfl rfl ?_
              refine pm_R_icmp pm_M19 (t := 16) (pc_q := 12) rfl rfl rfl (fun c965 => ?_) (fun c965 => absurd (Int32.not_lt.mp c965) (sf_nle B960 sf_k57 (by decide)))
              skip
              refine pm_R_op pm_M19 (pc_q := 17) (st_q := [.int 0]) rfl rfl rfl ?_
              refine pm_R_ret pm_M19 (r := some (.int 0)) rfl rfl ?_
              show pm_R _ 16 148 [.ref 30] [.int 0] _ _
              refine pm_R_br pm_M16 (pc_q := 158) (st_q := []) (pm_q16_1 (Nat.le_of_ble_eq_true rfl)) rfl ?_
              refine pm_R_lo pm_M16 (pc_q := 159) (pm_q16_1 (Nat.le_of_ble_eq_true rfl)) rfl rfl ?_
              refine pm_R_lo pm_M16 (pc_q := 160) (pm_q16_1 (Nat.le_of_ble_eq_true rfl)) rfl rfl ?_
              refine pm_R_get pm_M16 (pc_q := 163) (v := .ref 18) (pm_q16_1 (Nat.le_of_ble_eq_true rfl)) rfl T808.e30 (by decide) (T808.lt (by decide)) rfl rfl ?_
              refine pm_R_lo pm_M16 (pc_q := 164) (pm_q16_1 (Nat.le_of_ble_eq_true rfl)) rfl rfl ?_
              refine pm_R_get pm_M16 (pc_q := 167) (v := .int (m_798 11)) (pm_q16_1 (Nat.le_of_ble_eq_true rfl)) rfl T808.e30 (by decide) (T808.lt (by decide)) (congrArg (fun z => some (Value.int z)) (Int32.toInt_inj.mp (cl_aux3 _ _ ek815))) rfl ?_
              refine pm_R_bald pm_M16 (pc_q := 168) (v := z823) (pm_q16_1 (Nat.le_of_ble_eq_true rfl)) e827 (Or.inl rfl) (by decide) (T808.lt (by decide)) (sf_in B821 (by decide) (by decide)) ez824 rfl ?_
              refine pm_R_op pm_M16 (pc_q := 170) (st_q := [.int 59, .int z823, .ref 30]) (pm_q16_1 (Nat.le_of_ble_eq_true rfl)) rfl rfl ?_
              refine pm_R_icmp pm_M16 (t := 177) (pc_q := 173) (pm_q16_1 (Nat.le_of_ble_eq_true rfl)) rfl rfl (fun c969 => ?_) (fun c969 => absurd (Classical.not_not.mp c969) (sf_neq1 B960 sf_k59 (by decide)))
              skip
              refine pm_R_op pm_M16 (pc_q := 178) (st_q := [.int 4, .ref 30]) (pm_q16_1 (Nat.le_of_ble_eq_true rfl)) rfl rfl ?_
              refine cl_R_put30 G pm_M16 T808 (k := 12) (pc_q := 181) (pm_q16_1 (Nat.le_of_ble_eq_true rfl)) rfl rfl (by decide) rfl rfl (sf_weak sf_k4 (by decide) (by decide)) rfl rfl rfl rfl rfl (fun h970 m973 em974 T971 F972 => ?_)
              have F975 := F972.cl (ck := ck) T808.1
              have F976 := F813.trans (N := 0) (S := 0) F975 (by decide) (by decide) (by decide)
              have B977 : sf_B 0 600 (m973 11) := by rw [em974]; exact B814
              have ek978 : (m973 11).toInt = ((m_798 11)).toInt := by rw [em974]; exact ek815
              have B979 : sf_B 0 600 (m973 10) := by rw [em974]; exact B816
              have ek980 : (m973 10).toInt = ((m_798 11)).toInt := by rw [em974]; exact ek817
              have B981 : sf_B 1 600 (m973 9) := by rw [em974]; exact B822
              have B982 : sf_B 4 4 (m973 12) := by rw [em974]; exact sf_k4
              have W984 : rf_W [10, 11, 12, 13] m m973 := by rw [em974]; exact W818.put (by decide)
              refine pm_R_lo pm_M16 (pc_q := 182) (pm_q16_1 (Nat.le_of_ble_eq_true rfl)) rfl rfl ?_
              refine pm_R_op pm_M16 (pc_q := 183) (st_q := [.ref 30, .ref 30]) (pm_q16_1 (Nat.le_of_ble_eq_true rfl)) rfl rfl ?_
              refine pm_R_get pm_M16 (pc_q := 186) (v := .int (m_798 11)) (pm_q16_1 (Nat.le_of_ble_eq_true rfl)) rfl T971.e30 (by decide) (T971.lt (by decide)) (congrArg (fun z => some (Value.int z)) (Int32.toInt_inj.mp (cl_aux3 _ _ ek980))) rfl ?_
              refine pm_R_op pm_M16 (pc_q := 187) (st_q := [.int 1, .int (m_798 11), .ref 30]) (pm_q16_1 (Nat.le_of_ble_eq_true rfl)) rfl rfl ?_
              refine sf_R_iadd pm_M16 (pc_q := 188) (pm_q16_1 (Nat.le_of_ble_eq_true rfl)) rfl B821 sf_k1 (by decide) (by decide) (fun z985 e986 B987 => ?_)
              refine cl_R_put30 G pm_M16 T971 (k := 10) (pc_q := 191) (pm_q16_1 (Nat.le_of_ble_eq_true rfl)) rfl rfl (by decide) rfl rfl (sf_weak B987 (by decide) (by decide)) rfl rfl rfl rfl rfl (fun h988 m991 em992 T989 F990 => ?_)
              have F993 := F990.cl (ck := ck) T971.1
              have F994 := F976.trans (N := 0) (S := 0) F993 (by decide) (by decide) (by decide)
              have B995 : sf_B 0 600 (m991 11) := by rw [em992]; exact B977
              have ek996 : (m991 11).toInt = ((m_798 11)).toInt := by rw [em992]; exact ek978
              have B997 : sf_B 1 600 (m991 9) := by rw [em992]; exact B981
              have B998 : sf_B 4 4 (m991 12) := by rw [em992]; exact B982
              have B999 : sf_B 1 600 (m991 10) := by rw [em992]; exact B987
              have ek1000 : (m991 10).toInt = (z985).toInt := by rw [em992]; rfl
              have W1001 : rf_W [10, 11, 12, 13] m m991 := by rw [em992]; exact W984.put (by decide)
              exact pm_R_ret pm_M16 (r := none) (pm_q16_1 (Nat.le_of_ble_eq_true rfl)) rfl (K m991 h988 T989 F994 W1001)
            · have B1002 : sf_B 97 122 z823 := sf_leL (Int32.not_lt.mp c959) B958 sf_k122
              refine pm_R_op pm_M18 (pc_q := 13) (st_q := [.int 1]) rfl rfl rfl ?_
              refine pm_R_br pm_M18 (pc_q := 17) rfl rfl ?_
              refine pm_R_ret pm_M18 (r := some (.int 1)) rfl rfl ?_
              show pm_R _ 16 86 [.ref 30] [.int 1] _ _
              refine pm_R_br pm_M16 (pc_q := 89) (st_q := []) rfl rfl ?_
              have L_1082 : ∀ (N : Nat) (h_1082 : pm_H) (m_1082 : Nat → Int32), cl_T ck E m_1082 o h_1082 → cl_F ck [30] 0 0 h h_1082 → rf_W [10] m810 m_1082 → True → (600 - (m_1082 10).toInt).toNat = N → pm_R (d + 2) 16 89 [.ref 30] [] h_1082 Q := by
                intro N
                induction N using Nat.strongRecOn with
                | ind N ih_1082 =>
                  intro h_1082 m_1082 T_1082 F_1082 W_1082 X_1082 hN_1082
                  have B1085 : sf_B 0 600 (m_1082 11) := by rw [W_1082 11 (by decide)]; exact B814
                  have ek1086 : (m_1082 11).toInt = ((m_798 11)).toInt := by rw [W_1082 11 (by decide)]; exact ek815
                  have B1087 : sf_B 1 600 (m_1082 9) := by rw [W_1082 9 (by decide)]; exact B822
                  have W1088 : rf_W [10, 11, 12, 13] m m_1082 := W818.trans W_1082 (by decide)
                  refine pm_R_lo pm_M16 (pc_q := 90) rfl rfl rfl ?_
                  have B1089 : sf_B 0 600 (m_1082 10) := T_1082.B 10
                  refine pm_R_get pm_M16 (pc_q := 93) (v := .int (m_1082 10)) rfl rfl T_1082.e30 (by decide) (T_1082.lt (by decide)) rfl rfl ?_
                  refine pm_R_lo pm_M16 (pc_q := 94) rfl rfl rfl ?_
                  refine pm_R_get pm_M16 (pc_q := 97) (v := .int (m_1082 9)) rfl rfl T_1082.e30 (by decide) (T_1082.lt (by decide)) rfl rfl ?_
                  refine pm_R_icmp pm_M16 (t := 128) (pc_q := 100) rfl rfl rfl (fun c1090 => ?_) (fun c1090 => ?_)
                  · have B1091 : sf_B 1 600 (m_1082 10) := sf_leR c1090 B1087 B1089
                    refine pm_R_lo pm_M16 (pc_q := 129) (pm_q16_1 (Nat.le_of_ble_eq_true rfl)) rfl rfl ?_
                    refine pm_R_op pm_M16 (pc_q := 130) (st_q := [.int 1, .ref 30]) (pm_q16_1 (Nat.le_of_ble_eq_true rfl)) rfl rfl ?_
                    refine cl_R_put30 G pm_M16 T_1082 (k := 12) (pc_q := 133) (pm_q16_1 (Nat.le_of_ble_eq_true rfl)) rfl rfl (by decide) rfl rfl (sf_weak sf_k1 (by decide) (by decide)) rfl rfl rfl rfl rfl (fun h1092 m1095 em1096 T1093 F1094 => ?_)
                    have F1097 := F1094.cl (ck := ck) T_1082.1
                    have F1098 := F_1082.trans (N := 0) (S := 0) F1097 (by decide) (by decide) (by decide)
                    have B1099 : sf_B 0 600 (m1095 11) := by rw [em1096]; exact B1085
                    have ek1100 : (m1095 11).toInt = ((m_798 11)).toInt := by rw [em1096]; exact ek1086
                    have B1101 : sf_B 1 600 (m1095 9) := by rw [em1096]; exact B1087
                    have B1102 : sf_B 1 600 (m1095 10) := by rw [em1096]; exact B1091
                    have ek1103 : (m1095 10).toInt = ((m_1082 10)).toInt := by rw [em1096]; rfl
                    have B1104 : sf_B 1 1 (m1095 12) := by rw [em1096]; exact sf_k1
                    have W1106 : rf_W [10, 11, 12, 13] m m1095 := by rw [em1096]; exact W1088.put (by decide)
                    refine pm_R_br pm_M16 (pc_q := 191) (pm_q16_1 (Nat.le_of_ble_eq_true rfl)) rfl ?_
                    exact pm_R_ret pm_M16 (r := none) (pm_q16_1 (Nat.le_of_ble_eq_true rfl)) rfl (K m1095 h1092 T1093 F1098 W1106)
                  · have B1107 : sf_B 0 599 (m_1082 10) := sf_ltL (Int32.not_le.mp c1090) B1089 B1087
                    refine pm_R_lo pm_M16 (pc_q := 101) rfl rfl rfl ?_
                    refine pm_R_get pm_M16 (pc_q := 104) (v := .ref 18) rfl rfl T_1082.e30 (by decide) (T_1082.lt (by decide)) rfl rfl ?_
                    refine pm_R_lo pm_M16 (pc_q := 105) rfl rfl rfl ?_
                    refine pm_R_get pm_M16 (pc_q := 108) (v := .int (m_1082 10)) rfl rfl T_1082.e30 (by decide) (T_1082.lt (by decide)) rfl rfl ?_
                    obtain ⟨f1111, e1112⟩ := T_1082.C 18 (by decide) (by decide)
                    obtain ⟨z1108, ez1109⟩ : ∃ y, f1111 (Int32.toNatClampNeg (m_1082 10)) = y := ⟨_, rfl⟩
                    refine pm_R_bald pm_M16 (pc_q := 109) (v := z1108) rfl e1112 (Or.inl rfl) (by decide) (T_1082.lt (by decide)) (sf_in B1107 (by decide) (by decide)) ez1109 rfl ?_
                    refine pm_R_cs pm_M16 (pc_q := 112) (ra := [.int z1108]) (rest := []) (ls_q := [.int z1108]) rfl rfl (Or.inl rfl) pm_M18 rfl rfl (Nat.le_of_ble_eq_true rfl) rfl rfl ?_
                    refine pm_R_lo pm_M18 (pc_q := 1) rfl rfl rfl ?_
                    refine pm_R_op pm_M18 (pc_q := 3) (st_q := [.int 97, .int z1108]) rfl rfl rfl ?_
                    refine pm_R_icmp pm_M18 (t := 16) (pc_q := 6) rfl rfl rfl (fun c1114 => ?_) (fun c1114 => ?_)
                    · have B1115 : sf_B (-2147483648) 96 z1108 := sf_ltL c1114 (sf_any z1108) sf_k97
                      refine pm_R_op pm_M18 (pc_q := 17) (st_q := [.int 0]) rfl rfl rfl ?_
                      refine pm_R_ret pm_M18 (r := some (.int 0)) rfl rfl ?_
                      show pm_R _ 16 112 [.ref 30] [.int 0] _ _
                      refine pm_R_br pm_M16 (pc_q := 128) (st_q := []) rfl rfl ?_
                      refine pm_R_lo pm_M16 (pc_q := 129) (pm_q16_1 (Nat.le_of_ble_eq_true rfl)) rfl rfl ?_
                      refine pm_R_op pm_M16 (pc_q := 130) (st_q := [.int 1, .ref 30]) (pm_q16_1 (Nat.le_of_ble_eq_true rfl)) rfl rfl ?_
                      refine cl_R_put30 G pm_M16 T_1082 (k := 12) (pc_q := 133) (pm_q16_1 (Nat.le_of_ble_eq_true rfl)) rfl rfl (by decide) rfl rfl (sf_weak sf_k1 (by decide) (by decide)) rfl rfl rfl rfl rfl (fun h1116 m1119 em1120 T1117 F1118 => ?_)
                      have F1121 := F1118.cl (ck := ck) T_1082.1
                      have F1122 := F_1082.trans (N := 0) (S := 0) F1121 (by decide) (by decide) (by decide)
                      have B1123 : sf_B 0 600 (m1119 11) := by rw [em1120]; exact B1085
                      have ek1124 : (m1119 11).toInt = ((m_798 11)).toInt := by rw [em1120]; exact ek1086
                      have B1125 : sf_B 1 600 (m1119 9) := by rw [em1120]; exact B1087
                      have B1126 : sf_B 0 599 (m1119 10) := by rw [em1120]; exact B1107
                      have ek1127 : (m1119 10).toInt = ((m_1082 10)).toInt := by rw [em1120]; rfl
                      have B1128 : sf_B 1 1 (m1119 12) := by rw [em1120]; exact sf_k1
                      have W1130 : rf_W [10, 11, 12, 13] m m1119 := by rw [em1120]; exact W1088.put (by decide)
                      refine pm_R_br pm_M16 (pc_q := 191) (pm_q16_1 (Nat.le_of_ble_eq_true rfl)) rfl ?_
                      exact pm_R_ret pm_M16 (r := none) (pm_q16_1 (Nat.le_of_ble_eq_true rfl)) rfl (K m1119 h1116 T1117 F1122 W1130)
                    · have B1131 : sf_B 97 2147483647 z1108 := sf_leR (Int32.not_lt.mp c1114) sf_k97 (sf_any z1108)
                      refine pm_R_lo pm_M18 (pc_q := 7) rfl rfl rfl ?_
                      refine pm_R_op pm_M18 (pc_q := 9) (st_q := [.int 122, .int z1108]) rfl rfl rfl ?_
                      refine pm_R_icmp pm_M18 (t := 16) (pc_q := 12) rfl rfl rfl (fun c1132 => ?_) (fun c1132 => ?_)
                      · have B1133 : sf_B 123 2147483647 z1108 := sf_ltR c1132 sf_k122 B1131
                        refine pm_R_op pm_M18 (pc_q := 17) (st_q := [.int 0]) rfl rfl rfl ?_
                        refine pm_R_ret pm_M18 (r := some (.int 0)) rfl rfl ?_
                        show pm_R _ 16 112 [.ref 30] [.int 0] _ _
                        refine pm_R_br pm_M16 (pc_q := 128) (st_q := []) rfl rfl ?_
                        refine pm_R_lo pm_M16 (pc_q := 129) (pm_q16_1 (Nat.le_of_ble_eq_true rfl)) rfl rfl ?_
                        refine pm_R_op pm_M16 (pc_q := 130) (st_q := [.int 1, .ref 30]) (pm_q16_1 (Nat.le_of_ble_eq_true rfl)) rfl rfl ?_
                        refine cl_R_put30 G pm_M16 T_1082 (k := 12) (pc_q := 133) (pm_q16_1 (Nat.le_of_ble_eq_true rfl)) rfl rfl (by decide) rfl rfl (sf_weak sf_k1 (by decide) (by decide)) rfl rfl rfl rfl rfl (fun h1134 m1137 em1138 T1135 F1136 => ?_)
                        have F1139 := F1136.cl (ck := ck) T_1082.1
                        have F1140 := F_1082.trans (N := 0) (S := 0) F1139 (by decide) (by decide) (by decide)
                        have B1141 : sf_B 0 600 (m1137 11) := by rw [em1138]; exact B1085
                        have ek1142 : (m1137 11).toInt = ((m_798 11)).toInt := by rw [em1138]; exact ek1086
                        have B1143 : sf_B 1 600 (m1137 9) := by rw [em1138]; exact B1087
                        have B1144 : sf_B 0 599 (m1137 10) := by rw [em1138]; exact B1107
                        have ek1145 : (m1137 10).toInt = ((m_1082 10)).toInt := by rw [em1138]; rfl
                        have B1146 : sf_B 1 1 (m1137 12) := by rw [em1138]; exact sf_k1
                        have W1148 : rf_W [10, 11, 12, 13] m m1137 := by rw [em1138]; exact W1088.put (by decide)
                        refine pm_R_br pm_M16 (pc_q := 191) (pm_q16_1 (Nat.le_of_ble_eq_true rfl)) rfl ?_
                        exact pm_R_ret pm_M16 (r := none) (pm_q16_1 (Nat.le_of_ble_eq_true rfl)) rfl (K m1137 h1134 T1135 F1140 W1148)
                      · have B1149 : sf_B 97 122 z1108 := sf_leL (Int32.not_lt.mp c1132) B1131 sf_k122
                        refine pm_R_op pm_M18 (pc_q := 13) (st_q := [.int 1]) rfl rfl rfl ?_
                        refine pm_R_br pm_M18 (pc_q := 17) rfl rfl ?_
                        refine pm_R_ret pm_M18 (r := some (.int 1)) rfl rfl ?_
                        show pm_R _ 16 112 [.ref 30] [.int 1] _ _
                        refine pm_R_br pm_M16 (pc_q := 115) (st_q := []) rfl rfl ?_
                        refine pm_R_lo pm_M16 (pc_q := 116) rfl rfl rfl ?_
                        refine pm_R_op pm_M16 (pc_q := 117) (st_q := [.ref 30, .ref 30]) rfl rfl rfl ?_
                        refine pm_R_get pm_M16 (pc_q := 120) (v := .int (m_1082 10)) rfl rfl T_1082.e30 (by decide) (T_1082.lt (by decide)) rfl rfl ?_
                        refine pm_R_op pm_M16 (pc_q := 121) (st_q := [.int 1, .int (m_1082 10), .ref 30]) rfl rfl rfl ?_
                        refine sf_R_iadd pm_M16 (pc_q := 122) rfl rfl B1107 sf_k1 (by decide) (by decide) (fun z1150 e1151 B1152 => ?_)
                        refine cl_R_put30 G pm_M16 T_1082 (k := 10) (pc_q := 125) (pm_q16_1 (Nat.le_of_ble_eq_true rfl)) rfl rfl (by decide) rfl rfl (sf_weak B1152 (by decide) (by decide)) rfl rfl rfl rfl rfl (fun h1153 m1156 em1157 T1154 F1155 => ?_)
                        have F1158 := F1155.cl (ck := ck) T_1082.1
                        have F1159 := F_1082.trans (N := 0) (S := 0) F1158 (by decide) (by decide) (by decide)
                        have B1160 : sf_B 0 600 (m1156 11) := by rw [em1157]; exact B1085
                        have ek1161 : (m1156 11).toInt = ((m_798 11)).toInt := by rw [em1157]; exact ek1086
                        have B1162 : sf_B 1 600 (m1156 9) := by rw [em1157]; exact B1087
                        have B1163 : sf_B 1 600 (m1156 10) := by rw [em1157]; exact B1152
                        have ek1164 : (m1156 10).toInt = (z1150).toInt := by rw [em1157]; rfl
                        have W1165 : rf_W [10, 11, 12, 13] m m1156 := by rw [em1157]; exact W1088.put (by decide)
                        have W1166 : rf_W [10] m810 m1156 := by rw [em1157]; exact W_1082.put (by decide)
                        refine pm_R_br pm_M16 (pc_q := 89) (pm_q16_1 (Nat.le_of_ble_eq_true rfl)) rfl ?_
                        exact ih_1082 _ (sf_up hN_1082 (cl_aux25 _ _ _ e1151 ek1164) B1107 (by decide) (by decide)) h1153 m1156  T1154 F1159 W1166  trivial rfl
              exact L_1082 _ h807 m810  T808 F813 (rf_W.refl _ _)  trivial rfl
        · skip
          refine pm_R_lo pm_M16 (pc_q := 67) rfl rfl rfl ?_
          refine pm_R_op pm_M16 (pc_q := 68) (st_q := [.int 0, .ref 30]) rfl rfl rfl ?_
          refine cl_R_put30 G pm_M16 T808 (k := 12) (pc_q := 71) rfl rfl rfl (by decide) rfl rfl (sf_weak sf_k0 (by decide) (by decide)) rfl rfl rfl rfl rfl (fun h1167 m1170 em1171 T1168 F1169 => ?_)
          have F1172 := F1169.cl (ck := ck) T808.1
          have F1173 := F813.trans (N := 0) (S := 0) F1172 (by decide) (by decide) (by decide)
          have B1174 : sf_B 0 600 (m1170 11) := by rw [em1171]; exact B814
          have ek1175 : (m1170 11).toInt = ((m_798 11)).toInt := by rw [em1171]; exact ek815
          have B1176 : sf_B 0 600 (m1170 10) := by rw [em1171]; exact B816
          have ek1177 : (m1170 10).toInt = ((m_798 11)).toInt := by rw [em1171]; exact ek817
          have B1178 : sf_B 0 0 (m1170 12) := by rw [em1171]; exact sf_k0
          have W1180 : rf_W [10, 11, 12, 13] m m1170 := by rw [em1171]; exact W818.put (by decide)
          refine pm_R_br pm_M16 (pc_q := 191) rfl rfl ?_
          exact pm_R_ret pm_M16 (r := none) (pm_q16_1 (Nat.le_of_ble_eq_true rfl)) rfl (K m1170 h1167 T1168 F1173 W1180)
      · have B1181 : sf_B 0 599 (m_798 11) := sf_ltL (Int32.not_le.mp c806) B804 B805
        have B1182 : sf_B 1 600 (m_798 9) := sf_ltR (Int32.not_le.mp c806) B804 B805
        refine pm_R_lo pm_M16 (pc_q := 20) rfl rfl rfl ?_
        refine pm_R_get pm_M16 (pc_q := 23) (v := .ref 18) rfl rfl T_798.e30 (by decide) (T_798.lt (by decide)) rfl rfl ?_
        refine pm_R_lo pm_M16 (pc_q := 24) rfl rfl rfl ?_
        refine pm_R_get pm_M16 (pc_q := 27) (v := .int (m_798 11)) rfl rfl T_798.e30 (by decide) (T_798.lt (by decide)) rfl rfl ?_
        obtain ⟨f1186, e1187⟩ := T_798.C 18 (by decide) (by decide)
        obtain ⟨z1183, ez1184⟩ : ∃ y, f1186 (Int32.toNatClampNeg (m_798 11)) = y := ⟨_, rfl⟩
        refine pm_R_bald pm_M16 (pc_q := 28) (v := z1183) rfl e1187 (Or.inl rfl) (by decide) (T_798.lt (by decide)) (sf_in B1181 (by decide) (by decide)) ez1184 rfl ?_
        refine pm_R_cs pm_M16 (pc_q := 31) (ra := [.int z1183]) (rest := []) (ls_q := [.int z1183]) rfl rfl (Or.inl rfl) pm_M17 rfl rfl (Nat.le_of_ble_eq_true rfl) rfl rfl ?_
        refine pm_R_lo pm_M17 (pc_q := 1) rfl rfl rfl ?_
        refine pm_R_op pm_M17 (pc_q := 3) (st_q := [.int 10, .int z1183]) rfl rfl rfl ?_
        refine pm_R_icmp pm_M17 (t := 12) (pc_q := 6) rfl rfl rfl (fun c1189 => ?_) (fun c1189 => ?_)
        · have B1190 : sf_B 10 10 z1183 := sf_eqL c1189 sf_k10
          refine pm_R_op pm_M17 (pc_q := 13) (st_q := [.int 1]) rfl rfl rfl ?_
          refine pm_R_br pm_M17 (pc_q := 17) rfl rfl ?_
          refine pm_R_ret pm_M17 (r := some (.int 1)) rfl rfl ?_
          show pm_R _ 16 31 [.ref 30] [.int 1] _ _
          refine pm_R_br pm_M16 (pc_q := 34) (st_q := []) rfl rfl ?_
          refine pm_R_lo pm_M16 (pc_q := 35) rfl rfl rfl ?_
          refine pm_R_op pm_M16 (pc_q := 36) (st_q := [.ref 30, .ref 30]) rfl rfl rfl ?_
          refine pm_R_get pm_M16 (pc_q := 39) (v := .int (m_798 11)) rfl rfl T_798.e30 (by decide) (T_798.lt (by decide)) rfl rfl ?_
          refine pm_R_op pm_M16 (pc_q := 40) (st_q := [.int 1, .int (m_798 11), .ref 30]) rfl rfl rfl ?_
          refine sf_R_iadd pm_M16 (pc_q := 41) rfl rfl B1181 sf_k1 (by decide) (by decide) (fun z1191 e1192 B1193 => ?_)
          refine cl_R_put30 G pm_M16 T_798 (k := 11) (pc_q := 44) rfl rfl rfl (by decide) rfl rfl (sf_weak B1193 (by decide) (by decide)) rfl rfl rfl rfl rfl (fun h1194 m1197 em1198 T1195 F1196 => ?_)
          have F1199 := F1196.cl (ck := ck) T_798.1
          have F1200 := F_798.trans (N := 0) (S := 0) F1199 (by decide) (by decide) (by decide)
          have B1201 : sf_B 0 600 (m1197 10) := by rw [em1198]; exact B801
          have ek1202 : (m1197 10).toInt = ((m 10)).toInt := by rw [em1198]; exact ek802
          have B1203 : sf_B 1 600 (m1197 9) := by rw [em1198]; exact B1182
          have B1204 : sf_B 1 600 (m1197 11) := by rw [em1198]; exact B1193
          have ek1205 : (m1197 11).toInt = (z1191).toInt := by rw [em1198]; rfl
          have W1206 : rf_W [10, 11, 12, 13] m m1197 := by rw [em1198]; exact W803.put (by decide)
          have W1207 : rf_W [11] m5 m1197 := by rw [em1198]; exact W_798.put (by decide)
          refine pm_R_br pm_M16 (pc_q := 8) rfl rfl ?_
          exact ih_798 _ (sf_up hN_798 (cl_aux25 _ _ _ e1192 ek1205) B1181 (by decide) (by decide)) h1194 m1197  T1195 F1200 W1207  trivial rfl
        · skip
          refine pm_R_lo pm_M17 (pc_q := 7) rfl rfl rfl ?_
          refine pm_R_op pm_M17 (pc_q := 9) (st_q := [.int 32, .int z1183]) rfl rfl rfl ?_
          refine pm_R_icmp pm_M17 (t := 16) (pc_q := 12) rfl rfl rfl (fun c1208 => ?_) (fun c1208 => ?_)
          · skip
            refine pm_R_op pm_M17 (pc_q := 17) (st_q := [.int 0]) rfl rfl rfl ?_
            refine pm_R_ret pm_M17 (r := some (.int 0)) rfl rfl ?_
            show pm_R _ 16 31 [.ref 30] [.int 0] _ _
            refine pm_R_br pm_M16 (pc_q := 47) (st_q := []) rfl rfl ?_
            refine pm_R_lo pm_M16 (pc_q := 48) rfl rfl rfl ?_
            refine pm_R_lo pm_M16 (pc_q := 49) rfl rfl rfl ?_
            refine pm_R_get pm_M16 (pc_q := 52) (v := .int (m_798 11)) rfl rfl T_798.e30 (by decide) (T_798.lt (by decide)) rfl rfl ?_
            refine cl_R_put30 G pm_M16 T_798 (k := 10) (pc_q := 55) rfl rfl rfl (by decide) rfl rfl (sf_weak B1181 (by decide) (by decide)) rfl rfl rfl rfl rfl (fun h1209 m1212 em1213 T1210 F1211 => ?_)
            have F1214 := F1211.cl (ck := ck) T_798.1
            have F1215 := F_798.trans (N := 0) (S := 0) F1214 (by decide) (by decide) (by decide)
            have B1216 : sf_B 0 599 (m1212 11) := by rw [em1213]; exact B1181
            have ek1217 : (m1212 11).toInt = ((m_798 11)).toInt := by rw [em1213]; rfl
            have B1218 : sf_B 1 600 (m1212 9) := by rw [em1213]; exact B1182
            have B1219 : sf_B 0 599 (m1212 10) := by rw [em1213]; exact B1181
            have ek1220 : (m1212 10).toInt = ((m_798 11)).toInt := by rw [em1213]; rfl
            have W1221 : rf_W [10, 11, 12, 13] m m1212 := by rw [em1213]; exact W803.put (by decide)
            refine pm_R_lo pm_M16 (pc_q := 56) rfl rfl rfl ?_
            refine pm_R_get pm_M16 (pc_q := 59) (v := .int (m_798 11)) rfl rfl T1210.e30 (by decide) (T1210.lt (by decide)) (congrArg (fun z => some (Value.int z)) (Int32.toInt_inj.mp (cl_aux3 _ _ ek1217))) rfl ?_
            refine pm_R_lo pm_M16 (pc_q := 60) rfl rfl rfl ?_
            refine pm_R_get pm_M16 (pc_q := 63) (v := .int (m1212 9)) rfl rfl T1210.e30 (by decide) (T1210.lt (by decide)) rfl rfl ?_
            refine pm_R_icmp pm_M16 (t := 74) (pc_q := 66) rfl rfl rfl (fun c1222 => ?_) (fun c1222 => ?_)
            · skip
              refine pm_R_lo pm_M16 (pc_q := 75) rfl rfl rfl ?_
              refine pm_R_get pm_M16 (pc_q := 78) (v := .ref 18) rfl rfl T1210.e30 (by decide) (T1210.lt (by decide)) rfl rfl ?_
              refine pm_R_lo pm_M16 (pc_q := 79) rfl rfl rfl ?_
              refine pm_R_get pm_M16 (pc_q := 82) (v := .int (m_798 11)) rfl rfl T1210.e30 (by decide) (T1210.lt (by decide)) (congrArg (fun z => some (Value.int z)) (Int32.toInt_inj.mp (cl_aux3 _ _ ek1217))) rfl ?_
              have e1226 := (F1214.cell G (by decide) (by decide) e1187)
              refine pm_R_bald pm_M16 (pc_q := 83) (v := z1183) rfl e1226 (Or.inl rfl) (by decide) (T1210.lt (by decide)) (sf_in B1181 (by decide) (by decide)) ez1184 rfl ?_
              refine pm_R_cs pm_M16 (pc_q := 86) (ra := [.int z1183]) (rest := []) (ls_q := [.int z1183]) rfl rfl (Or.inl rfl) pm_M18 rfl rfl (Nat.le_of_ble_eq_true rfl) rfl rfl ?_
              refine pm_R_lo pm_M18 (pc_q := 1) rfl rfl rfl ?_
              refine pm_R_op pm_M18 (pc_q := 3) (st_q := [.int 97, .int z1183]) rfl rfl rfl ?_
              refine pm_R_icmp pm_M18 (t := 16) (pc_q := 6) rfl rfl rfl (fun c1227 => ?_) (fun c1227 => ?_)
              · have B1228 : sf_B (-2147483648) 96 z1183 := sf_ltL c1227 (sf_any z1183) sf_k97
                refine pm_R_op pm_M18 (pc_q := 17) (st_q := [.int 0]) rfl rfl rfl ?_
                refine pm_R_ret pm_M18 (r := some (.int 0)) rfl rfl ?_
                show pm_R _ 16 86 [.ref 30] [.int 0] _ _
                refine pm_R_br pm_M16 (pc_q := 136) (st_q := []) rfl rfl ?_
                refine pm_R_lo pm_M16 (pc_q := 137) (pm_q16_1 (Nat.le_of_ble_eq_true rfl)) rfl rfl ?_
                refine pm_R_get pm_M16 (pc_q := 140) (v := .ref 18) (pm_q16_1 (Nat.le_of_ble_eq_true rfl)) rfl T1210.e30 (by decide) (T1210.lt (by decide)) rfl rfl ?_
                refine pm_R_lo pm_M16 (pc_q := 141) (pm_q16_1 (Nat.le_of_ble_eq_true rfl)) rfl rfl ?_
                refine pm_R_get pm_M16 (pc_q := 144) (v := .int (m_798 11)) (pm_q16_1 (Nat.le_of_ble_eq_true rfl)) rfl T1210.e30 (by decide) (T1210.lt (by decide)) (congrArg (fun z => some (Value.int z)) (Int32.toInt_inj.mp (cl_aux3 _ _ ek1217))) rfl ?_
                refine pm_R_bald pm_M16 (pc_q := 145) (v := z1183) (pm_q16_1 (Nat.le_of_ble_eq_true rfl)) e1226 (Or.inl rfl) (by decide) (T1210.lt (by decide)) (sf_in B1181 (by decide) (by decide)) ez1184 rfl ?_
                refine pm_R_cs pm_M16 (pc_q := 148) (ra := [.int z1183]) (rest := []) (ls_q := [.int z1183]) (pm_q16_1 (Nat.le_of_ble_eq_true rfl)) rfl (Or.inl rfl) pm_M19 rfl rfl (Nat.le_of_ble_eq_true rfl) rfl rfl ?_
                refine pm_R_lo pm_M19 (pc_q := 1) rfl rfl rfl ?_
                refine pm_R_op pm_M19 (pc_q := 3) (st_q := [.int 48, .int z1183]) rfl rfl rfl ?_
                refine pm_R_icmp pm_M19 (t := 16) (pc_q := 6) rfl rfl rfl (fun c1232 => ?_) (fun c1232 => ?_)
                · have B1233 : sf_B (-2147483648) 47 z1183 := sf_ltL c1232 B1228 sf_k48
                  refine pm_R_op pm_M19 (pc_q := 17) (st_q := [.int 0]) rfl rfl rfl ?_
                  refine pm_R_ret pm_M19 (r := some (.int 0)) rfl rfl ?_
                  show pm_R _ 16 148 [.ref 30] [.int 0] _ _
                  refine pm_R_br pm_M16 (pc_q := 158) (st_q := []) (pm_q16_1 (Nat.le_of_ble_eq_true rfl)) rfl ?_
                  refine pm_R_lo pm_M16 (pc_q := 159) (pm_q16_1 (Nat.le_of_ble_eq_true rfl)) rfl rfl ?_
                  refine pm_R_lo pm_M16 (pc_q := 160) (pm_q16_1 (Nat.le_of_ble_eq_true rfl)) rfl rfl ?_
                  refine pm_R_get pm_M16 (pc_q := 163) (v := .ref 18) (pm_q16_1 (Nat.le_of_ble_eq_true rfl)) rfl T1210.e30 (by decide) (T1210.lt (by decide)) rfl rfl ?_
                  refine pm_R_lo pm_M16 (pc_q := 164) (pm_q16_1 (Nat.le_of_ble_eq_true rfl)) rfl rfl ?_
                  refine pm_R_get pm_M16 (pc_q := 167) (v := .int (m_798 11)) (pm_q16_1 (Nat.le_of_ble_eq_true rfl)) rfl T1210.e30 (by decide) (T1210.lt (by decide)) (congrArg (fun z => some (Value.int z)) (Int32.toInt_inj.mp (cl_aux3 _ _ ek1217))) rfl ?_
                  refine pm_R_bald pm_M16 (pc_q := 168) (v := z1183) (pm_q16_1 (Nat.le_of_ble_eq_true rfl)) e1226 (Or.inl rfl) (by decide) (T1210.lt (by decide)) (sf_in B1181 (by decide) (by decide)) ez1184 rfl ?_
                  refine pm_R_op pm_M16 (pc_q := 170) (st_q := [.int 59, .int z1183, .ref 30]) (pm_q16_1 (Nat.le_of_ble_eq_true rfl)) rfl rfl ?_
                  refine pm_R_icmp pm_M16 (t := 177) (pc_q := 173) (pm_q16_1 (Nat.le_of_ble_eq_true rfl)) rfl rfl (fun c1237 => ?_) (fun c1237 => absurd (Classical.not_not.mp c1237) (sf_neq2 B1233 sf_k59 (by decide)))
                  skip
                  refine pm_R_op pm_M16 (pc_q := 178) (st_q := [.int 4, .ref 30]) (pm_q16_1 (Nat.le_of_ble_eq_true rfl)) rfl rfl ?_
                  refine cl_R_put30 G pm_M16 T1210 (k := 12) (pc_q := 181) (pm_q16_1 (Nat.le_of_ble_eq_true rfl)) rfl rfl (by decide) rfl rfl (sf_weak sf_k4 (by decide) (by decide)) rfl rfl rfl rfl rfl (fun h1238 m1241 em1242 T1239 F1240 => ?_)
                  have F1243 := F1240.cl (ck := ck) T1210.1
                  have F1244 := F1215.trans (N := 0) (S := 0) F1243 (by decide) (by decide) (by decide)
                  have B1245 : sf_B 0 599 (m1241 11) := by rw [em1242]; exact B1216
                  have ek1246 : (m1241 11).toInt = ((m_798 11)).toInt := by rw [em1242]; exact ek1217
                  have B1247 : sf_B 1 600 (m1241 9) := by rw [em1242]; exact B1218
                  have B1248 : sf_B 0 599 (m1241 10) := by rw [em1242]; exact B1219
                  have ek1249 : (m1241 10).toInt = ((m_798 11)).toInt := by rw [em1242]; exact ek1220
                  have B1250 : sf_B 4 4 (m1241 12) := by rw [em1242]; exact sf_k4
                  have W1252 : rf_W [10, 11, 12, 13] m m1241 := by rw [em1242]; exact W1221.put (by decide)
                  refine pm_R_lo pm_M16 (pc_q := 182) (pm_q16_1 (Nat.le_of_ble_eq_true rfl)) rfl rfl ?_
                  refine pm_R_op pm_M16 (pc_q := 183) (st_q := [.ref 30, .ref 30]) (pm_q16_1 (Nat.le_of_ble_eq_true rfl)) rfl rfl ?_
                  refine pm_R_get pm_M16 (pc_q := 186) (v := .int (m_798 11)) (pm_q16_1 (Nat.le_of_ble_eq_true rfl)) rfl T1239.e30 (by decide) (T1239.lt (by decide)) (congrArg (fun z => some (Value.int z)) (Int32.toInt_inj.mp (cl_aux3 _ _ ek1249))) rfl ?_
                  refine pm_R_op pm_M16 (pc_q := 187) (st_q := [.int 1, .int (m_798 11), .ref 30]) (pm_q16_1 (Nat.le_of_ble_eq_true rfl)) rfl rfl ?_
                  refine sf_R_iadd pm_M16 (pc_q := 188) (pm_q16_1 (Nat.le_of_ble_eq_true rfl)) rfl B1181 sf_k1 (by decide) (by decide) (fun z1253 e1254 B1255 => ?_)
                  refine cl_R_put30 G pm_M16 T1239 (k := 10) (pc_q := 191) (pm_q16_1 (Nat.le_of_ble_eq_true rfl)) rfl rfl (by decide) rfl rfl (sf_weak B1255 (by decide) (by decide)) rfl rfl rfl rfl rfl (fun h1256 m1259 em1260 T1257 F1258 => ?_)
                  have F1261 := F1258.cl (ck := ck) T1239.1
                  have F1262 := F1244.trans (N := 0) (S := 0) F1261 (by decide) (by decide) (by decide)
                  have B1263 : sf_B 0 599 (m1259 11) := by rw [em1260]; exact B1245
                  have ek1264 : (m1259 11).toInt = ((m_798 11)).toInt := by rw [em1260]; exact ek1246
                  have B1265 : sf_B 1 600 (m1259 9) := by rw [em1260]; exact B1247
                  have B1266 : sf_B 4 4 (m1259 12) := by rw [em1260]; exact B1250
                  have B1267 : sf_B 1 600 (m1259 10) := by rw [em1260]; exact B1255
                  have ek1268 : (m1259 10).toInt = (z1253).toInt := by rw [em1260]; rfl
                  have W1269 : rf_W [10, 11, 12, 13] m m1259 := by rw [em1260]; exact W1252.put (by decide)
                  exact pm_R_ret pm_M16 (r := none) (pm_q16_1 (Nat.le_of_ble_eq_true rfl)) rfl (K m1259 h1256 T1257 F1262 W1269)
                · have B1270 : sf_B 48 96 z1183 := sf_leR (Int32.not_lt.mp c1232) sf_k48 B1228
                  refine pm_R_lo pm_M19 (pc_q := 7) rfl rfl rfl ?_
                  refine pm_R_op pm_M19 (pc_q := 9) (st_q := [.int 57, .int z1183]) rfl rfl rfl ?_
                  refine pm_R_icmp pm_M19 (t := 16) (pc_q := 12) rfl rfl rfl (fun c1271 => ?_) (fun c1271 => ?_)
                  · have B1272 : sf_B 58 96 z1183 := sf_ltR c1271 sf_k57 B1270
                    refine pm_R_op pm_M19 (pc_q := 17) (st_q := [.int 0]) rfl rfl rfl ?_
                    refine pm_R_ret pm_M19 (r := some (.int 0)) rfl rfl ?_
                    show pm_R _ 16 148 [.ref 30] [.int 0] _ _
                    refine pm_R_br pm_M16 (pc_q := 158) (st_q := []) (pm_q16_1 (Nat.le_of_ble_eq_true rfl)) rfl ?_
                    refine pm_R_lo pm_M16 (pc_q := 159) (pm_q16_1 (Nat.le_of_ble_eq_true rfl)) rfl rfl ?_
                    refine pm_R_lo pm_M16 (pc_q := 160) (pm_q16_1 (Nat.le_of_ble_eq_true rfl)) rfl rfl ?_
                    refine pm_R_get pm_M16 (pc_q := 163) (v := .ref 18) (pm_q16_1 (Nat.le_of_ble_eq_true rfl)) rfl T1210.e30 (by decide) (T1210.lt (by decide)) rfl rfl ?_
                    refine pm_R_lo pm_M16 (pc_q := 164) (pm_q16_1 (Nat.le_of_ble_eq_true rfl)) rfl rfl ?_
                    refine pm_R_get pm_M16 (pc_q := 167) (v := .int (m_798 11)) (pm_q16_1 (Nat.le_of_ble_eq_true rfl)) rfl T1210.e30 (by decide) (T1210.lt (by decide)) (congrArg (fun z => some (Value.int z)) (Int32.toInt_inj.mp (cl_aux3 _ _ ek1217))) rfl ?_
                    refine pm_R_bald pm_M16 (pc_q := 168) (v := z1183) (pm_q16_1 (Nat.le_of_ble_eq_true rfl)) e1226 (Or.inl rfl) (by decide) (T1210.lt (by decide)) (sf_in B1181 (by decide) (by decide)) ez1184 rfl ?_
                    refine pm_R_op pm_M16 (pc_q := 170) (st_q := [.int 59, .int z1183, .ref 30]) (pm_q16_1 (Nat.le_of_ble_eq_true rfl)) rfl rfl ?_
                    refine pm_R_icmp pm_M16 (t := 177) (pc_q := 173) (pm_q16_1 (Nat.le_of_ble_eq_true rfl)) rfl rfl (fun c1276 => ?_) (fun c1276 => ?_)
                    · skip
                      refine pm_R_op pm_M16 (pc_q := 178) (st_q := [.int 4, .ref 30]) (pm_q16_1 (Nat.le_of_ble_eq_true rfl)) rfl rfl ?_
                      refine cl_R_put30 G pm_M16 T1210 (k := 12) (pc_q := 181) (pm_q16_1 (Nat.le_of_ble_eq_true rfl)) rfl rfl (by decide) rfl rfl (sf_weak sf_k4 (by decide) (by decide)) rfl rfl rfl rfl rfl (fun h1277 m1280 em1281 T1278 F1279 => ?_)
                      have F1282 := F1279.cl (ck := ck) T1210.1
                      have F1283 := F1215.trans (N := 0) (S := 0) F1282 (by decide) (by decide) (by decide)
                      have B1284 : sf_B 0 599 (m1280 11) := by rw [em1281]; exact B1216
                      have ek1285 : (m1280 11).toInt = ((m_798 11)).toInt := by rw [em1281]; exact ek1217
                      have B1286 : sf_B 1 600 (m1280 9) := by rw [em1281]; exact B1218
                      have B1287 : sf_B 0 599 (m1280 10) := by rw [em1281]; exact B1219
                      have ek1288 : (m1280 10).toInt = ((m_798 11)).toInt := by rw [em1281]; exact ek1220
                      have B1289 : sf_B 4 4 (m1280 12) := by rw [em1281]; exact sf_k4
                      have W1291 : rf_W [10, 11, 12, 13] m m1280 := by rw [em1281]; exact W1221.put (by decide)
                      refine pm_R_lo pm_M16 (pc_q := 182) (pm_q16_1 (Nat.le_of_ble_eq_true rfl)) rfl rfl ?_
                      refine pm_R_op pm_M16 (pc_q := 183) (st_q := [.ref 30, .ref 30]) (pm_q16_1 (Nat.le_of_ble_eq_true rfl)) rfl rfl ?_
                      refine pm_R_get pm_M16 (pc_q := 186) (v := .int (m_798 11)) (pm_q16_1 (Nat.le_of_ble_eq_true rfl)) rfl T1278.e30 (by decide) (T1278.lt (by decide)) (congrArg (fun z => some (Value.int z)) (Int32.toInt_inj.mp (cl_aux3 _ _ ek1288))) rfl ?_
                      refine pm_R_op pm_M16 (pc_q := 187) (st_q := [.int 1, .int (m_798 11), .ref 30]) (pm_q16_1 (Nat.le_of_ble_eq_true rfl)) rfl rfl ?_
                      refine sf_R_iadd pm_M16 (pc_q := 188) (pm_q16_1 (Nat.le_of_ble_eq_true rfl)) rfl B1181 sf_k1 (by decide) (by decide) (fun z1292 e1293 B1294 => ?_)
                      refine cl_R_put30 G pm_M16 T1278 (k := 10) (pc_q := 191) (pm_q16_1 (Nat.le_of_ble_eq_true rfl)) rfl rfl (by decide) rfl rfl (sf_weak B1294 (by decide) (by decide)) rfl rfl rfl rfl rfl (fun h1295 m1298 em1299 T1296 F1297 => ?_)
                      have F1300 := F1297.cl (ck := ck) T1278.1
                      have F1301 := F1283.trans (N := 0) (S := 0) F1300 (by decide) (by decide) (by decide)
                      have B1302 : sf_B 0 599 (m1298 11) := by rw [em1299]; exact B1284
                      have ek1303 : (m1298 11).toInt = ((m_798 11)).toInt := by rw [em1299]; exact ek1285
                      have B1304 : sf_B 1 600 (m1298 9) := by rw [em1299]; exact B1286
                      have B1305 : sf_B 4 4 (m1298 12) := by rw [em1299]; exact B1289
                      have B1306 : sf_B 1 600 (m1298 10) := by rw [em1299]; exact B1294
                      have ek1307 : (m1298 10).toInt = (z1292).toInt := by rw [em1299]; rfl
                      have W1308 : rf_W [10, 11, 12, 13] m m1298 := by rw [em1299]; exact W1291.put (by decide)
                      exact pm_R_ret pm_M16 (r := none) (pm_q16_1 (Nat.le_of_ble_eq_true rfl)) rfl (K m1298 h1295 T1296 F1301 W1308)
                    · have B1309 : sf_B 59 59 z1183 := sf_eqL (Classical.not_not.mp c1276) sf_k59
                      refine pm_R_op pm_M16 (pc_q := 174) (st_q := [.int 3, .ref 30]) (pm_q16_1 (Nat.le_of_ble_eq_true rfl)) rfl rfl ?_
                      refine pm_R_br pm_M16 (pc_q := 178) (pm_q16_1 (Nat.le_of_ble_eq_true rfl)) rfl ?_
                      refine cl_R_put30 G pm_M16 T1210 (k := 12) (pc_q := 181) (pm_q16_1 (Nat.le_of_ble_eq_true rfl)) rfl rfl (by decide) rfl rfl (sf_weak sf_k3 (by decide) (by decide)) rfl rfl rfl rfl rfl (fun h1310 m1313 em1314 T1311 F1312 => ?_)
                      have F1315 := F1312.cl (ck := ck) T1210.1
                      have F1316 := F1215.trans (N := 0) (S := 0) F1315 (by decide) (by decide) (by decide)
                      have B1317 : sf_B 0 599 (m1313 11) := by rw [em1314]; exact B1216
                      have ek1318 : (m1313 11).toInt = ((m_798 11)).toInt := by rw [em1314]; exact ek1217
                      have B1319 : sf_B 1 600 (m1313 9) := by rw [em1314]; exact B1218
                      have B1320 : sf_B 0 599 (m1313 10) := by rw [em1314]; exact B1219
                      have ek1321 : (m1313 10).toInt = ((m_798 11)).toInt := by rw [em1314]; exact ek1220
                      have B1322 : sf_B 3 3 (m1313 12) := by rw [em1314]; exact sf_k3
                      have W1324 : rf_W [10, 11, 12, 13] m m1313 := by rw [em1314]; exact W1221.put (by decide)
                      refine pm_R_lo pm_M16 (pc_q := 182) (pm_q16_1 (Nat.le_of_ble_eq_true rfl)) rfl rfl ?_
                      refine pm_R_op pm_M16 (pc_q := 183) (st_q := [.ref 30, .ref 30]) (pm_q16_1 (Nat.le_of_ble_eq_true rfl)) rfl rfl ?_
                      refine pm_R_get pm_M16 (pc_q := 186) (v := .int (m_798 11)) (pm_q16_1 (Nat.le_of_ble_eq_true rfl)) rfl T1311.e30 (by decide) (T1311.lt (by decide)) (congrArg (fun z => some (Value.int z)) (Int32.toInt_inj.mp (cl_aux3 _ _ ek1321))) rfl ?_
                      refine pm_R_op pm_M16 (pc_q := 187) (st_q := [.int 1, .int (m_798 11), .ref 30]) (pm_q16_1 (Nat.le_of_ble_eq_true rfl)) rfl rfl ?_
                      refine sf_R_iadd pm_M16 (pc_q := 188) (pm_q16_1 (Nat.le_of_ble_eq_true rfl)) rfl B1181 sf_k1 (by decide) (by decide) (fun z1325 e1326 B1327 => ?_)
                      refine cl_R_put30 G pm_M16 T1311 (k := 10) (pc_q := 191) (pm_q16_1 (Nat.le_of_ble_eq_true rfl)) rfl rfl (by decide) rfl rfl (sf_weak B1327 (by decide) (by decide)) rfl rfl rfl rfl rfl (fun h1328 m1331 em1332 T1329 F1330 => ?_)
                      have F1333 := F1330.cl (ck := ck) T1311.1
                      have F1334 := F1316.trans (N := 0) (S := 0) F1333 (by decide) (by decide) (by decide)
                      have B1335 : sf_B 0 599 (m1331 11) := by rw [em1332]; exact B1317
                      have ek1336 : (m1331 11).toInt = ((m_798 11)).toInt := by rw [em1332]; exact ek1318
                      have B1337 : sf_B 1 600 (m1331 9) := by rw [em1332]; exact B1319
                      have B1338 : sf_B 3 3 (m1331 12) := by rw [em1332]; exact B1322
                      have B1339 : sf_B 1 600 (m1331 10) := by rw [em1332]; exact B1327
                      have ek1340 : (m1331 10).toInt = (z1325).toInt := by rw [em1332]; rfl
                      have W1341 : rf_W [10, 11, 12, 13] m m1331 := by rw [em1332]; exact W1324.put (by decide)
                      exact pm_R_ret pm_M16 (r := none) (pm_q16_1 (Nat.le_of_ble_eq_true rfl)) rfl (K m1331 h1328 T1329 F1334 W1341)
                  · have B1342 : sf_B 48 57 z1183 := sf_leL (Int32.not_lt.mp c1271) B1270 sf_k57
                    refine pm_R_op pm_M19 (pc_q := 13) (st_q := [.int 1]) rfl rfl rfl ?_
                    refine pm_R_br pm_M19 (pc_q := 17) rfl rfl ?_
                    refine pm_R_ret pm_M19 (r := some (.int 1)) rfl rfl ?_
                    show pm_R _ 16 148 [.ref 30] [.int 1] _ _
                    refine pm_R_br pm_M16 (pc_q := 151) (st_q := []) (pm_q16_1 (Nat.le_of_ble_eq_true rfl)) rfl ?_
                    refine pm_R_lo pm_M16 (pc_q := 152) (pm_q16_1 (Nat.le_of_ble_eq_true rfl)) rfl rfl ?_
                    refine pm_R_cv pm_M16 (pc_q := 155) (a := 30) (ra := []) (rest := []) (ls_q := [.ref 30]) (pm_q16_1 (Nat.le_of_ble_eq_true rfl)) rfl (Or.inl rfl) pm_M20 T1210.e30 rfl (by decide) (T1210.lt (by decide)) rfl rfl (Nat.le_of_ble_eq_true rfl) rfl rfl ?_
                    refine cl_c20 (d := d + 0) G T1210 (cl_aux29 _ _ _ ek1220 ek1217) (fun m1345 h1346 T1347 F1348 W1349 => ?_)
                    have F1350 := F1215.trans (N := 0) (S := 0) F1348 (by decide) (by decide) (by decide)
                    have B1351 : sf_B 0 599 (m1345 11) := by rw [W1349 11 (by decide)]; exact B1216
                    have ek1352 : (m1345 11).toInt = ((m_798 11)).toInt := by rw [W1349 11 (by decide)]; exact ek1217
                    have B1353 : sf_B 1 600 (m1345 9) := by rw [W1349 9 (by decide)]; exact B1218
                    have W1354 : rf_W [10, 11, 12, 13] m m1345 := W1221.trans W1349 (by decide)
                    have B1355 : sf_B 0 600 (m1345 10) := T1347.B 10
                    show pm_R _ 16 155 [.ref 30] [] _ _
                    refine pm_R_br pm_M16 (pc_q := 191) (pm_q16_1 (Nat.le_of_ble_eq_true rfl)) rfl ?_
                    exact pm_R_ret pm_M16 (r := none) (pm_q16_1 (Nat.le_of_ble_eq_true rfl)) rfl (K m1345 h1346 T1347 F1350 W1354)
              · have B1356 : sf_B 97 2147483647 z1183 := sf_leR (Int32.not_lt.mp c1227) sf_k97 (sf_any z1183)
                refine pm_R_lo pm_M18 (pc_q := 7) rfl rfl rfl ?_
                refine pm_R_op pm_M18 (pc_q := 9) (st_q := [.int 122, .int z1183]) rfl rfl rfl ?_
                refine pm_R_icmp pm_M18 (t := 16) (pc_q := 12) rfl rfl rfl (fun c1357 => ?_) (fun c1357 => ?_)
                · have B1358 : sf_B 123 2147483647 z1183 := sf_ltR c1357 sf_k122 B1356
                  refine pm_R_op pm_M18 (pc_q := 17) (st_q := [.int 0]) rfl rfl rfl ?_
                  refine pm_R_ret pm_M18 (r := some (.int 0)) rfl rfl ?_
                  show pm_R _ 16 86 [.ref 30] [.int 0] _ _
                  refine pm_R_br pm_M16 (pc_q := 136) (st_q := []) rfl rfl ?_
                  refine pm_R_lo pm_M16 (pc_q := 137) (pm_q16_1 (Nat.le_of_ble_eq_true rfl)) rfl rfl ?_
                  refine pm_R_get pm_M16 (pc_q := 140) (v := .ref 18) (pm_q16_1 (Nat.le_of_ble_eq_true rfl)) rfl T1210.e30 (by decide) (T1210.lt (by decide)) rfl rfl ?_
                  refine pm_R_lo pm_M16 (pc_q := 141) (pm_q16_1 (Nat.le_of_ble_eq_true rfl)) rfl rfl ?_
                  refine pm_R_get pm_M16 (pc_q := 144) (v := .int (m_798 11)) (pm_q16_1 (Nat.le_of_ble_eq_true rfl)) rfl T1210.e30 (by decide) (T1210.lt (by decide)) (congrArg (fun z => some (Value.int z)) (Int32.toInt_inj.mp (cl_aux3 _ _ ek1217))) rfl ?_
                  refine pm_R_bald pm_M16 (pc_q := 145) (v := z1183) (pm_q16_1 (Nat.le_of_ble_eq_true rfl)) e1226 (Or.inl rfl) (by decide) (T1210.lt (by decide)) (sf_in B1181 (by decide) (by decide)) ez1184 rfl ?_
                  refine pm_R_cs pm_M16 (pc_q := 148) (ra := [.int z1183]) (rest := []) (ls_q := [.int z1183]) (pm_q16_1 (Nat.le_of_ble_eq_true rfl)) rfl (Or.inl rfl) pm_M19 rfl rfl (Nat.le_of_ble_eq_true rfl) rfl rfl ?_
                  refine pm_R_lo pm_M19 (pc_q := 1) rfl rfl rfl ?_
                  refine pm_R_op pm_M19 (pc_q := 3) (st_q := [.int 48, .int z1183]) rfl rfl rfl ?_
                  refine pm_R_icmp pm_M19 (t := 16) (pc_q := 6) rfl rfl rfl (fun c1362 => absurd c1362 (sf_nlt B1358 sf_k48 (by decide))) (fun c1362 => ?_)
                  skip
                  refine pm_R_lo pm_M19 (pc_q := 7) rfl rfl rfl ?_
                  refine pm_R_op pm_M19 (pc_q := 9) (st_q := [.int 57, .int z1183]) rfl rfl rfl ?_
                  refine pm_R_icmp pm_M19 (t := 16) (pc_q := 12) rfl rfl rfl (fun c1363 => ?_) (fun c1363 => absurd (Int32.not_lt.mp c1363) (sf_nle B1358 sf_k57 (by decide)))
                  skip
                  refine pm_R_op pm_M19 (pc_q := 17) (st_q := [.int 0]) rfl rfl rfl ?_
                  refine pm_R_ret pm_M19 (r := some (.int 0)) rfl rfl ?_
                  show pm_R _ 16 148 [.ref 30] [.int 0] _ _
                  refine pm_R_br pm_M16 (pc_q := 158) (st_q := []) (pm_q16_1 (Nat.le_of_ble_eq_true rfl)) rfl ?_
                  refine pm_R_lo pm_M16 (pc_q := 159) (pm_q16_1 (Nat.le_of_ble_eq_true rfl)) rfl rfl ?_
                  refine pm_R_lo pm_M16 (pc_q := 160) (pm_q16_1 (Nat.le_of_ble_eq_true rfl)) rfl rfl ?_
                  refine pm_R_get pm_M16 (pc_q := 163) (v := .ref 18) (pm_q16_1 (Nat.le_of_ble_eq_true rfl)) rfl T1210.e30 (by decide) (T1210.lt (by decide)) rfl rfl ?_
                  refine pm_R_lo pm_M16 (pc_q := 164) (pm_q16_1 (Nat.le_of_ble_eq_true rfl)) rfl rfl ?_
                  refine pm_R_get pm_M16 (pc_q := 167) (v := .int (m_798 11)) (pm_q16_1 (Nat.le_of_ble_eq_true rfl)) rfl T1210.e30 (by decide) (T1210.lt (by decide)) (congrArg (fun z => some (Value.int z)) (Int32.toInt_inj.mp (cl_aux3 _ _ ek1217))) rfl ?_
                  refine pm_R_bald pm_M16 (pc_q := 168) (v := z1183) (pm_q16_1 (Nat.le_of_ble_eq_true rfl)) e1226 (Or.inl rfl) (by decide) (T1210.lt (by decide)) (sf_in B1181 (by decide) (by decide)) ez1184 rfl ?_
                  refine pm_R_op pm_M16 (pc_q := 170) (st_q := [.int 59, .int z1183, .ref 30]) (pm_q16_1 (Nat.le_of_ble_eq_true rfl)) rfl rfl ?_
                  refine pm_R_icmp pm_M16 (t := 177) (pc_q := 173) (pm_q16_1 (Nat.le_of_ble_eq_true rfl)) rfl rfl (fun c1367 => ?_) (fun c1367 => absurd (Classical.not_not.mp c1367) (sf_neq1 B1358 sf_k59 (by decide)))
                  skip
                  refine pm_R_op pm_M16 (pc_q := 178) (st_q := [.int 4, .ref 30]) (pm_q16_1 (Nat.le_of_ble_eq_true rfl)) rfl rfl ?_
                  refine cl_R_put30 G pm_M16 T1210 (k := 12) (pc_q := 181) (pm_q16_1 (Nat.le_of_ble_eq_true rfl)) rfl rfl (by decide) rfl rfl (sf_weak sf_k4 (by decide) (by decide)) rfl rfl rfl rfl rfl (fun h1368 m1371 em1372 T1369 F1370 => ?_)
                  have F1373 := F1370.cl (ck := ck) T1210.1
                  have F1374 := F1215.trans (N := 0) (S := 0) F1373 (by decide) (by decide) (by decide)
                  have B1375 : sf_B 0 599 (m1371 11) := by rw [em1372]; exact B1216
                  have ek1376 : (m1371 11).toInt = ((m_798 11)).toInt := by rw [em1372]; exact ek1217
                  have B1377 : sf_B 1 600 (m1371 9) := by rw [em1372]; exact B1218
                  have B1378 : sf_B 0 599 (m1371 10) := by rw [em1372]; exact B1219
                  have ek1379 : (m1371 10).toInt = ((m_798 11)).toInt := by rw [em1372]; exact ek1220
                  have B1380 : sf_B 4 4 (m1371 12) := by rw [em1372]; exact sf_k4
                  have W1382 : rf_W [10, 11, 12, 13] m m1371 := by rw [em1372]; exact W1221.put (by decide)
                  refine pm_R_lo pm_M16 (pc_q := 182) (pm_q16_1 (Nat.le_of_ble_eq_true rfl)) rfl rfl ?_
                  refine pm_R_op pm_M16 (pc_q := 183) (st_q := [.ref 30, .ref 30]) (pm_q16_1 (Nat.le_of_ble_eq_true rfl)) rfl rfl ?_
                  refine pm_R_get pm_M16 (pc_q := 186) (v := .int (m_798 11)) (pm_q16_1 (Nat.le_of_ble_eq_true rfl)) rfl T1369.e30 (by decide) (T1369.lt (by decide)) (congrArg (fun z => some (Value.int z)) (Int32.toInt_inj.mp (cl_aux3 _ _ ek1379))) rfl ?_
                  refine pm_R_op pm_M16 (pc_q := 187) (st_q := [.int 1, .int (m_798 11), .ref 30]) (pm_q16_1 (Nat.le_of_ble_eq_true rfl)) rfl rfl ?_
                  refine sf_R_iadd pm_M16 (pc_q := 188) (pm_q16_1 (Nat.le_of_ble_eq_true rfl)) rfl B1181 sf_k1 (by decide) (by decide) (fun z1383 e1384 B1385 => ?_)
                  refine cl_R_put30 G pm_M16 T1369 (k := 10) (pc_q := 191) (pm_q16_1 (Nat.le_of_ble_eq_true rfl)) rfl rfl (by decide) rfl rfl (sf_weak B1385 (by decide) (by decide)) rfl rfl rfl rfl rfl (fun h1386 m1389 em1390 T1387 F1388 => ?_)
                  have F1391 := F1388.cl (ck := ck) T1369.1
                  have F1392 := F1374.trans (N := 0) (S := 0) F1391 (by decide) (by decide) (by decide)
                  have B1393 : sf_B 0 599 (m1389 11) := by rw [em1390]; exact B1375
                  have ek1394 : (m1389 11).toInt = ((m_798 11)).toInt := by rw [em1390]; exact ek1376
                  have B1395 : sf_B 1 600 (m1389 9) := by rw [em1390]; exact B1377
                  have B1396 : sf_B 4 4 (m1389 12) := by rw [em1390]; exact B1380
                  have B1397 : sf_B 1 600 (m1389 10) := by rw [em1390]; exact B1385
                  have ek1398 : (m1389 10).toInt = (z1383).toInt := by rw [em1390]; rfl
                  have W1399 : rf_W [10, 11, 12, 13] m m1389 := by rw [em1390]; exact W1382.put (by decide)
                  exact pm_R_ret pm_M16 (r := none) (pm_q16_1 (Nat.le_of_ble_eq_true rfl)) rfl (K m1389 h1386 T1387 F1392 W1399)
                · have B1400 : sf_B 97 122 z1183 := sf_leL (Int32.not_lt.mp c1357) B1356 sf_k122
                  refine pm_R_op pm_M18 (pc_q := 13) (st_q := [.int 1]) rfl rfl rfl ?_
                  refine pm_R_br pm_M18 (pc_q := 17) rfl rfl ?_
                  refine pm_R_ret pm_M18 (r := some (.int 1)) rfl rfl ?_
                  show pm_R _ 16 86 [.ref 30] [.int 1] _ _
                  refine pm_R_br pm_M16 (pc_q := 89) (st_q := []) rfl rfl ?_
                  have L_1480 : ∀ (N : Nat) (h_1480 : pm_H) (m_1480 : Nat → Int32), cl_T ck E m_1480 o h_1480 → cl_F ck [30] 0 0 h h_1480 → rf_W [10] m1212 m_1480 → True → (600 - (m_1480 10).toInt).toNat = N → pm_R (d + 2) 16 89 [.ref 30] [] h_1480 Q := by
                    intro N
                    induction N using Nat.strongRecOn with
                    | ind N ih_1480 =>
                      intro h_1480 m_1480 T_1480 F_1480 W_1480 X_1480 hN_1480
                      have B1483 : sf_B 0 599 (m_1480 11) := by rw [W_1480 11 (by decide)]; exact B1216
                      have ek1484 : (m_1480 11).toInt = ((m_798 11)).toInt := by rw [W_1480 11 (by decide)]; exact ek1217
                      have B1485 : sf_B 1 600 (m_1480 9) := by rw [W_1480 9 (by decide)]; exact B1218
                      have W1486 : rf_W [10, 11, 12, 13] m m_1480 := W1221.trans W_1480 (by decide)
                      refine pm_R_lo pm_M16 (pc_q := 90) rfl rfl rfl ?_
                      have B1487 : sf_B 0 600 (m_1480 10) := T_1480.B 10
                      refine pm_R_get pm_M16 (pc_q := 93) (v := .int (m_1480 10)) rfl rfl T_1480.e30 (by decide) (T_1480.lt (by decide)) rfl rfl ?_
                      refine pm_R_lo pm_M16 (pc_q := 94) rfl rfl rfl ?_
                      refine pm_R_get pm_M16 (pc_q := 97) (v := .int (m_1480 9)) rfl rfl T_1480.e30 (by decide) (T_1480.lt (by decide)) rfl rfl ?_
                      refine pm_R_icmp pm_M16 (t := 128) (pc_q := 100) rfl rfl rfl (fun c1488 => ?_) (fun c1488 => ?_)
                      · have B1489 : sf_B 1 600 (m_1480 10) := sf_leR c1488 B1485 B1487
                        refine pm_R_lo pm_M16 (pc_q := 129) (pm_q16_1 (Nat.le_of_ble_eq_true rfl)) rfl rfl ?_
                        refine pm_R_op pm_M16 (pc_q := 130) (st_q := [.int 1, .ref 30]) (pm_q16_1 (Nat.le_of_ble_eq_true rfl)) rfl rfl ?_
                        refine cl_R_put30 G pm_M16 T_1480 (k := 12) (pc_q := 133) (pm_q16_1 (Nat.le_of_ble_eq_true rfl)) rfl rfl (by decide) rfl rfl (sf_weak sf_k1 (by decide) (by decide)) rfl rfl rfl rfl rfl (fun h1490 m1493 em1494 T1491 F1492 => ?_)
                        have F1495 := F1492.cl (ck := ck) T_1480.1
                        have F1496 := F_1480.trans (N := 0) (S := 0) F1495 (by decide) (by decide) (by decide)
                        have B1497 : sf_B 0 599 (m1493 11) := by rw [em1494]; exact B1483
                        have ek1498 : (m1493 11).toInt = ((m_798 11)).toInt := by rw [em1494]; exact ek1484
                        have B1499 : sf_B 1 600 (m1493 9) := by rw [em1494]; exact B1485
                        have B1500 : sf_B 1 600 (m1493 10) := by rw [em1494]; exact B1489
                        have ek1501 : (m1493 10).toInt = ((m_1480 10)).toInt := by rw [em1494]; rfl
                        have B1502 : sf_B 1 1 (m1493 12) := by rw [em1494]; exact sf_k1
                        have W1504 : rf_W [10, 11, 12, 13] m m1493 := by rw [em1494]; exact W1486.put (by decide)
                        refine pm_R_br pm_M16 (pc_q := 191) (pm_q16_1 (Nat.le_of_ble_eq_true rfl)) rfl ?_
                        exact pm_R_ret pm_M16 (r := none) (pm_q16_1 (Nat.le_of_ble_eq_true rfl)) rfl (K m1493 h1490 T1491 F1496 W1504)
                      · have B1505 : sf_B 0 599 (m_1480 10) := sf_ltL (Int32.not_le.mp c1488) B1487 B1485
                        refine pm_R_lo pm_M16 (pc_q := 101) rfl rfl rfl ?_
                        refine pm_R_get pm_M16 (pc_q := 104) (v := .ref 18) rfl rfl T_1480.e30 (by decide) (T_1480.lt (by decide)) rfl rfl ?_
                        refine pm_R_lo pm_M16 (pc_q := 105) rfl rfl rfl ?_
                        refine pm_R_get pm_M16 (pc_q := 108) (v := .int (m_1480 10)) rfl rfl T_1480.e30 (by decide) (T_1480.lt (by decide)) rfl rfl ?_
                        obtain ⟨f1509, e1510⟩ := T_1480.C 18 (by decide) (by decide)
                        obtain ⟨z1506, ez1507⟩ : ∃ y, f1509 (Int32.toNatClampNeg (m_1480 10)) = y := ⟨_, rfl⟩
                        refine pm_R_bald pm_M16 (pc_q := 109) (v := z1506) rfl e1510 (Or.inl rfl) (by decide) (T_1480.lt (by decide)) (sf_in B1505 (by decide) (by decide)) ez1507 rfl ?_
                        refine pm_R_cs pm_M16 (pc_q := 112) (ra := [.int z1506]) (rest := []) (ls_q := [.int z1506]) rfl rfl (Or.inl rfl) pm_M18 rfl rfl (Nat.le_of_ble_eq_true rfl) rfl rfl ?_
                        refine pm_R_lo pm_M18 (pc_q := 1) rfl rfl rfl ?_
                        refine pm_R_op pm_M18 (pc_q := 3) (st_q := [.int 97, .int z1506]) rfl rfl rfl ?_
                        refine pm_R_icmp pm_M18 (t := 16) (pc_q := 6) rfl rfl rfl (fun c1512 => ?_) (fun c1512 => ?_)
                        · have B1513 : sf_B (-2147483648) 96 z1506 := sf_ltL c1512 (sf_any z1506) sf_k97
                          refine pm_R_op pm_M18 (pc_q := 17) (st_q := [.int 0]) rfl rfl rfl ?_
                          refine pm_R_ret pm_M18 (r := some (.int 0)) rfl rfl ?_
                          show pm_R _ 16 112 [.ref 30] [.int 0] _ _
                          refine pm_R_br pm_M16 (pc_q := 128) (st_q := []) rfl rfl ?_
                          refine pm_R_lo pm_M16 (pc_q := 129) (pm_q16_1 (Nat.le_of_ble_eq_true rfl)) rfl rfl ?_
                          refine pm_R_op pm_M16 (pc_q := 130) (st_q := [.int 1, .ref 30]) (pm_q16_1 (Nat.le_of_ble_eq_true rfl)) rfl rfl ?_
                          refine cl_R_put30 G pm_M16 T_1480 (k := 12) (pc_q := 133) (pm_q16_1 (Nat.le_of_ble_eq_true rfl)) rfl rfl (by decide) rfl rfl (sf_weak sf_k1 (by decide) (by decide)) rfl rfl rfl rfl rfl (fun h1514 m1517 em1518 T1515 F1516 => ?_)
                          have F1519 := F1516.cl (ck := ck) T_1480.1
                          have F1520 := F_1480.trans (N := 0) (S := 0) F1519 (by decide) (by decide) (by decide)
                          have B1521 : sf_B 0 599 (m1517 11) := by rw [em1518]; exact B1483
                          have ek1522 : (m1517 11).toInt = ((m_798 11)).toInt := by rw [em1518]; exact ek1484
                          have B1523 : sf_B 1 600 (m1517 9) := by rw [em1518]; exact B1485
                          have B1524 : sf_B 0 599 (m1517 10) := by rw [em1518]; exact B1505
                          have ek1525 : (m1517 10).toInt = ((m_1480 10)).toInt := by rw [em1518]; rfl
                          have B1526 : sf_B 1 1 (m1517 12) := by rw [em1518]; exact sf_k1
                          have W1528 : rf_W [10, 11, 12, 13] m m1517 := by rw [em1518]; exact W1486.put (by decide)
                          refine pm_R_br pm_M16 (pc_q := 191) (pm_q16_1 (Nat.le_of_ble_eq_true rfl)) rfl ?_
                          exact pm_R_ret pm_M16 (r := none) (pm_q16_1 (Nat.le_of_ble_eq_true rfl)) rfl (K m1517 h1514 T1515 F1520 W1528)
                        · have B1529 : sf_B 97 2147483647 z1506 := sf_leR (Int32.not_lt.mp c1512) sf_k97 (sf_any z1506)
                          refine pm_R_lo pm_M18 (pc_q := 7) rfl rfl rfl ?_
                          refine pm_R_op pm_M18 (pc_q := 9) (st_q := [.int 122, .int z1506]) rfl rfl rfl ?_
                          refine pm_R_icmp pm_M18 (t := 16) (pc_q := 12) rfl rfl rfl (fun c1530 => ?_) (fun c1530 => ?_)
                          · have B1531 : sf_B 123 2147483647 z1506 := sf_ltR c1530 sf_k122 B1529
                            refine pm_R_op pm_M18 (pc_q := 17) (st_q := [.int 0]) rfl rfl rfl ?_
                            refine pm_R_ret pm_M18 (r := some (.int 0)) rfl rfl ?_
                            show pm_R _ 16 112 [.ref 30] [.int 0] _ _
                            refine pm_R_br pm_M16 (pc_q := 128) (st_q := []) rfl rfl ?_
                            refine pm_R_lo pm_M16 (pc_q := 129) (pm_q16_1 (Nat.le_of_ble_eq_true rfl)) rfl rfl ?_
                            refine pm_R_op pm_M16 (pc_q := 130) (st_q := [.int 1, .ref 30]) (pm_q16_1 (Nat.le_of_ble_eq_true rfl)) rfl rfl ?_
                            refine cl_R_put30 G pm_M16 T_1480 (k := 12) (pc_q := 133) (pm_q16_1 (Nat.le_of_ble_eq_true rfl)) rfl rfl (by decide) rfl rfl (sf_weak sf_k1 (by decide) (by decide)) rfl rfl rfl rfl rfl (fun h1532 m1535 em1536 T1533 F1534 => ?_)
                            have F1537 := F1534.cl (ck := ck) T_1480.1
                            have F1538 := F_1480.trans (N := 0) (S := 0) F1537 (by decide) (by decide) (by decide)
                            have B1539 : sf_B 0 599 (m1535 11) := by rw [em1536]; exact B1483
                            have ek1540 : (m1535 11).toInt = ((m_798 11)).toInt := by rw [em1536]; exact ek1484
                            have B1541 : sf_B 1 600 (m1535 9) := by rw [em1536]; exact B1485
                            have B1542 : sf_B 0 599 (m1535 10) := by rw [em1536]; exact B1505
                            have ek1543 : (m1535 10).toInt = ((m_1480 10)).toInt := by rw [em1536]; rfl
                            have B1544 : sf_B 1 1 (m1535 12) := by rw [em1536]; exact sf_k1
                            have W1546 : rf_W [10, 11, 12, 13] m m1535 := by rw [em1536]; exact W1486.put (by decide)
                            refine pm_R_br pm_M16 (pc_q := 191) (pm_q16_1 (Nat.le_of_ble_eq_true rfl)) rfl ?_
                            exact pm_R_ret pm_M16 (r := none) (pm_q16_1 (Nat.le_of_ble_eq_true rfl)) rfl (K m1535 h1532 T1533 F1538 W1546)
                          · have B1547 : sf_B 97 122 z1506 := sf_leL (Int32.not_lt.mp c1530) B1529 sf_k122
                            refine pm_R_op pm_M18 (pc_q := 13) (st_q := [.int 1]) rfl rfl rfl ?_
                            refine pm_R_br pm_M18 (pc_q := 17) rfl rfl ?_
                            refine pm_R_ret pm_M18 (r := some (.int 1)) rfl rfl ?_
                            show pm_R _ 16 112 [.ref 30] [.int 1] _ _
                            refine pm_R_br pm_M16 (pc_q := 115) (st_q := []) rfl rfl ?_
                            refine pm_R_lo pm_M16 (pc_q := 116) rfl rfl rfl ?_
                            refine pm_R_op pm_M16 (pc_q := 117) (st_q := [.ref 30, .ref 30]) rfl rfl rfl ?_
                            refine pm_R_get pm_M16 (pc_q := 120) (v := .int (m_1480 10)) rfl rfl T_1480.e30 (by decide) (T_1480.lt (by decide)) rfl rfl ?_
                            refine pm_R_op pm_M16 (pc_q := 121) (st_q := [.int 1, .int (m_1480 10), .ref 30]) rfl rfl rfl ?_
                            refine sf_R_iadd pm_M16 (pc_q := 122) rfl rfl B1505 sf_k1 (by decide) (by decide) (fun z1548 e1549 B1550 => ?_)
                            refine cl_R_put30 G pm_M16 T_1480 (k := 10) (pc_q := 125) (pm_q16_1 (Nat.le_of_ble_eq_true rfl)) rfl rfl (by decide) rfl rfl (sf_weak B1550 (by decide) (by decide)) rfl rfl rfl rfl rfl (fun h1551 m1554 em1555 T1552 F1553 => ?_)
                            have F1556 := F1553.cl (ck := ck) T_1480.1
                            have F1557 := F_1480.trans (N := 0) (S := 0) F1556 (by decide) (by decide) (by decide)
                            have B1558 : sf_B 0 599 (m1554 11) := by rw [em1555]; exact B1483
                            have ek1559 : (m1554 11).toInt = ((m_798 11)).toInt := by rw [em1555]; exact ek1484
                            have B1560 : sf_B 1 600 (m1554 9) := by rw [em1555]; exact B1485
                            have B1561 : sf_B 1 600 (m1554 10) := by rw [em1555]; exact B1550
                            have ek1562 : (m1554 10).toInt = (z1548).toInt := by rw [em1555]; rfl
                            have W1563 : rf_W [10, 11, 12, 13] m m1554 := by rw [em1555]; exact W1486.put (by decide)
                            have W1564 : rf_W [10] m1212 m1554 := by rw [em1555]; exact W_1480.put (by decide)
                            refine pm_R_br pm_M16 (pc_q := 89) (pm_q16_1 (Nat.le_of_ble_eq_true rfl)) rfl ?_
                            exact ih_1480 _ (sf_up hN_1480 (cl_aux25 _ _ _ e1549 ek1562) B1505 (by decide) (by decide)) h1551 m1554  T1552 F1557 W1564  trivial rfl
                  exact L_1480 _ h1209 m1212  T1210 F1215 (rf_W.refl _ _)  trivial rfl
            · have B1565 : sf_B 1 599 (m1212 9) := sf_leL (Int32.not_lt.mp c1222) B1218 B1181
              have B1566 : sf_B 1 599 (m_798 11) := sf_leR (Int32.not_lt.mp c1222) B1218 B1181
              refine pm_R_lo pm_M16 (pc_q := 67) rfl rfl rfl ?_
              refine pm_R_op pm_M16 (pc_q := 68) (st_q := [.int 0, .ref 30]) rfl rfl rfl ?_
              refine cl_R_put30 G pm_M16 T1210 (k := 12) (pc_q := 71) rfl rfl rfl (by decide) rfl rfl (sf_weak sf_k0 (by decide) (by decide)) rfl rfl rfl rfl rfl (fun h1567 m1570 em1571 T1568 F1569 => ?_)
              have F1572 := F1569.cl (ck := ck) T1210.1
              have F1573 := F1215.trans (N := 0) (S := 0) F1572 (by decide) (by decide) (by decide)
              have B1574 : sf_B 0 599 (m1570 11) := by rw [em1571]; exact B1216
              have ek1575 : (m1570 11).toInt = ((m_798 11)).toInt := by rw [em1571]; exact ek1217
              have B1576 : sf_B 1 599 (m1570 9) := by rw [em1571]; exact B1565
              have B1577 : sf_B 0 599 (m1570 10) := by rw [em1571]; exact B1219
              have ek1578 : (m1570 10).toInt = ((m_798 11)).toInt := by rw [em1571]; exact ek1220
              have B1579 : sf_B 0 0 (m1570 12) := by rw [em1571]; exact sf_k0
              have W1581 : rf_W [10, 11, 12, 13] m m1570 := by rw [em1571]; exact W1221.put (by decide)
              refine pm_R_br pm_M16 (pc_q := 191) rfl rfl ?_
              exact pm_R_ret pm_M16 (r := none) (pm_q16_1 (Nat.le_of_ble_eq_true rfl)) rfl (K m1570 h1567 T1568 F1573 W1581)
          · have B1582 : sf_B 32 32 z1183 := sf_eqL (Classical.not_not.mp c1208) sf_k32
            refine pm_R_op pm_M17 (pc_q := 13) (st_q := [.int 1]) rfl rfl rfl ?_
            refine pm_R_br pm_M17 (pc_q := 17) rfl rfl ?_
            refine pm_R_ret pm_M17 (r := some (.int 1)) rfl rfl ?_
            show pm_R _ 16 31 [.ref 30] [.int 1] _ _
            refine pm_R_br pm_M16 (pc_q := 34) (st_q := []) rfl rfl ?_
            refine pm_R_lo pm_M16 (pc_q := 35) rfl rfl rfl ?_
            refine pm_R_op pm_M16 (pc_q := 36) (st_q := [.ref 30, .ref 30]) rfl rfl rfl ?_
            refine pm_R_get pm_M16 (pc_q := 39) (v := .int (m_798 11)) rfl rfl T_798.e30 (by decide) (T_798.lt (by decide)) rfl rfl ?_
            refine pm_R_op pm_M16 (pc_q := 40) (st_q := [.int 1, .int (m_798 11), .ref 30]) rfl rfl rfl ?_
            refine sf_R_iadd pm_M16 (pc_q := 41) rfl rfl B1181 sf_k1 (by decide) (by decide) (fun z1583 e1584 B1585 => ?_)
            refine cl_R_put30 G pm_M16 T_798 (k := 11) (pc_q := 44) rfl rfl rfl (by decide) rfl rfl (sf_weak B1585 (by decide) (by decide)) rfl rfl rfl rfl rfl (fun h1586 m1589 em1590 T1587 F1588 => ?_)
            have F1591 := F1588.cl (ck := ck) T_798.1
            have F1592 := F_798.trans (N := 0) (S := 0) F1591 (by decide) (by decide) (by decide)
            have B1593 : sf_B 0 600 (m1589 10) := by rw [em1590]; exact B801
            have ek1594 : (m1589 10).toInt = ((m 10)).toInt := by rw [em1590]; exact ek802
            have B1595 : sf_B 1 600 (m1589 9) := by rw [em1590]; exact B1182
            have B1596 : sf_B 1 600 (m1589 11) := by rw [em1590]; exact B1585
            have ek1597 : (m1589 11).toInt = (z1583).toInt := by rw [em1590]; rfl
            have W1598 : rf_W [10, 11, 12, 13] m m1589 := by rw [em1590]; exact W803.put (by decide)
            have W1599 : rf_W [11] m5 m1589 := by rw [em1590]; exact W_798.put (by decide)
            refine pm_R_br pm_M16 (pc_q := 8) rfl rfl ?_
            exact ih_798 _ (sf_up hN_798 (cl_aux25 _ _ _ e1584 ek1597) B1181 (by decide) (by decide)) h1586 m1589  T1587 F1592 W1599  trivial rfl
  exact L_798 _ h2 m5  T3 F8 (rf_W.refl _ _)  trivial rfl

theorem cl_aux30 (v0 v1 v2 v3 v4 v5 v6 v7 v8 : Int) (q0 : v0 = v1 + v2) (q1 : v3 = v0 - v4) (q2 : v5 = v6 - v4) (q3 : v7 = v8 - v1) (q4 : v5 = v7) (q5 : v2 < v6) (q6 : v4 ≤ v2) (q7 : v2 ≤ v6) (q8 : 0 ≤ v1) (q9 : v1 ≤ 600) (q10 : 0 ≤ v2) (q11 : v2 ≤ 13) (q12 : 0 ≤ v4) (q13 : v4 ≤ 13) (q14 : (-13) ≤ v3) (q15 : v3 ≤ 613) (q16 : 1 ≤ v6) (q17 : v6 ≤ 14) (q18 : (-15) ≤ v5) (q19 : v5 ≤ 14) (q20 : 0 ≤ v8) (q21 : v8 ≤ 600) (q22 : (-15) ≤ v7) (q23 : v7 ≤ 14) : 0 ≤ v3 := by omega
theorem cl_aux31 (v0 v1 v2 v3 v4 v5 v6 v7 v8 : Int) (q0 : v0 = v1 + v2) (q1 : v3 = v0 - v4) (q2 : v5 = v6 - v4) (q3 : v7 = v8 - v1) (q4 : v5 = v7) (q5 : v2 < v6) (q6 : v4 ≤ v2) (q7 : v2 ≤ v6) (q8 : 0 ≤ v1) (q9 : v1 ≤ 600) (q10 : 0 ≤ v2) (q11 : v2 ≤ 13) (q12 : 0 ≤ v4) (q13 : v4 ≤ 13) (q14 : (-13) ≤ v3) (q15 : v3 ≤ 613) (q16 : 1 ≤ v6) (q17 : v6 ≤ 14) (q18 : (-15) ≤ v5) (q19 : v5 ≤ 14) (q20 : 0 ≤ v8) (q21 : v8 ≤ 600) (q22 : (-15) ≤ v7) (q23 : v7 ≤ 14) : v3 ≤ 599 := by omega
theorem cl_aux32 (v0 v1 v2 v3 : Int) (q0 : v0 = v1 + 1) (q1 : 0 ≤ v2) (q2 : v2 ≤ 13) (q3 : 0 ≤ v1) (q4 : v1 ≤ 13) (q5 : v2 ≤ v1) (q6 : v1 ≤ v3) : v2 ≤ v0 := by omega
theorem cl_aux33 (v0 : Int) (q0 : 0 ≤ v0) (q1 : v0 ≤ 15) : v0 ≤ v0 := by omega
set_option maxRecDepth 100000 in
set_option maxHeartbeats 4000000 in
/-- SilentTable$Tokens.spells -/
theorem cl_c36_7 {d : Nat} {ck : cl_K} {E : Nat → pm_E} {m : Nat → Int32} {o : Nat → Option Nat} {h : pm_H} {Q : Option Value → pm_H → Prop} {a1 : Int32} {a2 : Int32} (G : cl_G ck E) (T : cl_T ck E m o h) (Ba1 : sf_B 0 15 a1) (Ba2 : sf_B 0 14 a2) (K : ∀ (r : Int32), sf_B 0 1 r → Q (some (.int r)) h) : pm_R (d + 5) 36 0 [.ref 30, .ref 7, .int a1, .int a2, pm_no] [] h Q := by
  refine pm_R_lo pm_M36 (pc_q := 1) rfl rfl rfl ?_
  refine pm_R_lo pm_M36 (pc_q := 2) rfl rfl rfl ?_
  refine sf_R_isub pm_M36 (pc_q := 3) rfl rfl Ba2 Ba1 (by decide) (by decide) (fun z1 e2 B3 => ?_)
  refine pm_R_lo pm_M36 (pc_q := 4) rfl rfl rfl ?_
  have B4 : sf_B 0 600 (m 10) := T.B 10
  refine pm_R_get pm_M36 (pc_q := 7) (v := .int (m 10)) rfl rfl T.e30 (by decide) (T.lt (by decide)) rfl rfl ?_
  refine pm_R_lo pm_M36 (pc_q := 8) rfl rfl rfl ?_
  have B5 : sf_B 0 600 (m 11) := T.B 11
  refine pm_R_get pm_M36 (pc_q := 11) (v := .int (m 11)) rfl rfl T.e30 (by decide) (T.lt (by decide)) rfl rfl ?_
  refine sf_R_isub pm_M36 (pc_q := 12) rfl rfl B4 B5 (by decide) (by decide) (fun z6 e7 B8 => ?_)
  refine pm_R_icmp pm_M36 (t := 17) (pc_q := 15) rfl rfl rfl (fun c9 => ?_) (fun c9 => ?_)
  · have B10 : sf_B (-15) 14 z6 := sf_eqR c9 B3
    refine pm_R_lo pm_M36 (pc_q := 18) rfl rfl rfl ?_
    refine pm_R_lo pm_M36 (pc_q := 20) (ls_q := [.ref 30, .ref 7, .int a1, .int a2, .int a1]) (st_q := []) rfl rfl rfl ?_
    have L_55 : ∀ (N : Nat) (x4_55 : Int32), sf_B 0 15 x4_55 → a1.toInt ≤ x4_55.toInt → (15 - x4_55.toInt).toNat = N → pm_R (d + 5) 36 20 [.ref 30, .ref 7, .int a1, .int a2, .int x4_55] [] h Q := by
      intro N
      induction N using Nat.strongRecOn with
      | ind N ih_55 =>
        intro x4_55 Bx4_55 R0_55 hN_55
        refine pm_R_lo pm_M36 (pc_q := 22) rfl rfl rfl ?_
        refine pm_R_lo pm_M36 (pc_q := 23) rfl rfl rfl ?_
        refine pm_R_icmp pm_M36 (t := 57) (pc_q := 26) rfl rfl rfl (fun c56 => ?_) (fun c56 => ?_)
        · skip
          refine pm_R_op pm_M36 (pc_q := 58) (st_q := [.int 1]) rfl rfl rfl ?_
          exact pm_R_ret pm_M36 (r := some (.int 1)) rfl rfl (K 1 (sf_weak sf_k1 (by decide) (by decide)))
        · have B57 : sf_B 0 13 x4_55 := sf_ltL (Int32.not_le.mp c56) Bx4_55 Ba2
          have B58 : sf_B 0 13 a1 := sf_leT R0_55 Ba1 B57
          have B59 : sf_B 1 14 a2 := sf_ltR (Int32.not_le.mp c56) Bx4_55 Ba2
          refine pm_R_lo pm_M36 (pc_q := 27) rfl rfl rfl ?_
          refine pm_R_lo pm_M36 (pc_q := 29) rfl rfl rfl ?_
          refine cl_R_cvS pm_M36 (pc_q := 32) (a := 7) (ra := [.int x4_55]) (rest := []) (ls_q := [.ref 7, .int x4_55]) rfl rfl (Or.inl rfl) pm_M27 (T.sw7 G) rfl (by decide) (by decide) rfl rfl (Nat.le_of_ble_eq_true rfl) rfl rfl ?_
          refine cl_e27 (d := d + 0) (s := 7) (v := 14) (by decide) (by decide) (T.sw7 G) (T.sb7 G) rfl (sf_in B57 (by decide) (by decide)) B57.1 (Int.lt_of_le_of_lt B57.2 (by decide)) (cl_ch7 B57).1 (cl_ch7 B57).2 ?_
          show pm_R _ 36 32 [.ref 30, .ref 7, .int a1, .int a2, .int x4_55] [.int ((pm_sby.getD 0 []).getD (Int32.toNatClampNeg x4_55) 0)] _ _
          refine pm_R_lo pm_M36 (pc_q := 33) rfl rfl rfl ?_
          refine pm_R_get pm_M36 (pc_q := 36) (v := .ref 18) rfl rfl T.e30 (by decide) (T.lt (by decide)) rfl rfl ?_
          refine pm_R_lo pm_M36 (pc_q := 37) rfl rfl rfl ?_
          refine pm_R_get pm_M36 (pc_q := 40) (v := .int (m 11)) rfl rfl T.e30 (by decide) (T.lt (by decide)) rfl rfl ?_
          refine pm_R_lo pm_M36 (pc_q := 42) rfl rfl rfl ?_
          refine sf_R_iadd pm_M36 (pc_q := 43) rfl rfl B5 B57 (by decide) (by decide) (fun z60 e61 B62 => ?_)
          refine pm_R_lo pm_M36 (pc_q := 44) rfl rfl rfl ?_
          refine sf_R_isub pm_M36 (pc_q := 45) rfl rfl B62 B58 (by decide) (by decide) (fun z63 e64 B65 => ?_)
          obtain ⟨f69, e70⟩ := T.C 18 (by decide) (by decide)
          have B72 : sf_B 0 599 z63 := ⟨(cl_aux30 _ _ _ _ _ _ _ _ _ e61 e64 e2 e7 (congrArg Int32.toInt c9) (Int32.lt_iff_toInt_lt.mp (Int32.not_le.mp c56)) R0_55 (Int.le_of_lt (Int32.lt_iff_toInt_lt.mp (Int32.not_le.mp c56))) B5.1 B5.2 B57.1 B57.2 B58.1 B58.2 B65.1 B65.2 B59.1 B59.2 B3.1 B3.2 B4.1 B4.2 B10.1 B10.2), (cl_aux31 _ _ _ _ _ _ _ _ _ e61 e64 e2 e7 (congrArg Int32.toInt c9) (Int32.lt_iff_toInt_lt.mp (Int32.not_le.mp c56)) R0_55 (Int.le_of_lt (Int32.lt_iff_toInt_lt.mp (Int32.not_le.mp c56))) B5.1 B5.2 B57.1 B57.2 B58.1 B58.2 B65.1 B65.2 B59.1 B59.2 B3.1 B3.2 B4.1 B4.2 B10.1 B10.2)⟩
          obtain ⟨z66, ez67⟩ : ∃ y, f69 (Int32.toNatClampNeg z63) = y := ⟨_, rfl⟩
          refine pm_R_bald pm_M36 (pc_q := 46) (v := z66) rfl e70 (Or.inl rfl) (by decide) (T.lt (by decide)) (sf_in B72 (by decide) (by decide)) ez67 rfl ?_
          refine pm_R_icmp pm_M36 (t := 51) (pc_q := 49) rfl rfl rfl (fun c73 => ?_) (fun c73 => ?_)
          · refine sf_R_iinc pm_M36 (pc_q := 54) (ls_q := fun z => [.ref 30, .ref 7, .int a1, .int a2, .int z]) rfl B57 rfl (by decide) (by decide) (by decide) (fun _ => rfl) rfl (fun z74 e75 B76 => ?_)
            show pm_R _ 36 54 [.ref 30, .ref 7, .int a1, .int a2, .int z74] [] _ _
            refine pm_R_br pm_M36 (pc_q := 20) rfl rfl ?_
            exact ih_55 _ (sf_up hN_55 e75 B57 (by decide) (by decide)) z74 (sf_weak B76 (by decide) (by decide)) (cl_aux32 _ _ _ _ e75 B58.1 B58.2 B57.1 B57.2 R0_55 (Int.le_of_lt (Int32.lt_iff_toInt_lt.mp (Int32.not_le.mp c56)))) rfl
          · skip
            refine pm_R_op pm_M36 (pc_q := 50) (st_q := [.int 0]) rfl rfl rfl ?_
            exact pm_R_ret pm_M36 (r := some (.int 0)) rfl rfl (K 0 (sf_weak sf_k0 (by decide) (by decide)))
    exact L_55 _ a1 Ba1 (cl_aux33 _ Ba1.1 Ba1.2) rfl
  · skip
    refine pm_R_op pm_M36 (pc_q := 16) (st_q := [.int 0]) rfl rfl rfl ?_
    exact pm_R_ret pm_M36 (r := some (.int 0)) rfl rfl (K 0 (sf_weak sf_k0 (by decide) (by decide)))

theorem cl_aux34 (v0 v1 v2 v3 v4 v5 v6 v7 v8 : Int) (q0 : v0 = v1 + v2) (q1 : v3 = v0 - v4) (q2 : v5 = v6 - v4) (q3 : v7 = v8 - v1) (q4 : v5 = v7) (q5 : v2 < v6) (q6 : v4 ≤ v2) (q7 : v2 ≤ v6) (q8 : 0 ≤ v1) (q9 : v1 ≤ 600) (q10 : 0 ≤ v2) (q11 : v2 ≤ 19) (q12 : 0 ≤ v4) (q13 : v4 ≤ 19) (q14 : (-19) ≤ v3) (q15 : v3 ≤ 619) (q16 : 1 ≤ v6) (q17 : v6 ≤ 20) (q18 : (-21) ≤ v5) (q19 : v5 ≤ 20) (q20 : 0 ≤ v8) (q21 : v8 ≤ 600) (q22 : (-21) ≤ v7) (q23 : v7 ≤ 20) : 0 ≤ v3 := by omega
theorem cl_aux35 (v0 v1 v2 v3 v4 v5 v6 v7 v8 : Int) (q0 : v0 = v1 + v2) (q1 : v3 = v0 - v4) (q2 : v5 = v6 - v4) (q3 : v7 = v8 - v1) (q4 : v5 = v7) (q5 : v2 < v6) (q6 : v4 ≤ v2) (q7 : v2 ≤ v6) (q8 : 0 ≤ v1) (q9 : v1 ≤ 600) (q10 : 0 ≤ v2) (q11 : v2 ≤ 19) (q12 : 0 ≤ v4) (q13 : v4 ≤ 19) (q14 : (-19) ≤ v3) (q15 : v3 ≤ 619) (q16 : 1 ≤ v6) (q17 : v6 ≤ 20) (q18 : (-21) ≤ v5) (q19 : v5 ≤ 20) (q20 : 0 ≤ v8) (q21 : v8 ≤ 600) (q22 : (-21) ≤ v7) (q23 : v7 ≤ 20) : v3 ≤ 599 := by omega
theorem cl_aux36 (v0 v1 v2 v3 : Int) (q0 : v0 = v1 + 1) (q1 : 0 ≤ v2) (q2 : v2 ≤ 19) (q3 : 0 ≤ v1) (q4 : v1 ≤ 19) (q5 : v2 ≤ v1) (q6 : v1 ≤ v3) : v2 ≤ v0 := by omega
theorem cl_aux37 (v0 : Int) (q0 : 0 ≤ v0) (q1 : v0 ≤ 21) : v0 ≤ v0 := by omega
set_option maxRecDepth 100000 in
set_option maxHeartbeats 4000000 in
/-- SilentTable$Tokens.spells -/
theorem cl_c36_8 {d : Nat} {ck : cl_K} {E : Nat → pm_E} {m : Nat → Int32} {o : Nat → Option Nat} {h : pm_H} {Q : Option Value → pm_H → Prop} {a1 : Int32} {a2 : Int32} (G : cl_G ck E) (T : cl_T ck E m o h) (Ba1 : sf_B 0 21 a1) (Ba2 : sf_B 0 20 a2) (K : ∀ (r : Int32), sf_B 0 1 r → Q (some (.int r)) h) : pm_R (d + 5) 36 0 [.ref 30, .ref 8, .int a1, .int a2, pm_no] [] h Q := by
  refine pm_R_lo pm_M36 (pc_q := 1) rfl rfl rfl ?_
  refine pm_R_lo pm_M36 (pc_q := 2) rfl rfl rfl ?_
  refine sf_R_isub pm_M36 (pc_q := 3) rfl rfl Ba2 Ba1 (by decide) (by decide) (fun z1 e2 B3 => ?_)
  refine pm_R_lo pm_M36 (pc_q := 4) rfl rfl rfl ?_
  have B4 : sf_B 0 600 (m 10) := T.B 10
  refine pm_R_get pm_M36 (pc_q := 7) (v := .int (m 10)) rfl rfl T.e30 (by decide) (T.lt (by decide)) rfl rfl ?_
  refine pm_R_lo pm_M36 (pc_q := 8) rfl rfl rfl ?_
  have B5 : sf_B 0 600 (m 11) := T.B 11
  refine pm_R_get pm_M36 (pc_q := 11) (v := .int (m 11)) rfl rfl T.e30 (by decide) (T.lt (by decide)) rfl rfl ?_
  refine sf_R_isub pm_M36 (pc_q := 12) rfl rfl B4 B5 (by decide) (by decide) (fun z6 e7 B8 => ?_)
  refine pm_R_icmp pm_M36 (t := 17) (pc_q := 15) rfl rfl rfl (fun c9 => ?_) (fun c9 => ?_)
  · have B10 : sf_B (-21) 20 z6 := sf_eqR c9 B3
    refine pm_R_lo pm_M36 (pc_q := 18) rfl rfl rfl ?_
    refine pm_R_lo pm_M36 (pc_q := 20) (ls_q := [.ref 30, .ref 8, .int a1, .int a2, .int a1]) (st_q := []) rfl rfl rfl ?_
    have L_55 : ∀ (N : Nat) (x4_55 : Int32), sf_B 0 21 x4_55 → a1.toInt ≤ x4_55.toInt → (21 - x4_55.toInt).toNat = N → pm_R (d + 5) 36 20 [.ref 30, .ref 8, .int a1, .int a2, .int x4_55] [] h Q := by
      intro N
      induction N using Nat.strongRecOn with
      | ind N ih_55 =>
        intro x4_55 Bx4_55 R0_55 hN_55
        refine pm_R_lo pm_M36 (pc_q := 22) rfl rfl rfl ?_
        refine pm_R_lo pm_M36 (pc_q := 23) rfl rfl rfl ?_
        refine pm_R_icmp pm_M36 (t := 57) (pc_q := 26) rfl rfl rfl (fun c56 => ?_) (fun c56 => ?_)
        · skip
          refine pm_R_op pm_M36 (pc_q := 58) (st_q := [.int 1]) rfl rfl rfl ?_
          exact pm_R_ret pm_M36 (r := some (.int 1)) rfl rfl (K 1 (sf_weak sf_k1 (by decide) (by decide)))
        · have B57 : sf_B 0 19 x4_55 := sf_ltL (Int32.not_le.mp c56) Bx4_55 Ba2
          have B58 : sf_B 0 19 a1 := sf_leT R0_55 Ba1 B57
          have B59 : sf_B 1 20 a2 := sf_ltR (Int32.not_le.mp c56) Bx4_55 Ba2
          refine pm_R_lo pm_M36 (pc_q := 27) rfl rfl rfl ?_
          refine pm_R_lo pm_M36 (pc_q := 29) rfl rfl rfl ?_
          refine cl_R_cvS pm_M36 (pc_q := 32) (a := 8) (ra := [.int x4_55]) (rest := []) (ls_q := [.ref 8, .int x4_55]) rfl rfl (Or.inl rfl) pm_M27 (T.sw8 G) rfl (by decide) (by decide) rfl rfl (Nat.le_of_ble_eq_true rfl) rfl rfl ?_
          refine cl_e27 (d := d + 0) (s := 8) (v := 20) (by decide) (by decide) (T.sw8 G) (T.sb8 G) rfl (sf_in B57 (by decide) (by decide)) B57.1 (Int.lt_of_le_of_lt B57.2 (by decide)) (cl_ch8 B57).1 (cl_ch8 B57).2 ?_
          show pm_R _ 36 32 [.ref 30, .ref 8, .int a1, .int a2, .int x4_55] [.int ((pm_sby.getD 1 []).getD (Int32.toNatClampNeg x4_55) 0)] _ _
          refine pm_R_lo pm_M36 (pc_q := 33) rfl rfl rfl ?_
          refine pm_R_get pm_M36 (pc_q := 36) (v := .ref 18) rfl rfl T.e30 (by decide) (T.lt (by decide)) rfl rfl ?_
          refine pm_R_lo pm_M36 (pc_q := 37) rfl rfl rfl ?_
          refine pm_R_get pm_M36 (pc_q := 40) (v := .int (m 11)) rfl rfl T.e30 (by decide) (T.lt (by decide)) rfl rfl ?_
          refine pm_R_lo pm_M36 (pc_q := 42) rfl rfl rfl ?_
          refine sf_R_iadd pm_M36 (pc_q := 43) rfl rfl B5 B57 (by decide) (by decide) (fun z60 e61 B62 => ?_)
          refine pm_R_lo pm_M36 (pc_q := 44) rfl rfl rfl ?_
          refine sf_R_isub pm_M36 (pc_q := 45) rfl rfl B62 B58 (by decide) (by decide) (fun z63 e64 B65 => ?_)
          obtain ⟨f69, e70⟩ := T.C 18 (by decide) (by decide)
          have B72 : sf_B 0 599 z63 := ⟨(cl_aux34 _ _ _ _ _ _ _ _ _ e61 e64 e2 e7 (congrArg Int32.toInt c9) (Int32.lt_iff_toInt_lt.mp (Int32.not_le.mp c56)) R0_55 (Int.le_of_lt (Int32.lt_iff_toInt_lt.mp (Int32.not_le.mp c56))) B5.1 B5.2 B57.1 B57.2 B58.1 B58.2 B65.1 B65.2 B59.1 B59.2 B3.1 B3.2 B4.1 B4.2 B10.1 B10.2), (cl_aux35 _ _ _ _ _ _ _ _ _ e61 e64 e2 e7 (congrArg Int32.toInt c9) (Int32.lt_iff_toInt_lt.mp (Int32.not_le.mp c56)) R0_55 (Int.le_of_lt (Int32.lt_iff_toInt_lt.mp (Int32.not_le.mp c56))) B5.1 B5.2 B57.1 B57.2 B58.1 B58.2 B65.1 B65.2 B59.1 B59.2 B3.1 B3.2 B4.1 B4.2 B10.1 B10.2)⟩
          obtain ⟨z66, ez67⟩ : ∃ y, f69 (Int32.toNatClampNeg z63) = y := ⟨_, rfl⟩
          refine pm_R_bald pm_M36 (pc_q := 46) (v := z66) rfl e70 (Or.inl rfl) (by decide) (T.lt (by decide)) (sf_in B72 (by decide) (by decide)) ez67 rfl ?_
          refine pm_R_icmp pm_M36 (t := 51) (pc_q := 49) rfl rfl rfl (fun c73 => ?_) (fun c73 => ?_)
          · refine sf_R_iinc pm_M36 (pc_q := 54) (ls_q := fun z => [.ref 30, .ref 8, .int a1, .int a2, .int z]) rfl B57 rfl (by decide) (by decide) (by decide) (fun _ => rfl) rfl (fun z74 e75 B76 => ?_)
            show pm_R _ 36 54 [.ref 30, .ref 8, .int a1, .int a2, .int z74] [] _ _
            refine pm_R_br pm_M36 (pc_q := 20) rfl rfl ?_
            exact ih_55 _ (sf_up hN_55 e75 B57 (by decide) (by decide)) z74 (sf_weak B76 (by decide) (by decide)) (cl_aux36 _ _ _ _ e75 B58.1 B58.2 B57.1 B57.2 R0_55 (Int.le_of_lt (Int32.lt_iff_toInt_lt.mp (Int32.not_le.mp c56)))) rfl
          · skip
            refine pm_R_op pm_M36 (pc_q := 50) (st_q := [.int 0]) rfl rfl rfl ?_
            exact pm_R_ret pm_M36 (r := some (.int 0)) rfl rfl (K 0 (sf_weak sf_k0 (by decide) (by decide)))
    exact L_55 _ a1 Ba1 (cl_aux37 _ Ba1.1 Ba1.2) rfl
  · skip
    refine pm_R_op pm_M36 (pc_q := 16) (st_q := [.int 0]) rfl rfl rfl ?_
    exact pm_R_ret pm_M36 (r := some (.int 0)) rfl rfl (K 0 (sf_weak sf_k0 (by decide) (by decide)))

theorem cl_aux38 (v0 v1 v2 v3 v4 v5 v6 v7 v8 : Int) (q0 : v0 = v1 + v2) (q1 : v3 = v0 - v4) (q2 : v5 = v6 - v4) (q3 : v7 = v8 - v1) (q4 : v5 = v7) (q5 : v2 < v6) (q6 : v4 ≤ v2) (q7 : v2 ≤ v6) (q8 : 0 ≤ v1) (q9 : v1 ≤ 600) (q10 : 0 ≤ v2) (q11 : v2 ≤ 32) (q12 : 0 ≤ v4) (q13 : v4 ≤ 32) (q14 : (-32) ≤ v3) (q15 : v3 ≤ 632) (q16 : 1 ≤ v6) (q17 : v6 ≤ 33) (q18 : (-34) ≤ v5) (q19 : v5 ≤ 33) (q20 : 0 ≤ v8) (q21 : v8 ≤ 600) (q22 : (-34) ≤ v7) (q23 : v7 ≤ 33) : 0 ≤ v3 := by omega
theorem cl_aux39 (v0 v1 v2 v3 v4 v5 v6 v7 v8 : Int) (q0 : v0 = v1 + v2) (q1 : v3 = v0 - v4) (q2 : v5 = v6 - v4) (q3 : v7 = v8 - v1) (q4 : v5 = v7) (q5 : v2 < v6) (q6 : v4 ≤ v2) (q7 : v2 ≤ v6) (q8 : 0 ≤ v1) (q9 : v1 ≤ 600) (q10 : 0 ≤ v2) (q11 : v2 ≤ 32) (q12 : 0 ≤ v4) (q13 : v4 ≤ 32) (q14 : (-32) ≤ v3) (q15 : v3 ≤ 632) (q16 : 1 ≤ v6) (q17 : v6 ≤ 33) (q18 : (-34) ≤ v5) (q19 : v5 ≤ 33) (q20 : 0 ≤ v8) (q21 : v8 ≤ 600) (q22 : (-34) ≤ v7) (q23 : v7 ≤ 33) : v3 ≤ 599 := by omega
theorem cl_aux40 (v0 v1 v2 v3 : Int) (q0 : v0 = v1 + 1) (q1 : 0 ≤ v2) (q2 : v2 ≤ 32) (q3 : 0 ≤ v1) (q4 : v1 ≤ 32) (q5 : v2 ≤ v1) (q6 : v1 ≤ v3) : v2 ≤ v0 := by omega
theorem cl_aux41 (v0 : Int) (q0 : 0 ≤ v0) (q1 : v0 ≤ 34) : v0 ≤ v0 := by omega
set_option maxRecDepth 100000 in
set_option maxHeartbeats 4000000 in
/-- SilentTable$Tokens.spells -/
theorem cl_c36_9 {d : Nat} {ck : cl_K} {E : Nat → pm_E} {m : Nat → Int32} {o : Nat → Option Nat} {h : pm_H} {Q : Option Value → pm_H → Prop} {a1 : Int32} {a2 : Int32} (G : cl_G ck E) (T : cl_T ck E m o h) (Ba1 : sf_B 0 34 a1) (Ba2 : sf_B 0 33 a2) (K : ∀ (r : Int32), sf_B 0 1 r → Q (some (.int r)) h) : pm_R (d + 5) 36 0 [.ref 30, .ref 9, .int a1, .int a2, pm_no] [] h Q := by
  refine pm_R_lo pm_M36 (pc_q := 1) rfl rfl rfl ?_
  refine pm_R_lo pm_M36 (pc_q := 2) rfl rfl rfl ?_
  refine sf_R_isub pm_M36 (pc_q := 3) rfl rfl Ba2 Ba1 (by decide) (by decide) (fun z1 e2 B3 => ?_)
  refine pm_R_lo pm_M36 (pc_q := 4) rfl rfl rfl ?_
  have B4 : sf_B 0 600 (m 10) := T.B 10
  refine pm_R_get pm_M36 (pc_q := 7) (v := .int (m 10)) rfl rfl T.e30 (by decide) (T.lt (by decide)) rfl rfl ?_
  refine pm_R_lo pm_M36 (pc_q := 8) rfl rfl rfl ?_
  have B5 : sf_B 0 600 (m 11) := T.B 11
  refine pm_R_get pm_M36 (pc_q := 11) (v := .int (m 11)) rfl rfl T.e30 (by decide) (T.lt (by decide)) rfl rfl ?_
  refine sf_R_isub pm_M36 (pc_q := 12) rfl rfl B4 B5 (by decide) (by decide) (fun z6 e7 B8 => ?_)
  refine pm_R_icmp pm_M36 (t := 17) (pc_q := 15) rfl rfl rfl (fun c9 => ?_) (fun c9 => ?_)
  · have B10 : sf_B (-34) 33 z6 := sf_eqR c9 B3
    refine pm_R_lo pm_M36 (pc_q := 18) rfl rfl rfl ?_
    refine pm_R_lo pm_M36 (pc_q := 20) (ls_q := [.ref 30, .ref 9, .int a1, .int a2, .int a1]) (st_q := []) rfl rfl rfl ?_
    have L_55 : ∀ (N : Nat) (x4_55 : Int32), sf_B 0 34 x4_55 → a1.toInt ≤ x4_55.toInt → (34 - x4_55.toInt).toNat = N → pm_R (d + 5) 36 20 [.ref 30, .ref 9, .int a1, .int a2, .int x4_55] [] h Q := by
      intro N
      induction N using Nat.strongRecOn with
      | ind N ih_55 =>
        intro x4_55 Bx4_55 R0_55 hN_55
        refine pm_R_lo pm_M36 (pc_q := 22) rfl rfl rfl ?_
        refine pm_R_lo pm_M36 (pc_q := 23) rfl rfl rfl ?_
        refine pm_R_icmp pm_M36 (t := 57) (pc_q := 26) rfl rfl rfl (fun c56 => ?_) (fun c56 => ?_)
        · skip
          refine pm_R_op pm_M36 (pc_q := 58) (st_q := [.int 1]) rfl rfl rfl ?_
          exact pm_R_ret pm_M36 (r := some (.int 1)) rfl rfl (K 1 (sf_weak sf_k1 (by decide) (by decide)))
        · have B57 : sf_B 0 32 x4_55 := sf_ltL (Int32.not_le.mp c56) Bx4_55 Ba2
          have B58 : sf_B 0 32 a1 := sf_leT R0_55 Ba1 B57
          have B59 : sf_B 1 33 a2 := sf_ltR (Int32.not_le.mp c56) Bx4_55 Ba2
          refine pm_R_lo pm_M36 (pc_q := 27) rfl rfl rfl ?_
          refine pm_R_lo pm_M36 (pc_q := 29) rfl rfl rfl ?_
          refine cl_R_cvS pm_M36 (pc_q := 32) (a := 9) (ra := [.int x4_55]) (rest := []) (ls_q := [.ref 9, .int x4_55]) rfl rfl (Or.inl rfl) pm_M27 (T.sw9 G) rfl (by decide) (by decide) rfl rfl (Nat.le_of_ble_eq_true rfl) rfl rfl ?_
          refine cl_e27 (d := d + 0) (s := 9) (v := 33) (by decide) (by decide) (T.sw9 G) (T.sb9 G) rfl (sf_in B57 (by decide) (by decide)) B57.1 (Int.lt_of_le_of_lt B57.2 (by decide)) (cl_ch9 B57).1 (cl_ch9 B57).2 ?_
          show pm_R _ 36 32 [.ref 30, .ref 9, .int a1, .int a2, .int x4_55] [.int ((pm_sby.getD 2 []).getD (Int32.toNatClampNeg x4_55) 0)] _ _
          refine pm_R_lo pm_M36 (pc_q := 33) rfl rfl rfl ?_
          refine pm_R_get pm_M36 (pc_q := 36) (v := .ref 18) rfl rfl T.e30 (by decide) (T.lt (by decide)) rfl rfl ?_
          refine pm_R_lo pm_M36 (pc_q := 37) rfl rfl rfl ?_
          refine pm_R_get pm_M36 (pc_q := 40) (v := .int (m 11)) rfl rfl T.e30 (by decide) (T.lt (by decide)) rfl rfl ?_
          refine pm_R_lo pm_M36 (pc_q := 42) rfl rfl rfl ?_
          refine sf_R_iadd pm_M36 (pc_q := 43) rfl rfl B5 B57 (by decide) (by decide) (fun z60 e61 B62 => ?_)
          refine pm_R_lo pm_M36 (pc_q := 44) rfl rfl rfl ?_
          refine sf_R_isub pm_M36 (pc_q := 45) rfl rfl B62 B58 (by decide) (by decide) (fun z63 e64 B65 => ?_)
          obtain ⟨f69, e70⟩ := T.C 18 (by decide) (by decide)
          have B72 : sf_B 0 599 z63 := ⟨(cl_aux38 _ _ _ _ _ _ _ _ _ e61 e64 e2 e7 (congrArg Int32.toInt c9) (Int32.lt_iff_toInt_lt.mp (Int32.not_le.mp c56)) R0_55 (Int.le_of_lt (Int32.lt_iff_toInt_lt.mp (Int32.not_le.mp c56))) B5.1 B5.2 B57.1 B57.2 B58.1 B58.2 B65.1 B65.2 B59.1 B59.2 B3.1 B3.2 B4.1 B4.2 B10.1 B10.2), (cl_aux39 _ _ _ _ _ _ _ _ _ e61 e64 e2 e7 (congrArg Int32.toInt c9) (Int32.lt_iff_toInt_lt.mp (Int32.not_le.mp c56)) R0_55 (Int.le_of_lt (Int32.lt_iff_toInt_lt.mp (Int32.not_le.mp c56))) B5.1 B5.2 B57.1 B57.2 B58.1 B58.2 B65.1 B65.2 B59.1 B59.2 B3.1 B3.2 B4.1 B4.2 B10.1 B10.2)⟩
          obtain ⟨z66, ez67⟩ : ∃ y, f69 (Int32.toNatClampNeg z63) = y := ⟨_, rfl⟩
          refine pm_R_bald pm_M36 (pc_q := 46) (v := z66) rfl e70 (Or.inl rfl) (by decide) (T.lt (by decide)) (sf_in B72 (by decide) (by decide)) ez67 rfl ?_
          refine pm_R_icmp pm_M36 (t := 51) (pc_q := 49) rfl rfl rfl (fun c73 => ?_) (fun c73 => ?_)
          · refine sf_R_iinc pm_M36 (pc_q := 54) (ls_q := fun z => [.ref 30, .ref 9, .int a1, .int a2, .int z]) rfl B57 rfl (by decide) (by decide) (by decide) (fun _ => rfl) rfl (fun z74 e75 B76 => ?_)
            show pm_R _ 36 54 [.ref 30, .ref 9, .int a1, .int a2, .int z74] [] _ _
            refine pm_R_br pm_M36 (pc_q := 20) rfl rfl ?_
            exact ih_55 _ (sf_up hN_55 e75 B57 (by decide) (by decide)) z74 (sf_weak B76 (by decide) (by decide)) (cl_aux40 _ _ _ _ e75 B58.1 B58.2 B57.1 B57.2 R0_55 (Int.le_of_lt (Int32.lt_iff_toInt_lt.mp (Int32.not_le.mp c56)))) rfl
          · skip
            refine pm_R_op pm_M36 (pc_q := 50) (st_q := [.int 0]) rfl rfl rfl ?_
            exact pm_R_ret pm_M36 (r := some (.int 0)) rfl rfl (K 0 (sf_weak sf_k0 (by decide) (by decide)))
    exact L_55 _ a1 Ba1 (cl_aux41 _ Ba1.1 Ba1.2) rfl
  · skip
    refine pm_R_op pm_M36 (pc_q := 16) (st_q := [.int 0]) rfl rfl rfl ?_
    exact pm_R_ret pm_M36 (r := some (.int 0)) rfl rfl (K 0 (sf_weak sf_k0 (by decide) (by decide)))

theorem cl_aux42 (v0 v1 v2 v3 v4 v5 v6 v7 v8 : Int) (q0 : v0 = v1 + v2) (q1 : v3 = v0 - v4) (q2 : v5 = v6 - v4) (q3 : v7 = v8 - v1) (q4 : v5 = v7) (q5 : v2 < v6) (q6 : v4 ≤ v2) (q7 : v2 ≤ v6) (q8 : 0 ≤ v1) (q9 : v1 ≤ 600) (q10 : 0 ≤ v2) (q11 : v2 ≤ 22) (q12 : 0 ≤ v4) (q13 : v4 ≤ 22) (q14 : (-22) ≤ v3) (q15 : v3 ≤ 622) (q16 : 1 ≤ v6) (q17 : v6 ≤ 23) (q18 : (-24) ≤ v5) (q19 : v5 ≤ 23) (q20 : 0 ≤ v8) (q21 : v8 ≤ 600) (q22 : (-24) ≤ v7) (q23 : v7 ≤ 23) : 0 ≤ v3 := by omega
theorem cl_aux43 (v0 v1 v2 v3 v4 v5 v6 v7 v8 : Int) (q0 : v0 = v1 + v2) (q1 : v3 = v0 - v4) (q2 : v5 = v6 - v4) (q3 : v7 = v8 - v1) (q4 : v5 = v7) (q5 : v2 < v6) (q6 : v4 ≤ v2) (q7 : v2 ≤ v6) (q8 : 0 ≤ v1) (q9 : v1 ≤ 600) (q10 : 0 ≤ v2) (q11 : v2 ≤ 22) (q12 : 0 ≤ v4) (q13 : v4 ≤ 22) (q14 : (-22) ≤ v3) (q15 : v3 ≤ 622) (q16 : 1 ≤ v6) (q17 : v6 ≤ 23) (q18 : (-24) ≤ v5) (q19 : v5 ≤ 23) (q20 : 0 ≤ v8) (q21 : v8 ≤ 600) (q22 : (-24) ≤ v7) (q23 : v7 ≤ 23) : v3 ≤ 599 := by omega
theorem cl_aux44 (v0 v1 v2 v3 : Int) (q0 : v0 = v1 + 1) (q1 : 0 ≤ v2) (q2 : v2 ≤ 22) (q3 : 0 ≤ v1) (q4 : v1 ≤ 22) (q5 : v2 ≤ v1) (q6 : v1 ≤ v3) : v2 ≤ v0 := by omega
theorem cl_aux45 (v0 : Int) (q0 : 0 ≤ v0) (q1 : v0 ≤ 24) : v0 ≤ v0 := by omega
set_option maxRecDepth 100000 in
set_option maxHeartbeats 4000000 in
/-- SilentTable$Tokens.spells -/
theorem cl_c36_10 {d : Nat} {ck : cl_K} {E : Nat → pm_E} {m : Nat → Int32} {o : Nat → Option Nat} {h : pm_H} {Q : Option Value → pm_H → Prop} {a1 : Int32} {a2 : Int32} (G : cl_G ck E) (T : cl_T ck E m o h) (Ba1 : sf_B 0 24 a1) (Ba2 : sf_B 0 23 a2) (K : ∀ (r : Int32), sf_B 0 1 r → Q (some (.int r)) h) : pm_R (d + 5) 36 0 [.ref 30, .ref 10, .int a1, .int a2, pm_no] [] h Q := by
  refine pm_R_lo pm_M36 (pc_q := 1) rfl rfl rfl ?_
  refine pm_R_lo pm_M36 (pc_q := 2) rfl rfl rfl ?_
  refine sf_R_isub pm_M36 (pc_q := 3) rfl rfl Ba2 Ba1 (by decide) (by decide) (fun z1 e2 B3 => ?_)
  refine pm_R_lo pm_M36 (pc_q := 4) rfl rfl rfl ?_
  have B4 : sf_B 0 600 (m 10) := T.B 10
  refine pm_R_get pm_M36 (pc_q := 7) (v := .int (m 10)) rfl rfl T.e30 (by decide) (T.lt (by decide)) rfl rfl ?_
  refine pm_R_lo pm_M36 (pc_q := 8) rfl rfl rfl ?_
  have B5 : sf_B 0 600 (m 11) := T.B 11
  refine pm_R_get pm_M36 (pc_q := 11) (v := .int (m 11)) rfl rfl T.e30 (by decide) (T.lt (by decide)) rfl rfl ?_
  refine sf_R_isub pm_M36 (pc_q := 12) rfl rfl B4 B5 (by decide) (by decide) (fun z6 e7 B8 => ?_)
  refine pm_R_icmp pm_M36 (t := 17) (pc_q := 15) rfl rfl rfl (fun c9 => ?_) (fun c9 => ?_)
  · have B10 : sf_B (-24) 23 z6 := sf_eqR c9 B3
    refine pm_R_lo pm_M36 (pc_q := 18) rfl rfl rfl ?_
    refine pm_R_lo pm_M36 (pc_q := 20) (ls_q := [.ref 30, .ref 10, .int a1, .int a2, .int a1]) (st_q := []) rfl rfl rfl ?_
    have L_55 : ∀ (N : Nat) (x4_55 : Int32), sf_B 0 24 x4_55 → a1.toInt ≤ x4_55.toInt → (24 - x4_55.toInt).toNat = N → pm_R (d + 5) 36 20 [.ref 30, .ref 10, .int a1, .int a2, .int x4_55] [] h Q := by
      intro N
      induction N using Nat.strongRecOn with
      | ind N ih_55 =>
        intro x4_55 Bx4_55 R0_55 hN_55
        refine pm_R_lo pm_M36 (pc_q := 22) rfl rfl rfl ?_
        refine pm_R_lo pm_M36 (pc_q := 23) rfl rfl rfl ?_
        refine pm_R_icmp pm_M36 (t := 57) (pc_q := 26) rfl rfl rfl (fun c56 => ?_) (fun c56 => ?_)
        · skip
          refine pm_R_op pm_M36 (pc_q := 58) (st_q := [.int 1]) rfl rfl rfl ?_
          exact pm_R_ret pm_M36 (r := some (.int 1)) rfl rfl (K 1 (sf_weak sf_k1 (by decide) (by decide)))
        · have B57 : sf_B 0 22 x4_55 := sf_ltL (Int32.not_le.mp c56) Bx4_55 Ba2
          have B58 : sf_B 0 22 a1 := sf_leT R0_55 Ba1 B57
          have B59 : sf_B 1 23 a2 := sf_ltR (Int32.not_le.mp c56) Bx4_55 Ba2
          refine pm_R_lo pm_M36 (pc_q := 27) rfl rfl rfl ?_
          refine pm_R_lo pm_M36 (pc_q := 29) rfl rfl rfl ?_
          refine cl_R_cvS pm_M36 (pc_q := 32) (a := 10) (ra := [.int x4_55]) (rest := []) (ls_q := [.ref 10, .int x4_55]) rfl rfl (Or.inl rfl) pm_M27 (T.sw10 G) rfl (by decide) (by decide) rfl rfl (Nat.le_of_ble_eq_true rfl) rfl rfl ?_
          refine cl_e27 (d := d + 0) (s := 10) (v := 23) (by decide) (by decide) (T.sw10 G) (T.sb10 G) rfl (sf_in B57 (by decide) (by decide)) B57.1 (Int.lt_of_le_of_lt B57.2 (by decide)) (cl_ch10 B57).1 (cl_ch10 B57).2 ?_
          show pm_R _ 36 32 [.ref 30, .ref 10, .int a1, .int a2, .int x4_55] [.int ((pm_sby.getD 3 []).getD (Int32.toNatClampNeg x4_55) 0)] _ _
          refine pm_R_lo pm_M36 (pc_q := 33) rfl rfl rfl ?_
          refine pm_R_get pm_M36 (pc_q := 36) (v := .ref 18) rfl rfl T.e30 (by decide) (T.lt (by decide)) rfl rfl ?_
          refine pm_R_lo pm_M36 (pc_q := 37) rfl rfl rfl ?_
          refine pm_R_get pm_M36 (pc_q := 40) (v := .int (m 11)) rfl rfl T.e30 (by decide) (T.lt (by decide)) rfl rfl ?_
          refine pm_R_lo pm_M36 (pc_q := 42) rfl rfl rfl ?_
          refine sf_R_iadd pm_M36 (pc_q := 43) rfl rfl B5 B57 (by decide) (by decide) (fun z60 e61 B62 => ?_)
          refine pm_R_lo pm_M36 (pc_q := 44) rfl rfl rfl ?_
          refine sf_R_isub pm_M36 (pc_q := 45) rfl rfl B62 B58 (by decide) (by decide) (fun z63 e64 B65 => ?_)
          obtain ⟨f69, e70⟩ := T.C 18 (by decide) (by decide)
          have B72 : sf_B 0 599 z63 := ⟨(cl_aux42 _ _ _ _ _ _ _ _ _ e61 e64 e2 e7 (congrArg Int32.toInt c9) (Int32.lt_iff_toInt_lt.mp (Int32.not_le.mp c56)) R0_55 (Int.le_of_lt (Int32.lt_iff_toInt_lt.mp (Int32.not_le.mp c56))) B5.1 B5.2 B57.1 B57.2 B58.1 B58.2 B65.1 B65.2 B59.1 B59.2 B3.1 B3.2 B4.1 B4.2 B10.1 B10.2), (cl_aux43 _ _ _ _ _ _ _ _ _ e61 e64 e2 e7 (congrArg Int32.toInt c9) (Int32.lt_iff_toInt_lt.mp (Int32.not_le.mp c56)) R0_55 (Int.le_of_lt (Int32.lt_iff_toInt_lt.mp (Int32.not_le.mp c56))) B5.1 B5.2 B57.1 B57.2 B58.1 B58.2 B65.1 B65.2 B59.1 B59.2 B3.1 B3.2 B4.1 B4.2 B10.1 B10.2)⟩
          obtain ⟨z66, ez67⟩ : ∃ y, f69 (Int32.toNatClampNeg z63) = y := ⟨_, rfl⟩
          refine pm_R_bald pm_M36 (pc_q := 46) (v := z66) rfl e70 (Or.inl rfl) (by decide) (T.lt (by decide)) (sf_in B72 (by decide) (by decide)) ez67 rfl ?_
          refine pm_R_icmp pm_M36 (t := 51) (pc_q := 49) rfl rfl rfl (fun c73 => ?_) (fun c73 => ?_)
          · refine sf_R_iinc pm_M36 (pc_q := 54) (ls_q := fun z => [.ref 30, .ref 10, .int a1, .int a2, .int z]) rfl B57 rfl (by decide) (by decide) (by decide) (fun _ => rfl) rfl (fun z74 e75 B76 => ?_)
            show pm_R _ 36 54 [.ref 30, .ref 10, .int a1, .int a2, .int z74] [] _ _
            refine pm_R_br pm_M36 (pc_q := 20) rfl rfl ?_
            exact ih_55 _ (sf_up hN_55 e75 B57 (by decide) (by decide)) z74 (sf_weak B76 (by decide) (by decide)) (cl_aux44 _ _ _ _ e75 B58.1 B58.2 B57.1 B57.2 R0_55 (Int.le_of_lt (Int32.lt_iff_toInt_lt.mp (Int32.not_le.mp c56)))) rfl
          · skip
            refine pm_R_op pm_M36 (pc_q := 50) (st_q := [.int 0]) rfl rfl rfl ?_
            exact pm_R_ret pm_M36 (r := some (.int 0)) rfl rfl (K 0 (sf_weak sf_k0 (by decide) (by decide)))
    exact L_55 _ a1 Ba1 (cl_aux45 _ Ba1.1 Ba1.2) rfl
  · skip
    refine pm_R_op pm_M36 (pc_q := 16) (st_q := [.int 0]) rfl rfl rfl ?_
    exact pm_R_ret pm_M36 (r := some (.int 0)) rfl rfl (K 0 (sf_weak sf_k0 (by decide) (by decide)))

theorem cl_aux46 (v0 v1 v2 v3 : Int) (q0 : v0 = v1 + 1) (q1 : v2 = v1 + 1) (q2 : 14 ≤ v1) (q3 : v1 ≤ 14) (q4 : v3 ≤ v1) : v0 ≤ v2 := by omega
theorem cl_aux47 (v0 v1 v2 : Int) (q0 : v0 = v1 + 1) (q1 : 0 ≤ v2) (q2 : v2 ≤ 13) (q3 : 0 ≤ v1) (q4 : v1 ≤ 13) (q5 : v2 ≤ v1) : v2 ≤ v0 := by omega
theorem cl_aux48 (v0 v1 v2 v3 : Int) (q0 : v0 = v1 + 1) (q1 : v2 = v1 + 1) (q2 : 0 ≤ v1) (q3 : v1 ≤ 13) (q4 : v3 ≤ v1) : v0 ≤ v2 := by omega
set_option maxRecDepth 100000 in
set_option maxHeartbeats 4000000 in
/-- SilentTable$Tokens.wordAmong -/
theorem cl_c24_7 {d : Nat} {ck : cl_K} {E : Nat → pm_E} {m : Nat → Int32} {o : Nat → Option Nat} {h : pm_H} {Q : Option Value → pm_H → Prop}  (G : cl_G ck E) (T : cl_T ck E m o h)  (K : ∀ (r : Int32), sf_B (-1) 2 r → Q (some (.int r)) h) : pm_R (d + 6) 24 0 [.ref 30, .ref 7, pm_no, pm_no, pm_no] [] h Q := by
  refine pm_R_lo pm_M24 (pc_q := 1) rfl rfl rfl ?_
  have B1 : sf_B 0 4 (m 12) := T.B 12
  refine pm_R_get pm_M24 (pc_q := 4) (v := .int (m 12)) rfl rfl T.e30 (by decide) (T.lt (by decide)) rfl rfl ?_
  refine pm_R_op pm_M24 (pc_q := 5) (st_q := [.int 1, .int (m 12)]) rfl rfl rfl ?_
  refine pm_R_icmp pm_M24 (t := 10) (pc_q := 8) rfl rfl rfl (fun c2 => ?_) (fun c2 => ?_)
  · have B3 : sf_B 1 1 (m 12) := sf_eqL c2 sf_k1
    refine pm_R_op pm_M24 (pc_q := 11) (st_q := [.int 0]) rfl rfl rfl ?_
    refine pm_R_lo pm_M24 (pc_q := 12) (ls_q := [.ref 30, .ref 7, .int 0, pm_no, pm_no]) (st_q := []) rfl rfl rfl ?_
    refine pm_R_op pm_M24 (pc_q := 13) (st_q := [.int 0]) rfl rfl rfl ?_
    refine pm_R_lo pm_M24 (pc_q := 14) (ls_q := [.ref 30, .ref 7, .int 0, .int 0, pm_no]) (st_q := []) rfl rfl rfl ?_
    refine pm_R_op pm_M24 (pc_q := 15) (st_q := [.int 0]) rfl rfl rfl ?_
    refine pm_R_lo pm_M24 (pc_q := 17) (ls_q := [.ref 30, .ref 7, .int 0, .int 0, .int 0]) (st_q := []) rfl rfl rfl ?_
    have L_254 : ∀ (N : Nat) (x2_254 : Int32) (x3_254 : Int32) (x4_254 : Int32), sf_B 0 2147483647 x2_254 → sf_B 0 15 x3_254 → sf_B 0 15 x4_254 → x3_254.toInt ≤ x4_254.toInt → x2_254.toInt ≤ (cl_bk (pm_sby.getD 0 []) (Int32.toNatClampNeg x4_254) : Int) → (15 - x4_254.toInt).toNat = N → pm_R (d + 6) 24 17 [.ref 30, .ref 7, .int x2_254, .int x3_254, .int x4_254] [] h Q := by
      intro N
      induction N using Nat.strongRecOn with
      | ind N ih_254 =>
        intro x2_254 x3_254 x4_254 Bx2_254 Bx3_254 Bx4_254 R0_254 X_254 hN_254
        refine pm_R_lo pm_M24 (pc_q := 19) rfl rfl rfl ?_
        refine pm_R_lo pm_M24 (pc_q := 20) rfl rfl rfl ?_
        refine cl_R_cvS pm_M24 (pc_q := 23) (a := 7) (ra := []) (rest := [.int x4_254]) (ls_q := [.ref 7]) rfl rfl (Or.inl rfl) pm_M25 (T.sw7 G) rfl (by decide) (by decide) rfl rfl (Nat.le_of_ble_eq_true rfl) rfl rfl ?_
        refine cl_e25 (d := d + 4) (s := 7) (v := 14) (by decide) (by decide) (T.sw7 G) (T.sb7 G) rfl (by decide) ?_
        show pm_R _ 24 23 [.ref 30, .ref 7, .int x2_254, .int x3_254, .int x4_254] [.int 14, .int x4_254] _ _
        refine pm_R_icmp pm_M24 (t := 73) (pc_q := 26) rfl rfl rfl (fun c255 => ?_) (fun c255 => ?_)
        · have B256 : sf_B 15 15 x4_254 := sf_ltR c255 sf_k14 Bx4_254
          refine pm_R_op pm_M24 (pc_q := 74) (st_q := [.int (-1)]) rfl rfl rfl ?_
          exact pm_R_ret pm_M24 (r := some (.int (-1))) rfl rfl (K (-1) (sf_weak sf_kn1 (by decide) (by decide)))
        · have B257 : sf_B 0 2 x2_254 := ⟨Bx2_254.1, cl_wC7 X_254 (sf_leL (Int32.not_lt.mp c255) Bx4_254 sf_k14)⟩
          have B258 : sf_B 0 14 x4_254 := sf_leL (Int32.not_lt.mp c255) Bx4_254 sf_k14
          have B259 : sf_B 0 14 x3_254 := sf_leT R0_254 Bx3_254 B258
          refine pm_R_lo pm_M24 (pc_q := 28) rfl rfl rfl ?_
          refine pm_R_lo pm_M24 (pc_q := 29) rfl rfl rfl ?_
          refine cl_R_cvS pm_M24 (pc_q := 32) (a := 7) (ra := []) (rest := [.int x4_254]) (ls_q := [.ref 7]) rfl rfl (Or.inl rfl) pm_M25 (T.sw7 G) rfl (by decide) (by decide) rfl rfl (Nat.le_of_ble_eq_true rfl) rfl rfl ?_
          refine cl_e25 (d := d + 4) (s := 7) (v := 14) (by decide) (by decide) (T.sw7 G) (T.sb7 G) rfl (by decide) ?_
          show pm_R _ 24 32 [.ref 30, .ref 7, .int x2_254, .int x3_254, .int x4_254] [.int 14, .int x4_254] _ _
          refine pm_R_icmp pm_M24 (t := 46) (pc_q := 35) rfl rfl rfl (fun c260 => ?_) (fun c260 => ?_)
          · have B261 : sf_B 14 14 x4_254 := sf_eqL c260 sf_k14
            refine pm_R_lo pm_M24 (pc_q := 47) rfl rfl rfl ?_
            refine pm_R_lo pm_M24 (pc_q := 48) rfl rfl rfl ?_
            refine pm_R_lo pm_M24 (pc_q := 49) rfl rfl rfl ?_
            refine pm_R_lo pm_M24 (pc_q := 51) rfl rfl rfl ?_
            refine pm_R_cv pm_M24 (pc_q := 54) (a := 30) (ra := [.int x4_254, .int x3_254, .ref 7]) (rest := []) (ls_q := [.ref 30, .ref 7, .int x3_254, .int x4_254, pm_no]) rfl rfl (Or.inl rfl) pm_M36 T.e30 rfl (by decide) (T.lt (by decide)) rfl rfl (Nat.le_of_ble_eq_true rfl) rfl rfl ?_
            refine cl_c36_7 (d := d + 0) G T (sf_weak B259 (by decide) (by decide)) (sf_weak B261 (by decide) (by decide)) (fun r262 B263 => ?_)
            show pm_R _ 24 54 [.ref 30, .ref 7, .int x2_254, .int x3_254, .int x4_254] [.int r262] _ _
            refine pm_R_ifc pm_M24 (t := 59) (pc_q := 57) rfl rfl rfl (fun c269 => ?_) (fun c269 => ?_)
            · have B270 : sf_B 0 0 r262 := sf_eqL c269 sf_k0
              refine sf_R_iinc pm_M24 (pc_q := 62) (ls_q := fun z => [.ref 30, .ref 7, .int z, .int x3_254, .int x4_254]) rfl B257 rfl (by decide) (by decide) (by decide) (fun _ => rfl) rfl (fun z271 e272 B273 => ?_)
              show pm_R _ 24 62 [.ref 30, .ref 7, .int z271, .int x3_254, .int x4_254] [] _ _
              refine pm_R_lo pm_M24 (pc_q := 64) rfl rfl rfl ?_
              refine pm_R_op pm_M24 (pc_q := 65) (st_q := [.int 1, .int x4_254]) rfl rfl rfl ?_
              refine sf_R_iadd pm_M24 (pc_q := 66) rfl rfl B261 sf_k1 (by decide) (by decide) (fun z274 e275 B276 => ?_)
              refine pm_R_lo pm_M24 (pc_q := 67) (ls_q := [.ref 30, .ref 7, .int z271, .int z274, .int x4_254]) (st_q := []) rfl rfl rfl ?_
              refine sf_R_iinc pm_M24 (pc_q := 70) (ls_q := fun z => [.ref 30, .ref 7, .int z271, .int z274, .int z]) rfl B261 rfl (by decide) (by decide) (by decide) (fun _ => rfl) rfl (fun z277 e278 B279 => ?_)
              show pm_R _ 24 70 [.ref 30, .ref 7, .int z271, .int z274, .int z277] [] _ _
              refine pm_R_br pm_M24 (pc_q := 17) rfl rfl ?_
              exact ih_254 _ (sf_up hN_254 e278 B261 (by decide) (by decide)) z271 z274 z277 (sf_weak B273 (by decide) (by decide)) (sf_weak B276 (by decide) (by decide)) (sf_weak B279 (by decide) (by decide)) (cl_aux46 _ _ _ _ e275 e278 B261.1 B261.2 R0_254) (cl_wA7 X_254 (sf_weak B261 (by decide) (by decide)) (Or.inl c260) e272 e278) rfl
            · have B280 : sf_B 1 1 r262 := sf_neL0 c269 sf_k0 B263
              refine pm_R_lo pm_M24 (pc_q := 58) rfl rfl rfl ?_
              exact pm_R_ret pm_M24 (r := some (.int x2_254)) rfl (pm_ret_i _) (K x2_254 (sf_weak B257 (by decide) (by decide)))
          · have B281 : sf_B 0 13 x4_254 := sf_neH0 c260 sf_k14 B258
            have B282 : sf_B 0 13 x3_254 := sf_leT R0_254 B259 B281
            refine pm_R_lo pm_M24 (pc_q := 36) rfl rfl rfl ?_
            refine pm_R_lo pm_M24 (pc_q := 38) rfl rfl rfl ?_
            refine cl_R_cvS pm_M24 (pc_q := 41) (a := 7) (ra := [.int x4_254]) (rest := []) (ls_q := [.ref 7, .int x4_254]) rfl rfl (Or.inl rfl) pm_M27 (T.sw7 G) rfl (by decide) (by decide) rfl rfl (Nat.le_of_ble_eq_true rfl) rfl rfl ?_
            refine cl_e27 (d := d + 1) (s := 7) (v := 14) (by decide) (by decide) (T.sw7 G) (T.sb7 G) rfl (sf_in B281 (by decide) (by decide)) B281.1 (Int.lt_of_le_of_lt B281.2 (by decide)) (cl_ch7 B281).1 (cl_ch7 B281).2 ?_
            show pm_R _ 24 41 [.ref 30, .ref 7, .int x2_254, .int x3_254, .int x4_254] [.int ((pm_sby.getD 0 []).getD (Int32.toNatClampNeg x4_254) 0)] _ _
            refine pm_R_op pm_M24 (pc_q := 43) (st_q := [.int 32, .int ((pm_sby.getD 0 []).getD (Int32.toNatClampNeg x4_254) 0)]) rfl rfl rfl ?_
            refine pm_R_icmp pm_M24 (t := 67) (pc_q := 46) rfl rfl rfl (fun c283 => ?_) (fun c283 => ?_)
            · skip
              refine sf_R_iinc pm_M24 (pc_q := 70) (ls_q := fun z => [.ref 30, .ref 7, .int x2_254, .int x3_254, .int z]) rfl B281 rfl (by decide) (by decide) (by decide) (fun _ => rfl) rfl (fun z284 e285 B286 => ?_)
              show pm_R _ 24 70 [.ref 30, .ref 7, .int x2_254, .int x3_254, .int z284] [] _ _
              refine pm_R_br pm_M24 (pc_q := 17) rfl rfl ?_
              exact ih_254 _ (sf_up hN_254 e285 B281 (by decide) (by decide)) x2_254 x3_254 z284 (sf_weak B257 (by decide) (by decide)) (sf_weak B282 (by decide) (by decide)) (sf_weak B286 (by decide) (by decide)) (cl_aux47 _ _ _ e285 B282.1 B282.2 B281.1 B281.2 R0_254) (cl_wB7 X_254 (sf_weak B281 (by decide) (by decide)) e285) rfl
            · have B287 : sf_B 32 32 ((pm_sby.getD 0 []).getD (Int32.toNatClampNeg x4_254) 0) := sf_eqL (Classical.not_not.mp c283) sf_k32
              refine pm_R_lo pm_M24 (pc_q := 47) rfl rfl rfl ?_
              refine pm_R_lo pm_M24 (pc_q := 48) rfl rfl rfl ?_
              refine pm_R_lo pm_M24 (pc_q := 49) rfl rfl rfl ?_
              refine pm_R_lo pm_M24 (pc_q := 51) rfl rfl rfl ?_
              refine pm_R_cv pm_M24 (pc_q := 54) (a := 30) (ra := [.int x4_254, .int x3_254, .ref 7]) (rest := []) (ls_q := [.ref 30, .ref 7, .int x3_254, .int x4_254, pm_no]) rfl rfl (Or.inl rfl) pm_M36 T.e30 rfl (by decide) (T.lt (by decide)) rfl rfl (Nat.le_of_ble_eq_true rfl) rfl rfl ?_
              refine cl_c36_7 (d := d + 0) G T (sf_weak B282 (by decide) (by decide)) (sf_weak B281 (by decide) (by decide)) (fun r288 B289 => ?_)
              show pm_R _ 24 54 [.ref 30, .ref 7, .int x2_254, .int x3_254, .int x4_254] [.int r288] _ _
              refine pm_R_ifc pm_M24 (t := 59) (pc_q := 57) rfl rfl rfl (fun c295 => ?_) (fun c295 => ?_)
              · have B296 : sf_B 0 0 r288 := sf_eqL c295 sf_k0
                refine sf_R_iinc pm_M24 (pc_q := 62) (ls_q := fun z => [.ref 30, .ref 7, .int z, .int x3_254, .int x4_254]) rfl B257 rfl (by decide) (by decide) (by decide) (fun _ => rfl) rfl (fun z297 e298 B299 => ?_)
                show pm_R _ 24 62 [.ref 30, .ref 7, .int z297, .int x3_254, .int x4_254] [] _ _
                refine pm_R_lo pm_M24 (pc_q := 64) rfl rfl rfl ?_
                refine pm_R_op pm_M24 (pc_q := 65) (st_q := [.int 1, .int x4_254]) rfl rfl rfl ?_
                refine sf_R_iadd pm_M24 (pc_q := 66) rfl rfl B281 sf_k1 (by decide) (by decide) (fun z300 e301 B302 => ?_)
                refine pm_R_lo pm_M24 (pc_q := 67) (ls_q := [.ref 30, .ref 7, .int z297, .int z300, .int x4_254]) (st_q := []) rfl rfl rfl ?_
                refine sf_R_iinc pm_M24 (pc_q := 70) (ls_q := fun z => [.ref 30, .ref 7, .int z297, .int z300, .int z]) rfl B281 rfl (by decide) (by decide) (by decide) (fun _ => rfl) rfl (fun z303 e304 B305 => ?_)
                show pm_R _ 24 70 [.ref 30, .ref 7, .int z297, .int z300, .int z303] [] _ _
                refine pm_R_br pm_M24 (pc_q := 17) rfl rfl ?_
                exact ih_254 _ (sf_up hN_254 e304 B281 (by decide) (by decide)) z297 z300 z303 (sf_weak B299 (by decide) (by decide)) (sf_weak B302 (by decide) (by decide)) (sf_weak B305 (by decide) (by decide)) (cl_aux48 _ _ _ _ e301 e304 B281.1 B281.2 R0_254) (cl_wA7 X_254 (sf_weak B281 (by decide) (by decide)) (Or.inr (Classical.not_not.mp c283)) e298 e304) rfl
              · have B306 : sf_B 1 1 r288 := sf_neL0 c295 sf_k0 B289
                refine pm_R_lo pm_M24 (pc_q := 58) rfl rfl rfl ?_
                exact pm_R_ret pm_M24 (r := some (.int x2_254)) rfl (pm_ret_i _) (K x2_254 (sf_weak B257 (by decide) (by decide)))
    exact L_254 _ 0 0 0 (sf_weak sf_k0 (by decide) (by decide)) (sf_weak sf_k0 (by decide) (by decide)) (sf_weak sf_k0 (by decide) (by decide)) (by decide) (by decide) rfl
  · skip
    refine pm_R_op pm_M24 (pc_q := 9) (st_q := [.int (-1)]) rfl rfl rfl ?_
    exact pm_R_ret pm_M24 (r := some (.int (-1))) rfl rfl (K (-1) (sf_weak sf_kn1 (by decide) (by decide)))
