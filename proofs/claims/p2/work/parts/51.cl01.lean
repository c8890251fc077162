theorem cl_aux49 (v0 v1 v2 v3 : Int) (q0 : v0 = v1 + 1) (q1 : v2 = v1 + 1) (q2 : 20 ≤ v1) (q3 : v1 ≤ 20) (q4 : v3 ≤ v1) : v0 ≤ v2 := by omega
theorem cl_aux50 (v0 v1 v2 : Int) (q0 : v0 = v1 + 1) (q1 : 0 ≤ v2) (q2 : v2 ≤ 19) (q3 : 0 ≤ v1) (q4 : v1 ≤ 19) (q5 : v2 ≤ v1) : v2 ≤ v0 := by omega
theorem cl_aux51 (v0 v1 v2 v3 : Int) (q0 : v0 = v1 + 1) (q1 : v2 = v1 + 1) (q2 : 0 ≤ v1) (q3 : v1 ≤ 19) (q4 : v3 ≤ v1) : v0 ≤ v2 := by omega
set_option maxRecDepth 100000 in
set_option maxHeartbeats 4000000 in
/-- SilentTable$Tokens.wordAmong -/
theorem cl_c24_8 {d : Nat} {ck : cl_K} {E : Nat → pm_E} {m : Nat → Int32} {o : Nat → Option Nat} {h : pm_H} {Q : Option Value → pm_H → Prop}  (G : cl_G ck E) (T : cl_T ck E m o h)  (K : ∀ (r : Int32), sf_B (-1) 3 r → Q (some (.int r)) h) : pm_R (d + 6) 24 0 [.ref 30, .ref 8, pm_no, pm_no, pm_no] [] h Q := by
  refine pm_R_lo pm_M24 (pc' := 1) rfl rfl rfl ?_
  have B1 : sf_B 0 4 (m 12) := T.B 12
  refine pm_R_get pm_M24 (pc' := 4) (v := .int (m 12)) rfl rfl T.e30 (by decide) (T.lt (by decide)) rfl rfl ?_
  refine pm_R_op pm_M24 (pc' := 5) (st' := [.int 1, .int (m 12)]) rfl rfl rfl ?_
  refine pm_R_icmp pm_M24 (t := 10) (pc' := 8) rfl rfl rfl (fun c2 => ?_) (fun c2 => ?_)
  · have B3 : sf_B 1 1 (m 12) := sf_eqL c2 sf_k1
    refine pm_R_op pm_M24 (pc' := 11) (st' := [.int 0]) rfl rfl rfl ?_
    refine pm_R_lo pm_M24 (pc' := 12) (ls' := [.ref 30, .ref 8, .int 0, pm_no, pm_no]) (st' := []) rfl rfl rfl ?_
    refine pm_R_op pm_M24 (pc' := 13) (st' := [.int 0]) rfl rfl rfl ?_
    refine pm_R_lo pm_M24 (pc' := 14) (ls' := [.ref 30, .ref 8, .int 0, .int 0, pm_no]) (st' := []) rfl rfl rfl ?_
    refine pm_R_op pm_M24 (pc' := 15) (st' := [.int 0]) rfl rfl rfl ?_
    refine pm_R_lo pm_M24 (pc' := 17) (ls' := [.ref 30, .ref 8, .int 0, .int 0, .int 0]) (st' := []) rfl rfl rfl ?_
    have L_266 : ∀ (N : Nat) (h_266 : pm_H) (m_266 : Nat → Int32) (x2_266 : Int32) (x3_266 : Int32) (x4_266 : Int32), cl_T ck E m_266 o h_266 → cl_F ck [] 0 0 h h_266 → rf_W [] m m_266 → sf_B 0 2147483647 x2_266 → sf_B 0 21 x3_266 → sf_B 0 21 x4_266 → x3_266.toInt ≤ x4_266.toInt → x2_266.toInt ≤ (cl_bk (pm_sby.getD 1 []) (Int32.toNatClampNeg x4_266) : Int) → (21 - x4_266.toInt).toNat = N → pm_R (d + 6) 24 17 [.ref 30, .ref 8, .int x2_266, .int x3_266, .int x4_266] [] h_266 Q := by
      intro N
      induction N using Nat.strongRecOn with
      | ind N ih_266 =>
        intro h_266 m_266 x2_266 x3_266 x4_266 T_266 F_266 W_266 Bx2_266 Bx3_266 Bx4_266 R0_266 X_266 hN_266
        have B269 : sf_B 1 1 (m_266 12) := by rw [W_266 12 (by decide)]; exact B3
        have W270 : rf_W [] m m_266 := (rf_W.refl [] m).trans W_266 (by decide)
        refine pm_R_lo pm_M24 (pc' := 19) rfl rfl rfl ?_
        refine pm_R_lo pm_M24 (pc' := 20) rfl rfl rfl ?_
        refine cl_R_cvS pm_M24 (pc' := 23) (a := 8) (ra := []) (rest := [.int x4_266]) (ls' := [.ref 8]) rfl rfl (Or.inl rfl) pm_M25 (T_266.sw8 G) rfl (by decide) (by decide) rfl rfl (Nat.le_of_ble_eq_true rfl) rfl rfl ?_
        refine cl_e25 (d := d + 4) (s := 8) (v := 20) (by decide) (by decide) (T_266.sw8 G) (T_266.sb8 G) rfl (by decide) ?_
        show pm_R _ 24 23 [.ref 30, .ref 8, .int x2_266, .int x3_266, .int x4_266] [.int 20, .int x4_266] _ _
        refine pm_R_icmp pm_M24 (t := 73) (pc' := 26) rfl rfl rfl (fun c271 => ?_) (fun c271 => ?_)
        · have B272 : sf_B 21 21 x4_266 := sf_ltR c271 sf_k20 Bx4_266
          refine pm_R_op pm_M24 (pc' := 74) (st' := [.int (-1)]) rfl rfl rfl ?_
          exact pm_R_ret pm_M24 (r := some (.int (-1))) rfl rfl (K (-1) (sf_weak sf_kn1 (by decide) (by decide)))
        · have B273 : sf_B 0 3 x2_266 := ⟨Bx2_266.1, cl_wC8 X_266 (sf_leL (Int32.not_lt.mp c271) Bx4_266 sf_k20)⟩
          have B274 : sf_B 0 20 x4_266 := sf_leL (Int32.not_lt.mp c271) Bx4_266 sf_k20
          have B275 : sf_B 0 20 x3_266 := sf_leT R0_266 Bx3_266 B274
          refine pm_R_lo pm_M24 (pc' := 28) rfl rfl rfl ?_
          refine pm_R_lo pm_M24 (pc' := 29) rfl rfl rfl ?_
          refine cl_R_cvS pm_M24 (pc' := 32) (a := 8) (ra := []) (rest := [.int x4_266]) (ls' := [.ref 8]) rfl rfl (Or.inl rfl) pm_M25 (T_266.sw8 G) rfl (by decide) (by decide) rfl rfl (Nat.le_of_ble_eq_true rfl) rfl rfl ?_
          refine cl_e25 (d := d + 4) (s := 8) (v := 20) (by decide) (by decide) (T_266.sw8 G) (T_266.sb8 G) rfl (by decide) ?_
          show pm_R _ 24 32 [.ref 30, .ref 8, .int x2_266, .int x3_266, .int x4_266] [.int 20, .int x4_266] _ _
          refine pm_R_icmp pm_M24 (t := 46) (pc' := 35) rfl rfl rfl (fun c276 => ?_) (fun c276 => ?_)
          · have B277 : sf_B 20 20 x4_266 := sf_eqL c276 sf_k20
            refine pm_R_lo pm_M24 (pc' := 47) rfl rfl rfl ?_
            refine pm_R_lo pm_M24 (pc' := 48) rfl rfl rfl ?_
            refine pm_R_lo pm_M24 (pc' := 49) rfl rfl rfl ?_
            refine pm_R_lo pm_M24 (pc' := 51) rfl rfl rfl ?_
            refine pm_R_cv pm_M24 (pc' := 54) (a := 30) (ra := [.int x4_266, .int x3_266, .ref 8]) (rest := []) (ls' := [.ref 30, .ref 8, .int x3_266, .int x4_266, pm_no]) rfl rfl (Or.inl rfl) pm_M36 T_266.e30 rfl (by decide) (T_266.lt (by decide)) rfl rfl (Nat.le_of_ble_eq_true rfl) rfl rfl ?_
            refine cl_c36_8 (d := d + 0) G T_266 (sf_weak B275 (by decide) (by decide)) (sf_weak B277 (by decide) (by decide)) (fun r278 B279 => ?_)
            show pm_R _ 24 54 [.ref 30, .ref 8, .int x2_266, .int x3_266, .int x4_266] [.int r278] _ _
            refine pm_R_ifc pm_M24 (t := 59) (pc' := 57) rfl rfl rfl (fun c285 => ?_) (fun c285 => ?_)
            · have B286 : sf_B 0 0 r278 := sf_eqL c285 sf_k0
              refine sf_R_iinc pm_M24 (pc' := 62) (ls' := fun z => [.ref 30, .ref 8, .int z, .int x3_266, .int x4_266]) rfl B273 rfl (by decide) (by decide) (by decide) (fun _ => rfl) rfl (fun z287 e288 B289 => ?_)
              show pm_R _ 24 62 [.ref 30, .ref 8, .int z287, .int x3_266, .int x4_266] [] _ _
              refine pm_R_lo pm_M24 (pc' := 64) rfl rfl rfl ?_
              refine pm_R_op pm_M24 (pc' := 65) (st' := [.int 1, .int x4_266]) rfl rfl rfl ?_
              refine sf_R_iadd pm_M24 (pc' := 66) rfl rfl B277 sf_k1 (by decide) (by decide) (fun z290 e291 B292 => ?_)
              refine pm_R_lo pm_M24 (pc' := 67) (ls' := [.ref 30, .ref 8, .int z287, .int z290, .int x4_266]) (st' := []) rfl rfl rfl ?_
              refine sf_R_iinc pm_M24 (pc' := 70) (ls' := fun z => [.ref 30, .ref 8, .int z287, .int z290, .int z]) rfl B277 rfl (by decide) (by decide) (by decide) (fun _ => rfl) rfl (fun z293 e294 B295 => ?_)
              show pm_R _ 24 70 [.ref 30, .ref 8, .int z287, .int z290, .int z293] [] _ _
              refine pm_R_br pm_M24 (pc' := 17) rfl rfl ?_
              exact ih_266 _ (sf_up hN_266 e294 B277 (by decide) (by decide)) h_266 m_266 z287 z290 z293 T_266 F_266 W_266 (sf_weak B289 (by decide) (by decide)) (sf_weak B292 (by decide) (by decide)) (sf_weak B295 (by decide) (by decide)) (cl_aux49 _ _ _ _ e291 e294 B277.1 B277.2 R0_266) (cl_wA8 X_266 (sf_weak B277 (by decide) (by decide)) (Or.inl c276) e288 e294) rfl
            · have B296 : sf_B 1 1 r278 := sf_neL0 c285 sf_k0 B279
              refine pm_R_lo pm_M24 (pc' := 58) rfl rfl rfl ?_
              exact pm_R_ret pm_M24 (r := some (.int x2_266)) rfl (pm_ret_i _) (K x2_266 (sf_weak B273 (by decide) (by decide)))
          · have B297 : sf_B 0 19 x4_266 := sf_neH0 c276 sf_k20 B274
            have B298 : sf_B 0 19 x3_266 := sf_leT R0_266 B275 B297
            refine pm_R_lo pm_M24 (pc' := 36) rfl rfl rfl ?_
            refine pm_R_lo pm_M24 (pc' := 38) rfl rfl rfl ?_
            refine cl_R_cvS pm_M24 (pc' := 41) (a := 8) (ra := [.int x4_266]) (rest := []) (ls' := [.ref 8, .int x4_266]) rfl rfl (Or.inl rfl) pm_M27 (T_266.sw8 G) rfl (by decide) (by decide) rfl rfl (Nat.le_of_ble_eq_true rfl) rfl rfl ?_
            refine cl_e27 (d := d + 1) (s := 8) (v := 20) (by decide) (by decide) (T_266.sw8 G) (T_266.sb8 G) rfl (sf_in B297 (by decide) (by decide)) B297.1 (Int.lt_of_le_of_lt B297.2 (by decide)) (cl_ch8 B297).1 (cl_ch8 B297).2 ?_
            show pm_R _ 24 41 [.ref 30, .ref 8, .int x2_266, .int x3_266, .int x4_266] [.int ((pm_sby.getD 1 []).getD (Int32.toNatClampNeg x4_266) 0)] _ _
            refine pm_R_op pm_M24 (pc' := 43) (st' := [.int 32, .int ((pm_sby.getD 1 []).getD (Int32.toNatClampNeg x4_266) 0)]) rfl rfl rfl ?_
            refine pm_R_icmp pm_M24 (t := 67) (pc' := 46) rfl rfl rfl (fun c299 => ?_) (fun c299 => ?_)
            · skip
              refine sf_R_iinc pm_M24 (pc' := 70) (ls' := fun z => [.ref 30, .ref 8, .int x2_266, .int x3_266, .int z]) rfl B297 rfl (by decide) (by decide) (by decide) (fun _ => rfl) rfl (fun z300 e301 B302 => ?_)
              show pm_R _ 24 70 [.ref 30, .ref 8, .int x2_266, .int x3_266, .int z300] [] _ _
              refine pm_R_br pm_M24 (pc' := 17) rfl rfl ?_
              exact ih_266 _ (sf_up hN_266 e301 B297 (by decide) (by decide)) h_266 m_266 x2_266 x3_266 z300 T_266 F_266 W_266 (sf_weak B273 (by decide) (by decide)) (sf_weak B298 (by decide) (by decide)) (sf_weak B302 (by decide) (by decide)) (cl_aux50 _ _ _ e301 B298.1 B298.2 B297.1 B297.2 R0_266) (cl_wB8 X_266 (sf_weak B297 (by decide) (by decide)) e301) rfl
            · have B303 : sf_B 32 32 ((pm_sby.getD 1 []).getD (Int32.toNatClampNeg x4_266) 0) := sf_eqL (Classical.not_not.mp c299) sf_k32
              refine pm_R_lo pm_M24 (pc' := 47) rfl rfl rfl ?_
              refine pm_R_lo pm_M24 (pc' := 48) rfl rfl rfl ?_
              refine pm_R_lo pm_M24 (pc' := 49) rfl rfl rfl ?_
              refine pm_R_lo pm_M24 (pc' := 51) rfl rfl rfl ?_
              refine pm_R_cv pm_M24 (pc' := 54) (a := 30) (ra := [.int x4_266, .int x3_266, .ref 8]) (rest := []) (ls' := [.ref 30, .ref 8, .int x3_266, .int x4_266, pm_no]) rfl rfl (Or.inl rfl) pm_M36 T_266.e30 rfl (by decide) (T_266.lt (by decide)) rfl rfl (Nat.le_of_ble_eq_true rfl) rfl rfl ?_
              refine cl_c36_8 (d := d + 0) G T_266 (sf_weak B298 (by decide) (by decide)) (sf_weak B297 (by decide) (by decide)) (fun r304 B305 => ?_)
              show pm_R _ 24 54 [.ref 30, .ref 8, .int x2_266, .int x3_266, .int x4_266] [.int r304] _ _
              refine pm_R_ifc pm_M24 (t := 59) (pc' := 57) rfl rfl rfl (fun c311 => ?_) (fun c311 => ?_)
              · have B312 : sf_B 0 0 r304 := sf_eqL c311 sf_k0
                refine sf_R_iinc pm_M24 (pc' := 62) (ls' := fun z => [.ref 30, .ref 8, .int z, .int x3_266, .int x4_266]) rfl B273 rfl (by decide) (by decide) (by decide) (fun _ => rfl) rfl (fun z313 e314 B315 => ?_)
                show pm_R _ 24 62 [.ref 30, .ref 8, .int z313, .int x3_266, .int x4_266] [] _ _
                refine pm_R_lo pm_M24 (pc' := 64) rfl rfl rfl ?_
                refine pm_R_op pm_M24 (pc' := 65) (st' := [.int 1, .int x4_266]) rfl rfl rfl ?_
                refine sf_R_iadd pm_M24 (pc' := 66) rfl rfl B297 sf_k1 (by decide) (by decide) (fun z316 e317 B318 => ?_)
                refine pm_R_lo pm_M24 (pc' := 67) (ls' := [.ref 30, .ref 8, .int z313, .int z316, .int x4_266]) (st' := []) rfl rfl rfl ?_
                refine sf_R_iinc pm_M24 (pc' := 70) (ls' := fun z => [.ref 30, .ref 8, .int z313, .int z316, .int z]) rfl B297 rfl (by decide) (by decide) (by decide) (fun _ => rfl) rfl (fun z319 e320 B321 => ?_)
                show pm_R _ 24 70 [.ref 30, .ref 8, .int z313, .int z316, .int z319] [] _ _
                refine pm_R_br pm_M24 (pc' := 17) rfl rfl ?_
                exact ih_266 _ (sf_up hN_266 e320 B297 (by decide) (by decide)) h_266 m_266 z313 z316 z319 T_266 F_266 W_266 (sf_weak B315 (by decide) (by decide)) (sf_weak B318 (by decide) (by decide)) (sf_weak B321 (by decide) (by decide)) (cl_aux51 _ _ _ _ e317 e320 B297.1 B297.2 R0_266) (cl_wA8 X_266 (sf_weak B297 (by decide) (by decide)) (Or.inr (Classical.not_not.mp c299)) e314 e320) rfl
              · have B322 : sf_B 1 1 r304 := sf_neL0 c311 sf_k0 B305
                refine pm_R_lo pm_M24 (pc' := 58) rfl rfl rfl ?_
                exact pm_R_ret pm_M24 (r := some (.int x2_266)) rfl (pm_ret_i _) (K x2_266 (sf_weak B273 (by decide) (by decide)))
    exact L_266 _ h m 0 0 0 T (cl_F.refl (ck := ck) (A := []) (n := 0) (s := 0) T.1) (rf_W.refl _ _) (sf_weak sf_k0 (by decide) (by decide)) (sf_weak sf_k0 (by decide) (by decide)) (sf_weak sf_k0 (by decide) (by decide)) (by decide) (by decide) rfl
  · skip
    refine pm_R_op pm_M24 (pc' := 9) (st' := [.int (-1)]) rfl rfl rfl ?_
    exact pm_R_ret pm_M24 (r := some (.int (-1))) rfl rfl (K (-1) (sf_weak sf_kn1 (by decide) (by decide)))

theorem cl_aux52 (v0 v1 v2 v3 : Int) (q0 : v0 = v1 + 1) (q1 : v2 = v1 + 1) (q2 : 33 ≤ v1) (q3 : v1 ≤ 33) (q4 : v3 ≤ v1) : v0 ≤ v2 := by omega
theorem cl_aux53 (v0 v1 v2 : Int) (q0 : v0 = v1 + 1) (q1 : 0 ≤ v2) (q2 : v2 ≤ 32) (q3 : 0 ≤ v1) (q4 : v1 ≤ 32) (q5 : v2 ≤ v1) : v2 ≤ v0 := by omega
theorem cl_aux54 (v0 v1 v2 v3 : Int) (q0 : v0 = v1 + 1) (q1 : v2 = v1 + 1) (q2 : 0 ≤ v1) (q3 : v1 ≤ 32) (q4 : v3 ≤ v1) : v0 ≤ v2 := by omega
set_option maxRecDepth 100000 in
set_option maxHeartbeats 4000000 in
/-- SilentTable$Tokens.wordAmong -/
theorem cl_c24_9 {d : Nat} {ck : cl_K} {E : Nat → pm_E} {m : Nat → Int32} {o : Nat → Option Nat} {h : pm_H} {Q : Option Value → pm_H → Prop}  (G : cl_G ck E) (T : cl_T ck E m o h)  (K : ∀ (r : Int32), sf_B (-1) 5 r → Q (some (.int r)) h) : pm_R (d + 6) 24 0 [.ref 30, .ref 9, pm_no, pm_no, pm_no] [] h Q := by
  refine pm_R_lo pm_M24 (pc' := 1) rfl rfl rfl ?_
  have B1 : sf_B 0 4 (m 12) := T.B 12
  refine pm_R_get pm_M24 (pc' := 4) (v := .int (m 12)) rfl rfl T.e30 (by decide) (T.lt (by decide)) rfl rfl ?_
  refine pm_R_op pm_M24 (pc' := 5) (st' := [.int 1, .int (m 12)]) rfl rfl rfl ?_
  refine pm_R_icmp pm_M24 (t := 10) (pc' := 8) rfl rfl rfl (fun c2 => ?_) (fun c2 => ?_)
  · have B3 : sf_B 1 1 (m 12) := sf_eqL c2 sf_k1
    refine pm_R_op pm_M24 (pc' := 11) (st' := [.int 0]) rfl rfl rfl ?_
    refine pm_R_lo pm_M24 (pc' := 12) (ls' := [.ref 30, .ref 9, .int 0, pm_no, pm_no]) (st' := []) rfl rfl rfl ?_
    refine pm_R_op pm_M24 (pc' := 13) (st' := [.int 0]) rfl rfl rfl ?_
    refine pm_R_lo pm_M24 (pc' := 14) (ls' := [.ref 30, .ref 9, .int 0, .int 0, pm_no]) (st' := []) rfl rfl rfl ?_
    refine pm_R_op pm_M24 (pc' := 15) (st' := [.int 0]) rfl rfl rfl ?_
    refine pm_R_lo pm_M24 (pc' := 17) (ls' := [.ref 30, .ref 9, .int 0, .int 0, .int 0]) (st' := []) rfl rfl rfl ?_
    have L_266 : ∀ (N : Nat) (h_266 : pm_H) (m_266 : Nat → Int32) (x2_266 : Int32) (x3_266 : Int32) (x4_266 : Int32), cl_T ck E m_266 o h_266 → cl_F ck [] 0 0 h h_266 → rf_W [] m m_266 → sf_B 0 2147483647 x2_266 → sf_B 0 34 x3_266 → sf_B 0 34 x4_266 → x3_266.toInt ≤ x4_266.toInt → x2_266.toInt ≤ (cl_bk (pm_sby.getD 2 []) (Int32.toNatClampNeg x4_266) : Int) → (34 - x4_266.toInt).toNat = N → pm_R (d + 6) 24 17 [.ref 30, .ref 9, .int x2_266, .int x3_266, .int x4_266] [] h_266 Q := by
      intro N
      induction N using Nat.strongRecOn with
      | ind N ih_266 =>
        intro h_266 m_266 x2_266 x3_266 x4_266 T_266 F_266 W_266 Bx2_266 Bx3_266 Bx4_266 R0_266 X_266 hN_266
        have B269 : sf_B 1 1 (m_266 12) := by rw [W_266 12 (by decide)]; exact B3
        have W270 : rf_W [] m m_266 := (rf_W.refl [] m).trans W_266 (by decide)
        refine pm_R_lo pm_M24 (pc' := 19) rfl rfl rfl ?_
        refine pm_R_lo pm_M24 (pc' := 20) rfl rfl rfl ?_
        refine cl_R_cvS pm_M24 (pc' := 23) (a := 9) (ra := []) (rest := [.int x4_266]) (ls' := [.ref 9]) rfl rfl (Or.inl rfl) pm_M25 (T_266.sw9 G) rfl (by decide) (by decide) rfl rfl (Nat.le_of_ble_eq_true rfl) rfl rfl ?_
        refine cl_e25 (d := d + 4) (s := 9) (v := 33) (by decide) (by decide) (T_266.sw9 G) (T_266.sb9 G) rfl (by decide) ?_
        show pm_R _ 24 23 [.ref 30, .ref 9, .int x2_266, .int x3_266, .int x4_266] [.int 33, .int x4_266] _ _
        refine pm_R_icmp pm_M24 (t := 73) (pc' := 26) rfl rfl rfl (fun c271 => ?_) (fun c271 => ?_)
        · have B272 : sf_B 34 34 x4_266 := sf_ltR c271 sf_k33 Bx4_266
          refine pm_R_op pm_M24 (pc' := 74) (st' := [.int (-1)]) rfl rfl rfl ?_
          exact pm_R_ret pm_M24 (r := some (.int (-1))) rfl rfl (K (-1) (sf_weak sf_kn1 (by decide) (by decide)))
        · have B273 : sf_B 0 5 x2_266 := ⟨Bx2_266.1, cl_wC9 X_266 (sf_leL (Int32.not_lt.mp c271) Bx4_266 sf_k33)⟩
          have B274 : sf_B 0 33 x4_266 := sf_leL (Int32.not_lt.mp c271) Bx4_266 sf_k33
          have B275 : sf_B 0 33 x3_266 := sf_leT R0_266 Bx3_266 B274
          refine pm_R_lo pm_M24 (pc' := 28) rfl rfl rfl ?_
          refine pm_R_lo pm_M24 (pc' := 29) rfl rfl rfl ?_
          refine cl_R_cvS pm_M24 (pc' := 32) (a := 9) (ra := []) (rest := [.int x4_266]) (ls' := [.ref 9]) rfl rfl (Or.inl rfl) pm_M25 (T_266.sw9 G) rfl (by decide) (by decide) rfl rfl (Nat.le_of_ble_eq_true rfl) rfl rfl ?_
          refine cl_e25 (d := d + 4) (s := 9) (v := 33) (by decide) (by decide) (T_266.sw9 G) (T_266.sb9 G) rfl (by decide) ?_
          show pm_R _ 24 32 [.ref 30, .ref 9, .int x2_266, .int x3_266, .int x4_266] [.int 33, .int x4_266] _ _
          refine pm_R_icmp pm_M24 (t := 46) (pc' := 35) rfl rfl rfl (fun c276 => ?_) (fun c276 => ?_)
          · have B277 : sf_B 33 33 x4_266 := sf_eqL c276 sf_k33
            refine pm_R_lo pm_M24 (pc' := 47) rfl rfl rfl ?_
            refine pm_R_lo pm_M24 (pc' := 48) rfl rfl rfl ?_
            refine pm_R_lo pm_M24 (pc' := 49) rfl rfl rfl ?_
            refine pm_R_lo pm_M24 (pc' := 51) rfl rfl rfl ?_
            refine pm_R_cv pm_M24 (pc' := 54) (a := 30) (ra := [.int x4_266, .int x3_266, .ref 9]) (rest := []) (ls' := [.ref 30, .ref 9, .int x3_266, .int x4_266, pm_no]) rfl rfl (Or.inl rfl) pm_M36 T_266.e30 rfl (by decide) (T_266.lt (by decide)) rfl rfl (Nat.le_of_ble_eq_true rfl) rfl rfl ?_
            refine cl_c36_9 (d := d + 0) G T_266 (sf_weak B275 (by decide) (by decide)) (sf_weak B277 (by decide) (by decide)) (fun r278 B279 => ?_)
            show pm_R _ 24 54 [.ref 30, .ref 9, .int x2_266, .int x3_266, .int x4_266] [.int r278] _ _
            refine pm_R_ifc pm_M24 (t := 59) (pc' := 57) rfl rfl rfl (fun c285 => ?_) (fun c285 => ?_)
            · have B286 : sf_B 0 0 r278 := sf_eqL c285 sf_k0
              refine sf_R_iinc pm_M24 (pc' := 62) (ls' := fun z => [.ref 30, .ref 9, .int z, .int x3_266, .int x4_266]) rfl B273 rfl (by decide) (by decide) (by decide) (fun _ => rfl) rfl (fun z287 e288 B289 => ?_)
              show pm_R _ 24 62 [.ref 30, .ref 9, .int z287, .int x3_266, .int x4_266] [] _ _
              refine pm_R_lo pm_M24 (pc' := 64) rfl rfl rfl ?_
              refine pm_R_op pm_M24 (pc' := 65) (st' := [.int 1, .int x4_266]) rfl rfl rfl ?_
              refine sf_R_iadd pm_M24 (pc' := 66) rfl rfl B277 sf_k1 (by decide) (by decide) (fun z290 e291 B292 => ?_)
              refine pm_R_lo pm_M24 (pc' := 67) (ls' := [.ref 30, .ref 9, .int z287, .int z290, .int x4_266]) (st' := []) rfl rfl rfl ?_
              refine sf_R_iinc pm_M24 (pc' := 70) (ls' := fun z => [.ref 30, .ref 9, .int z287, .int z290, .int z]) rfl B277 rfl (by decide) (by decide) (by decide) (fun _ => rfl) rfl (fun z293 e294 B295 => ?_)
              show pm_R _ 24 70 [.ref 30, .ref 9, .int z287, .int z290, .int z293] [] _ _
              refine pm_R_br pm_M24 (pc' := 17) rfl rfl ?_
              exact ih_266 _ (sf_up hN_266 e294 B277 (by decide) (by decide)) h_266 m_266 z287 z290 z293 T_266 F_266 W_266 (sf_weak B289 (by decide) (by decide)) (sf_weak B292 (by decide) (by decide)) (sf_weak B295 (by decide) (by decide)) (cl_aux52 _ _ _ _ e291 e294 B277.1 B277.2 R0_266) (cl_wA9 X_266 (sf_weak B277 (by decide) (by decide)) (Or.inl c276) e288 e294) rfl
            · have B296 : sf_B 1 1 r278 := sf_neL0 c285 sf_k0 B279
              refine pm_R_lo pm_M24 (pc' := 58) rfl rfl rfl ?_
              exact pm_R_ret pm_M24 (r := some (.int x2_266)) rfl (pm_ret_i _) (K x2_266 (sf_weak B273 (by decide) (by decide)))
          · have B297 : sf_B 0 32 x4_266 := sf_neH0 c276 sf_k33 B274
            have B298 : sf_B 0 32 x3_266 := sf_leT R0_266 B275 B297
            refine pm_R_lo pm_M24 (pc' := 36) rfl rfl rfl ?_
            refine pm_R_lo pm_M24 (pc' := 38) rfl rfl rfl ?_
            refine cl_R_cvS pm_M24 (pc' := 41) (a := 9) (ra := [.int x4_266]) (rest := []) (ls' := [.ref 9, .int x4_266]) rfl rfl (Or.inl rfl) pm_M27 (T_266.sw9 G) rfl (by decide) (by decide) rfl rfl (Nat.le_of_ble_eq_true rfl) rfl rfl ?_
            refine cl_e27 (d := d + 1) (s := 9) (v := 33) (by decide) (by decide) (T_266.sw9 G) (T_266.sb9 G) rfl (sf_in B297 (by decide) (by decide)) B297.1 (Int.lt_of_le_of_lt B297.2 (by decide)) (cl_ch9 B297).1 (cl_ch9 B297).2 ?_
            show pm_R _ 24 41 [.ref 30, .ref 9, .int x2_266, .int x3_266, .int x4_266] [.int ((pm_sby.getD 2 []).getD (Int32.toNatClampNeg x4_266) 0)] _ _
            refine pm_R_op pm_M24 (pc' := 43) (st' := [.int 32, .int ((pm_sby.getD 2 []).getD (Int32.toNatClampNeg x4_266) 0)]) rfl rfl rfl ?_
            refine pm_R_icmp pm_M24 (t := 67) (pc' := 46) rfl rfl rfl (fun c299 => ?_) (fun c299 => ?_)
            · skip
              refine sf_R_iinc pm_M24 (pc' := 70) (ls' := fun z => [.ref 30, .ref 9, .int x2_266, .int x3_266, .int z]) rfl B297 rfl (by decide) (by decide) (by decide) (fun _ => rfl) rfl (fun z300 e301 B302 => ?_)
              show pm_R _ 24 70 [.ref 30, .ref 9, .int x2_266, .int x3_266, .int z300] [] _ _
              refine pm_R_br pm_M24 (pc' := 17) rfl rfl ?_
              exact ih_266 _ (sf_up hN_266 e301 B297 (by decide) (by decide)) h_266 m_266 x2_266 x3_266 z300 T_266 F_266 W_266 (sf_weak B273 (by decide) (by decide)) (sf_weak B298 (by decide) (by decide)) (sf_weak B302 (by decide) (by decide)) (cl_aux53 _ _ _ e301 B298.1 B298.2 B297.1 B297.2 R0_266) (cl_wB9 X_266 (sf_weak B297 (by decide) (by decide)) e301) rfl
            · have B303 : sf_B 32 32 ((pm_sby.getD 2 []).getD (Int32.toNatClampNeg x4_266) 0) := sf_eqL (Classical.not_not.mp c299) sf_k32
              refine pm_R_lo pm_M24 (pc' := 47) rfl rfl rfl ?_
              refine pm_R_lo pm_M24 (pc' := 48) rfl rfl rfl ?_
              refine pm_R_lo pm_M24 (pc' := 49) rfl rfl rfl ?_
              refine pm_R_lo pm_M24 (pc' := 51) rfl rfl rfl ?_
              refine pm_R_cv pm_M24 (pc' := 54) (a := 30) (ra := [.int x4_266, .int x3_266, .ref 9]) (rest := []) (ls' := [.ref 30, .ref 9, .int x3_266, .int x4_266, pm_no]) rfl rfl (Or.inl rfl) pm_M36 T_266.e30 rfl (by decide) (T_266.lt (by decide)) rfl rfl (Nat.le_of_ble_eq_true rfl) rfl rfl ?_
              refine cl_c36_9 (d := d + 0) G T_266 (sf_weak B298 (by decide) (by decide)) (sf_weak B297 (by decide) (by decide)) (fun r304 B305 => ?_)
              show pm_R _ 24 54 [.ref 30, .ref 9, .int x2_266, .int x3_266, .int x4_266] [.int r304] _ _
              refine pm_R_ifc pm_M24 (t := 59) (pc' := 57) rfl rfl rfl (fun c311 => ?_) (fun c311 => ?_)
              · have B312 : sf_B 0 0 r304 := sf_eqL c311 sf_k0
                refine sf_R_iinc pm_M24 (pc' := 62) (ls' := fun z => [.ref 30, .ref 9, .int z, .int x3_266, .int x4_266]) rfl B273 rfl (by decide) (by decide) (by decide) (fun _ => rfl) rfl (fun z313 e314 B315 => ?_)
                show pm_R _ 24 62 [.ref 30, .ref 9, .int z313, .int x3_266, .int x4_266] [] _ _
                refine pm_R_lo pm_M24 (pc' := 64) rfl rfl rfl ?_
                refine pm_R_op pm_M24 (pc' := 65) (st' := [.int 1, .int x4_266]) rfl rfl rfl ?_
                refine sf_R_iadd pm_M24 (pc' := 66) rfl rfl B297 sf_k1 (by decide) (by decide) (fun z316 e317 B318 => ?_)
                refine pm_R_lo pm_M24 (pc' := 67) (ls' := [.ref 30, .ref 9, .int z313, .int z316, .int x4_266]) (st' := []) rfl rfl rfl ?_
                refine sf_R_iinc pm_M24 (pc' := 70) (ls' := fun z => [.ref 30, .ref 9, .int z313, .int z316, .int z]) rfl B297 rfl (by decide) (by decide) (by decide) (fun _ => rfl) rfl (fun z319 e320 B321 => ?_)
                show pm_R _ 24 70 [.ref 30, .ref 9, .int z313, .int z316, .int z319] [] _ _
                refine pm_R_br pm_M24 (pc' := 17) rfl rfl ?_
                exact ih_266 _ (sf_up hN_266 e320 B297 (by decide) (by decide)) h_266 m_266 z313 z316 z319 T_266 F_266 W_266 (sf_weak B315 (by decide) (by decide)) (sf_weak B318 (by decide) (by decide)) (sf_weak B321 (by decide) (by decide)) (cl_aux54 _ _ _ _ e317 e320 B297.1 B297.2 R0_266) (cl_wA9 X_266 (sf_weak B297 (by decide) (by decide)) (Or.inr (Classical.not_not.mp c299)) e314 e320) rfl
              · have B322 : sf_B 1 1 r304 := sf_neL0 c311 sf_k0 B305
                refine pm_R_lo pm_M24 (pc' := 58) rfl rfl rfl ?_
                exact pm_R_ret pm_M24 (r := some (.int x2_266)) rfl (pm_ret_i _) (K x2_266 (sf_weak B273 (by decide) (by decide)))
    exact L_266 _ h m 0 0 0 T (cl_F.refl (ck := ck) (A := []) (n := 0) (s := 0) T.1) (rf_W.refl _ _) (sf_weak sf_k0 (by decide) (by decide)) (sf_weak sf_k0 (by decide) (by decide)) (sf_weak sf_k0 (by decide) (by decide)) (by decide) (by decide) rfl
  · skip
    refine pm_R_op pm_M24 (pc' := 9) (st' := [.int (-1)]) rfl rfl rfl ?_
    exact pm_R_ret pm_M24 (r := some (.int (-1))) rfl rfl (K (-1) (sf_weak sf_kn1 (by decide) (by decide)))

theorem cl_aux55 (v0 v1 v2 v3 : Int) (q0 : v0 = v1 + 1) (q1 : v2 = v1 + 1) (q2 : 23 ≤ v1) (q3 : v1 ≤ 23) (q4 : v3 ≤ v1) : v0 ≤ v2 := by omega
theorem cl_aux56 (v0 v1 v2 : Int) (q0 : v0 = v1 + 1) (q1 : 0 ≤ v2) (q2 : v2 ≤ 22) (q3 : 0 ≤ v1) (q4 : v1 ≤ 22) (q5 : v2 ≤ v1) : v2 ≤ v0 := by omega
theorem cl_aux57 (v0 v1 v2 v3 : Int) (q0 : v0 = v1 + 1) (q1 : v2 = v1 + 1) (q2 : 0 ≤ v1) (q3 : v1 ≤ 22) (q4 : v3 ≤ v1) : v0 ≤ v2 := by omega
set_option maxRecDepth 100000 in
set_option maxHeartbeats 4000000 in
/-- SilentTable$Tokens.wordAmong -/
theorem cl_c24_10 {d : Nat} {ck : cl_K} {E : Nat → pm_E} {m : Nat → Int32} {o : Nat → Option Nat} {h : pm_H} {Q : Option Value → pm_H → Prop}  (G : cl_G ck E) (T : cl_T ck E m o h)  (K : ∀ (r : Int32), sf_B (-1) 4 r → Q (some (.int r)) h) : pm_R (d + 6) 24 0 [.ref 30, .ref 10, pm_no, pm_no, pm_no] [] h Q := by
  refine pm_R_lo pm_M24 (pc' := 1) rfl rfl rfl ?_
  have B1 : sf_B 0 4 (m 12) := T.B 12
  refine pm_R_get pm_M24 (pc' := 4) (v := .int (m 12)) rfl rfl T.e30 (by decide) (T.lt (by decide)) rfl rfl ?_
  refine pm_R_op pm_M24 (pc' := 5) (st' := [.int 1, .int (m 12)]) rfl rfl rfl ?_
  refine pm_R_icmp pm_M24 (t := 10) (pc' := 8) rfl rfl rfl (fun c2 => ?_) (fun c2 => ?_)
  · have B3 : sf_B 1 1 (m 12) := sf_eqL c2 sf_k1
    refine pm_R_op pm_M24 (pc' := 11) (st' := [.int 0]) rfl rfl rfl ?_
    refine pm_R_lo pm_M24 (pc' := 12) (ls' := [.ref 30, .ref 10, .int 0, pm_no, pm_no]) (st' := []) rfl rfl rfl ?_
    refine pm_R_op pm_M24 (pc' := 13) (st' := [.int 0]) rfl rfl rfl ?_
    refine pm_R_lo pm_M24 (pc' := 14) (ls' := [.ref 30, .ref 10, .int 0, .int 0, pm_no]) (st' := []) rfl rfl rfl ?_
    refine pm_R_op pm_M24 (pc' := 15) (st' := [.int 0]) rfl rfl rfl ?_
    refine pm_R_lo pm_M24 (pc' := 17) (ls' := [.ref 30, .ref 10, .int 0, .int 0, .int 0]) (st' := []) rfl rfl rfl ?_
    have L_266 : ∀ (N : Nat) (h_266 : pm_H) (m_266 : Nat → Int32) (x2_266 : Int32) (x3_266 : Int32) (x4_266 : Int32), cl_T ck E m_266 o h_266 → cl_F ck [] 0 0 h h_266 → rf_W [] m m_266 → sf_B 0 2147483647 x2_266 → sf_B 0 24 x3_266 → sf_B 0 24 x4_266 → x3_266.toInt ≤ x4_266.toInt → x2_266.toInt ≤ (cl_bk (pm_sby.getD 3 []) (Int32.toNatClampNeg x4_266) : Int) → (24 - x4_266.toInt).toNat = N → pm_R (d + 6) 24 17 [.ref 30, .ref 10, .int x2_266, .int x3_266, .int x4_266] [] h_266 Q := by
      intro N
      induction N using Nat.strongRecOn with
      | ind N ih_266 =>
        intro h_266 m_266 x2_266 x3_266 x4_266 T_266 F_266 W_266 Bx2_266 Bx3_266 Bx4_266 R0_266 X_266 hN_266
        have B269 : sf_B 1 1 (m_266 12) := by rw [W_266 12 (by decide)]; exact B3
        have W270 : rf_W [] m m_266 := (rf_W.refl [] m).trans W_266 (by decide)
        refine pm_R_lo pm_M24 (pc' := 19) rfl rfl rfl ?_
        refine pm_R_lo pm_M24 (pc' := 20) rfl rfl rfl ?_
        refine cl_R_cvS pm_M24 (pc' := 23) (a := 10) (ra := []) (rest := [.int x4_266]) (ls' := [.ref 10]) rfl rfl (Or.inl rfl) pm_M25 (T_266.sw10 G) rfl (by decide) (by decide) rfl rfl (Nat.le_of_ble_eq_true rfl) rfl rfl ?_
        refine cl_e25 (d := d + 4) (s := 10) (v := 23) (by decide) (by decide) (T_266.sw10 G) (T_266.sb10 G) rfl (by decide) ?_
        show pm_R _ 24 23 [.ref 30, .ref 10, .int x2_266, .int x3_266, .int x4_266] [.int 23, .int x4_266] _ _
        refine pm_R_icmp pm_M24 (t := 73) (pc' := 26) rfl rfl rfl (fun c271 => ?_) (fun c271 => ?_)
        · have B272 : sf_B 24 24 x4_266 := sf_ltR c271 sf_k23 Bx4_266
          refine pm_R_op pm_M24 (pc' := 74) (st' := [.int (-1)]) rfl rfl rfl ?_
          exact pm_R_ret pm_M24 (r := some (.int (-1))) rfl rfl (K (-1) (sf_weak sf_kn1 (by decide) (by decide)))
        · have B273 : sf_B 0 4 x2_266 := ⟨Bx2_266.1, cl_wC10 X_266 (sf_leL (Int32.not_lt.mp c271) Bx4_266 sf_k23)⟩
          have B274 : sf_B 0 23 x4_266 := sf_leL (Int32.not_lt.mp c271) Bx4_266 sf_k23
          have B275 : sf_B 0 23 x3_266 := sf_leT R0_266 Bx3_266 B274
          refine pm_R_lo pm_M24 (pc' := 28) rfl rfl rfl ?_
          refine pm_R_lo pm_M24 (pc' := 29) rfl rfl rfl ?_
          refine cl_R_cvS pm_M24 (pc' := 32) (a := 10) (ra := []) (rest := [.int x4_266]) (ls' := [.ref 10]) rfl rfl (Or.inl rfl) pm_M25 (T_266.sw10 G) rfl (by decide) (by decide) rfl rfl (Nat.le_of_ble_eq_true rfl) rfl rfl ?_
          refine cl_e25 (d := d + 4) (s := 10) (v := 23) (by decide) (by decide) (T_266.sw10 G) (T_266.sb10 G) rfl (by decide) ?_
          show pm_R _ 24 32 [.ref 30, .ref 10, .int x2_266, .int x3_266, .int x4_266] [.int 23, .int x4_266] _ _
          refine pm_R_icmp pm_M24 (t := 46) (pc' := 35) rfl rfl rfl (fun c276 => ?_) (fun c276 => ?_)
          · have B277 : sf_B 23 23 x4_266 := sf_eqL c276 sf_k23
            refine pm_R_lo pm_M24 (pc' := 47) rfl rfl rfl ?_
            refine pm_R_lo pm_M24 (pc' := 48) rfl rfl rfl ?_
            refine pm_R_lo pm_M24 (pc' := 49) rfl rfl rfl ?_
            refine pm_R_lo pm_M24 (pc' := 51) rfl rfl rfl ?_
            refine pm_R_cv pm_M24 (pc' := 54) (a := 30) (ra := [.int x4_266, .int x3_266, .ref 10]) (rest := []) (ls' := [.ref 30, .ref 10, .int x3_266, .int x4_266, pm_no]) rfl rfl (Or.inl rfl) pm_M36 T_266.e30 rfl (by decide) (T_266.lt (by decide)) rfl rfl (Nat.le_of_ble_eq_true rfl) rfl rfl ?_
            refine cl_c36_10 (d := d + 0) G T_266 (sf_weak B275 (by decide) (by decide)) (sf_weak B277 (by decide) (by decide)) (fun r278 B279 => ?_)
            show pm_R _ 24 54 [.ref 30, .ref 10, .int x2_266, .int x3_266, .int x4_266] [.int r278] _ _
            refine pm_R_ifc pm_M24 (t := 59) (pc' := 57) rfl rfl rfl (fun c285 => ?_) (fun c285 => ?_)
            · have B286 : sf_B 0 0 r278 := sf_eqL c285 sf_k0
              refine sf_R_iinc pm_M24 (pc' := 62) (ls' := fun z => [.ref 30, .ref 10, .int z, .int x3_266, .int x4_266]) rfl B273 rfl (by decide) (by decide) (by decide) (fun _ => rfl) rfl (fun z287 e288 B289 => ?_)
              show pm_R _ 24 62 [.ref 30, .ref 10, .int z287, .int x3_266, .int x4_266] [] _ _
              refine pm_R_lo pm_M24 (pc' := 64) rfl rfl rfl ?_
              refine pm_R_op pm_M24 (pc' := 65) (st' := [.int 1, .int x4_266]) rfl rfl rfl ?_
              refine sf_R_iadd pm_M24 (pc' := 66) rfl rfl B277 sf_k1 (by decide) (by decide) (fun z290 e291 B292 => ?_)
              refine pm_R_lo pm_M24 (pc' := 67) (ls' := [.ref 30, .ref 10, .int z287, .int z290, .int x4_266]) (st' := []) rfl rfl rfl ?_
              refine sf_R_iinc pm_M24 (pc' := 70) (ls' := fun z => [.ref 30, .ref 10, .int z287, .int z290, .int z]) rfl B277 rfl (by decide) (by decide) (by decide) (fun _ => rfl) rfl (fun z293 e294 B295 => ?_)
              show pm_R _ 24 70 [.ref 30, .ref 10, .int z287, .int z290, .int z293] [] _ _
              refine pm_R_br pm_M24 (pc' := 17) rfl rfl ?_
              exact ih_266 _ (sf_up hN_266 e294 B277 (by decide) (by decide)) h_266 m_266 z287 z290 z293 T_266 F_266 W_266 (sf_weak B289 (by decide) (by decide)) (sf_weak B292 (by decide) (by decide)) (sf_weak B295 (by decide) (by decide)) (cl_aux55 _ _ _ _ e291 e294 B277.1 B277.2 R0_266) (cl_wA10 X_266 (sf_weak B277 (by decide) (by decide)) (Or.inl c276) e288 e294) rfl
            · have B296 : sf_B 1 1 r278 := sf_neL0 c285 sf_k0 B279
              refine pm_R_lo pm_M24 (pc' := 58) rfl rfl rfl ?_
              exact pm_R_ret pm_M24 (r := some (.int x2_266)) rfl (pm_ret_i _) (K x2_266 (sf_weak B273 (by decide) (by decide)))
          · have B297 : sf_B 0 22 x4_266 := sf_neH0 c276 sf_k23 B274
            have B298 : sf_B 0 22 x3_266 := sf_leT R0_266 B275 B297
            refine pm_R_lo pm_M24 (pc' := 36) rfl rfl rfl ?_
            refine pm_R_lo pm_M24 (pc' := 38) rfl rfl rfl ?_
            refine cl_R_cvS pm_M24 (pc' := 41) (a := 10) (ra := [.int x4_266]) (rest := []) (ls' := [.ref 10, .int x4_266]) rfl rfl (Or.inl rfl) pm_M27 (T_266.sw10 G) rfl (by decide) (by decide) rfl rfl (Nat.le_of_ble_eq_true rfl) rfl rfl ?_
            refine cl_e27 (d := d + 1) (s := 10) (v := 23) (by decide) (by decide) (T_266.sw10 G) (T_266.sb10 G) rfl (sf_in B297 (by decide) (by decide)) B297.1 (Int.lt_of_le_of_lt B297.2 (by decide)) (cl_ch10 B297).1 (cl_ch10 B297).2 ?_
            show pm_R _ 24 41 [.ref 30, .ref 10, .int x2_266, .int x3_266, .int x4_266] [.int ((pm_sby.getD 3 []).getD (Int32.toNatClampNeg x4_266) 0)] _ _
            refine pm_R_op pm_M24 (pc' := 43) (st' := [.int 32, .int ((pm_sby.getD 3 []).getD (Int32.toNatClampNeg x4_266) 0)]) rfl rfl rfl ?_
            refine pm_R_icmp pm_M24 (t := 67) (pc' := 46) rfl rfl rfl (fun c299 => ?_) (fun c299 => ?_)
            · skip
              refine sf_R_iinc pm_M24 (pc' := 70) (ls' := fun z => [.ref 30, .ref 10, .int x2_266, .int x3_266, .int z]) rfl B297 rfl (by decide) (by decide) (by decide) (fun _ => rfl) rfl (fun z300 e301 B302 => ?_)
              show pm_R _ 24 70 [.ref 30, .ref 10, .int x2_266, .int x3_266, .int z300] [] _ _
              refine pm_R_br pm_M24 (pc' := 17) rfl rfl ?_
              exact ih_266 _ (sf_up hN_266 e301 B297 (by decide) (by decide)) h_266 m_266 x2_266 x3_266 z300 T_266 F_266 W_266 (sf_weak B273 (by decide) (by decide)) (sf_weak B298 (by decide) (by decide)) (sf_weak B302 (by decide) (by decide)) (cl_aux56 _ _ _ e301 B298.1 B298.2 B297.1 B297.2 R0_266) (cl_wB10 X_266 (sf_weak B297 (by decide) (by decide)) e301) rfl
            · have B303 : sf_B 32 32 ((pm_sby.getD 3 []).getD (Int32.toNatClampNeg x4_266) 0) := sf_eqL (Classical.not_not.mp c299) sf_k32
              refine pm_R_lo pm_M24 (pc' := 47) rfl rfl rfl ?_
              refine pm_R_lo pm_M24 (pc' := 48) rfl rfl rfl ?_
              refine pm_R_lo pm_M24 (pc' := 49) rfl rfl rfl ?_
              refine pm_R_lo pm_M24 (pc' := 51) rfl rfl rfl ?_
              refine pm_R_cv pm_M24 (pc' := 54) (a := 30) (ra := [.int x4_266, .int x3_266, .ref 10]) (rest := []) (ls' := [.ref 30, .ref 10, .int x3_266, .int x4_266, pm_no]) rfl rfl (Or.inl rfl) pm_M36 T_266.e30 rfl (by decide) (T_266.lt (by decide)) rfl rfl (Nat.le_of_ble_eq_true rfl) rfl rfl ?_
              refine cl_c36_10 (d := d + 0) G T_266 (sf_weak B298 (by decide) (by decide)) (sf_weak B297 (by decide) (by decide)) (fun r304 B305 => ?_)
              show pm_R _ 24 54 [.ref 30, .ref 10, .int x2_266, .int x3_266, .int x4_266] [.int r304] _ _
              refine pm_R_ifc pm_M24 (t := 59) (pc' := 57) rfl rfl rfl (fun c311 => ?_) (fun c311 => ?_)
              · have B312 : sf_B 0 0 r304 := sf_eqL c311 sf_k0
                refine sf_R_iinc pm_M24 (pc' := 62) (ls' := fun z => [.ref 30, .ref 10, .int z, .int x3_266, .int x4_266]) rfl B273 rfl (by decide) (by decide) (by decide) (fun _ => rfl) rfl (fun z313 e314 B315 => ?_)
                show pm_R _ 24 62 [.ref 30, .ref 10, .int z313, .int x3_266, .int x4_266] [] _ _
                refine pm_R_lo pm_M24 (pc' := 64) rfl rfl rfl ?_
                refine pm_R_op pm_M24 (pc' := 65) (st' := [.int 1, .int x4_266]) rfl rfl rfl ?_
                refine sf_R_iadd pm_M24 (pc' := 66) rfl rfl B297 sf_k1 (by decide) (by decide) (fun z316 e317 B318 => ?_)
                refine pm_R_lo pm_M24 (pc' := 67) (ls' := [.ref 30, .ref 10, .int z313, .int z316, .int x4_266]) (st' := []) rfl rfl rfl ?_
                refine sf_R_iinc pm_M24 (pc' := 70) (ls' := fun z => [.ref 30, .ref 10, .int z313, .int z316, .int z]) rfl B297 rfl (by decide) (by decide) (by decide) (fun _ => rfl) rfl (fun z319 e320 B321 => ?_)
                show pm_R _ 24 70 [.ref 30, .ref 10, .int z313, .int z316, .int z319] [] _ _
                refine pm_R_br pm_M24 (pc' := 17) rfl rfl ?_
                exact ih_266 _ (sf_up hN_266 e320 B297 (by decide) (by decide)) h_266 m_266 z313 z316 z319 T_266 F_266 W_266 (sf_weak B315 (by decide) (by decide)) (sf_weak B318 (by decide) (by decide)) (sf_weak B321 (by decide) (by decide)) (cl_aux57 _ _ _ _ e317 e320 B297.1 B297.2 R0_266) (cl_wA10 X_266 (sf_weak B297 (by decide) (by decide)) (Or.inr (Classical.not_not.mp c299)) e314 e320) rfl
              · have B322 : sf_B 1 1 r304 := sf_neL0 c311 sf_k0 B305
                refine pm_R_lo pm_M24 (pc' := 58) rfl rfl rfl ?_
                exact pm_R_ret pm_M24 (r := some (.int x2_266)) rfl (pm_ret_i _) (K x2_266 (sf_weak B273 (by decide) (by decide)))
    exact L_266 _ h m 0 0 0 T (cl_F.refl (ck := ck) (A := []) (n := 0) (s := 0) T.1) (rf_W.refl _ _) (sf_weak sf_k0 (by decide) (by decide)) (sf_weak sf_k0 (by decide) (by decide)) (sf_weak sf_k0 (by decide) (by decide)) (by decide) (by decide) rfl
  · skip
    refine pm_R_op pm_M24 (pc' := 9) (st' := [.int (-1)]) rfl rfl rfl ?_
    exact pm_R_ret pm_M24 (r := some (.int (-1))) rfl rfl (K (-1) (sf_weak sf_kn1 (by decide) (by decide)))
