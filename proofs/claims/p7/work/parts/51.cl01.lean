section
theorem cl_aux49 (v0 v1 v2 v3 : Int) (q0 : v0 = v1 + 1) (q1 : v2 = v1 + 1) (q2 : 20 ≤ v1) (q3 : v1 ≤ 20) (q4 : v3 ≤ v1) : v0 ≤ v2 := by omega
theorem cl_aux50 (v0 v1 v2 : Int) (q0 : v0 = v1 + 1) (q1 : 0 ≤ v2) (q2 : v2 ≤ 19) (q3 : 0 ≤ v1) (q4 : v1 ≤ 19) (q5 : v2 ≤ v1) : v2 ≤ v0 := by omega
theorem cl_aux51 (v0 v1 v2 v3 : Int) (q0 : v0 = v1 + 1) (q1 : v2 = v1 + 1) (q2 : 0 ≤ v1) (q3 : v1 ≤ 19) (q4 : v3 ≤ v1) : v0 ≤ v2 := by omega
set_option maxRecDepth 100000 in
set_option maxHeartbeats 4000000 in
/-- SilentTable$Tokens.wordAmong -/
theorem cl_c24_8 {d : Nat} {ck : cl_K} {E : Nat → pm_E} {m : Nat → Int32} {o : Nat → Option Nat} {h : pm_H} {Q : Option Value → pm_H → Prop}  (G : cl_G ck E) (T : cl_T ck E m o h)  (K : ∀ (r : Int32), sf_B (-1) 3 r → Q (some (.int r)) h) : pm_R (d + 6) 24 0 [.ref 30, .ref 8, pm_no, pm_no, pm_no] [] h Q := by
  refine pm_R_lo pm_M24 (pc_q := 1) rfl rfl rfl ?_
  have B1 : sf_B 0 4 (m 12) := T.B 12
  refine pm_R_get pm_M24 (pc_q := 4) (v := .int (m 12)) rfl rfl T.e30 (by decide) (T.lt (by decide)) rfl rfl ?_
  refine pm_R_op pm_M24 (pc_q := 5) (st_q := [.int 1, .int (m 12)]) rfl rfl rfl ?_
  refine pm_R_icmp pm_M24 (t := 10) (pc_q := 8) rfl rfl rfl (fun c2 => ?_) (fun c2 => ?_)
  · have B3 : sf_B 1 1 (m 12) := sf_eqL c2 sf_k1
    refine pm_R_op pm_M24 (pc_q := 11) (st_q := [.int 0]) rfl rfl rfl ?_
    refine pm_R_lo pm_M24 (pc_q := 12) (ls_q := [.ref 30, .ref 8, .int 0, pm_no, pm_no]) (st_q := []) rfl rfl rfl ?_
    refine pm_R_op pm_M24 (pc_q := 13) (st_q := [.int 0]) rfl rfl rfl ?_
    refine pm_R_lo pm_M24 (pc_q := 14) (ls_q := [.ref 30, .ref 8, .int 0, .int 0, pm_no]) (st_q := []) rfl rfl rfl ?_
    refine pm_R_op pm_M24 (pc_q := 15) (st_q := [.int 0]) rfl rfl rfl ?_
    refine pm_R_lo pm_M24 (pc_q := 17) (ls_q := [.ref 30, .ref 8, .int 0, .int 0, .int 0]) (st_q := []) rfl rfl rfl ?_
    have L_254 : ∀ (N : Nat) (x2_254 : Int32) (x3_254 : Int32) (x4_254 : Int32), sf_B 0 2147483647 x2_254 → sf_B 0 21 x3_254 → sf_B 0 21 x4_254 → x3_254.toInt ≤ x4_254.toInt → x2_254.toInt ≤ (cl_bk (pm_sby.getD 1 []) (Int32.toNatClampNeg x4_254) : Int) → (21 - x4_254.toInt).toNat = N → pm_R (d + 6) 24 17 [.ref 30, .ref 8, .int x2_254, .int x3_254, .int x4_254] [] h Q := by
      intro N
      induction N using Nat.strongRecOn with
      | ind N ih_254 =>
        intro x2_254 x3_254 x4_254 Bx2_254 Bx3_254 Bx4_254 R0_254 X_254 hN_254
        refine pm_R_lo pm_M24 (pc_q := 19) rfl rfl rfl ?_
        refine pm_R_lo pm_M24 (pc_q := 20) rfl rfl rfl ?_
        refine cl_R_cvS pm_M24 (pc_q := 23) (a := 8) (ra := []) (rest := [.int x4_254]) (ls_q := [.ref 8]) rfl rfl (Or.inl rfl) pm_M25 (T.sw8 G) rfl (by decide) (by decide) rfl rfl (Nat.le_of_ble_eq_true rfl) rfl rfl ?_
        refine cl_e25 (d := d + 4) (s := 8) (v := 20) (by decide) (by decide) (T.sw8 G) (T.sb8 G) rfl (by decide) ?_
        show pm_R _ 24 23 [.ref 30, .ref 8, .int x2_254, .int x3_254, .int x4_254] [.int 20, .int x4_254] _ _
        refine pm_R_icmp pm_M24 (t := 73) (pc_q := 26) rfl rfl rfl (fun c255 => ?_) (fun c255 => ?_)
        · have B256 : sf_B 21 21 x4_254 := sf_ltR c255 sf_k20 Bx4_254
          refine pm_R_op pm_M24 (pc_q := 74) (st_q := [.int (-1)]) rfl rfl rfl ?_
          exact pm_R_ret pm_M24 (r := some (.int (-1))) rfl rfl (K (-1) (sf_weak sf_kn1 (by decide) (by decide)))
        · have B257 : sf_B 0 3 x2_254 := ⟨Bx2_254.1, cl_wC8 X_254 (sf_leL (Int32.not_lt.mp c255) Bx4_254 sf_k20)⟩
          have B258 : sf_B 0 20 x4_254 := sf_leL (Int32.not_lt.mp c255) Bx4_254 sf_k20
          have B259 : sf_B 0 20 x3_254 := sf_leT R0_254 Bx3_254 B258
          refine pm_R_lo pm_M24 (pc_q := 28) rfl rfl rfl ?_
          refine pm_R_lo pm_M24 (pc_q := 29) rfl rfl rfl ?_
          refine cl_R_cvS pm_M24 (pc_q := 32) (a := 8) (ra := []) (rest := [.int x4_254]) (ls_q := [.ref 8]) rfl rfl (Or.inl rfl) pm_M25 (T.sw8 G) rfl (by decide) (by decide) rfl rfl (Nat.le_of_ble_eq_true rfl) rfl rfl ?_
          refine cl_e25 (d := d + 4) (s := 8) (v := 20) (by decide) (by decide) (T.sw8 G) (T.sb8 G) rfl (by decide) ?_
          show pm_R _ 24 32 [.ref 30, .ref 8, .int x2_254, .int x3_254, .int x4_254] [.int 20, .int x4_254] _ _
          refine pm_R_icmp pm_M24 (t := 46) (pc_q := 35) rfl rfl rfl (fun c260 => ?_) (fun c260 => ?_)
          · have B261 : sf_B 20 20 x4_254 := sf_eqL c260 sf_k20
            refine pm_R_lo pm_M24 (pc_q := 47) rfl rfl rfl ?_
            refine pm_R_lo pm_M24 (pc_q := 48) rfl rfl rfl ?_
            refine pm_R_lo pm_M24 (pc_q := 49) rfl rfl rfl ?_
            refine pm_R_lo pm_M24 (pc_q := 51) rfl rfl rfl ?_
            refine pm_R_cv pm_M24 (pc_q := 54) (a := 30) (ra := [.int x4_254, .int x3_254, .ref 8]) (rest := []) (ls_q := [.ref 30, .ref 8, .int x3_254, .int x4_254, pm_no]) rfl rfl (Or.inl rfl) pm_M36 T.e30 rfl (by decide) (T.lt (by decide)) rfl rfl (Nat.le_of_ble_eq_true rfl) rfl rfl ?_
            refine cl_c36_8 (d := d + 0) G T (sf_weak B259 (by decide) (by decide)) (sf_weak B261 (by decide) (by decide)) (fun r262 B263 => ?_)
            show pm_R _ 24 54 [.ref 30, .ref 8, .int x2_254, .int x3_254, .int x4_254] [.int r262] _ _
            refine pm_R_ifc pm_M24 (t := 59) (pc_q := 57) rfl rfl rfl (fun c269 => ?_) (fun c269 => ?_)
            · have B270 : sf_B 0 0 r262 := sf_eqL c269 sf_k0
              refine sf_R_iinc pm_M24 (pc_q := 62) (ls_q := fun z => [.ref 30, .ref 8, .int z, .int x3_254, .int x4_254]) rfl B257 rfl (by decide) (by decide) (by decide) (fun _ => rfl) rfl (fun z271 e272 B273 => ?_)
              show pm_R _ 24 62 [.ref 30, .ref 8, .int z271, .int x3_254, .int x4_254] [] _ _
              refine pm_R_lo pm_M24 (pc_q := 64) rfl rfl rfl ?_
              refine pm_R_op pm_M24 (pc_q := 65) (st_q := [.int 1, .int x4_254]) rfl rfl rfl ?_
              refine sf_R_iadd pm_M24 (pc_q := 66) rfl rfl B261 sf_k1 (by decide) (by decide) (fun z274 e275 B276 => ?_)
              refine pm_R_lo pm_M24 (pc_q := 67) (ls_q := [.ref 30, .ref 8, .int z271, .int z274, .int x4_254]) (st_q := []) rfl rfl rfl ?_
              refine sf_R_iinc pm_M24 (pc_q := 70) (ls_q := fun z => [.ref 30, .ref 8, .int z271, .int z274, .int z]) rfl B261 rfl (by decide) (by decide) (by decide) (fun _ => rfl) rfl (fun z277 e278 B279 => ?_)
              show pm_R _ 24 70 [.ref 30, .ref 8, .int z271, .int z274, .int z277] [] _ _
              refine pm_R_br pm_M24 (pc_q := 17) rfl rfl ?_
              exact ih_254 _ (sf_up hN_254 e278 B261 (by decide) (by decide)) z271 z274 z277 (sf_weak B273 (by decide) (by decide)) (sf_weak B276 (by decide) (by decide)) (sf_weak B279 (by decide) (by decide)) (cl_aux49 _ _ _ _ e275 e278 B261.1 B261.2 R0_254) (cl_wA8 X_254 (sf_weak B261 (by decide) (by decide)) (Or.inl c260) e272 e278) rfl
            · have B280 : sf_B 1 1 r262 := sf_neL0 c269 sf_k0 B263
              refine pm_R_lo pm_M24 (pc_q := 58) rfl rfl rfl ?_
              exact pm_R_ret pm_M24 (r := some (.int x2_254)) rfl (pm_ret_i _) (K x2_254 (sf_weak B257 (by decide) (by decide)))
          · have B281 : sf_B 0 19 x4_254 := sf_neH0 c260 sf_k20 B258
            have B282 : sf_B 0 19 x3_254 := sf_leT R0_254 B259 B281
            refine pm_R_lo pm_M24 (pc_q := 36) rfl rfl rfl ?_
            refine pm_R_lo pm_M24 (pc_q := 38) rfl rfl rfl ?_
            refine cl_R_cvS pm_M24 (pc_q := 41) (a := 8) (ra := [.int x4_254]) (rest := []) (ls_q := [.ref 8, .int x4_254]) rfl rfl (Or.inl rfl) pm_M27 (T.sw8 G) rfl (by decide) (by decide) rfl rfl (Nat.le_of_ble_eq_true rfl) rfl rfl ?_
            refine cl_e27 (d := d + 1) (s := 8) (v := 20) (by decide) (by decide) (T.sw8 G) (T.sb8 G) rfl (sf_in B281 (by decide) (by decide)) B281.1 (Int.lt_of_le_of_lt B281.2 (by decide)) (cl_ch8 B281).1 (cl_ch8 B281).2 ?_
            show pm_R _ 24 41 [.ref 30, .ref 8, .int x2_254, .int x3_254, .int x4_254] [.int ((pm_sby.getD 1 []).getD (Int32.toNatClampNeg x4_254) 0)] _ _
            refine pm_R_op pm_M24 (pc_q := 43) (st_q := [.int 32, .int ((pm_sby.getD 1 []).getD (Int32.toNatClampNeg x4_254) 0)]) rfl rfl rfl ?_
            refine pm_R_icmp pm_M24 (t := 67) (pc_q := 46) rfl rfl rfl (fun c283 => ?_) (fun c283 => ?_)
            · skip
              refine sf_R_iinc pm_M24 (pc_q := 70) (ls_q := fun z => [.ref 30, .ref 8, .int x2_254, .int x3_254, .int z]) rfl B281 rfl (by decide) (by decide) (by decide) (fun _ => rfl) rfl (fun z284 e285 B286 => ?_)
              show pm_R _ 24 70 [.ref 30, .ref 8, .int x2_254, .int x3_254, .int z284] [] _ _
              refine pm_R_br pm_M24 (pc_q := 17) rfl rfl ?_
              exact ih_254 _ (sf_up hN_254 e285 B281 (by decide) (by decide)) x2_254 x3_254 z284 (sf_weak B257 (by decide) (by decide)) (sf_weak B282 (by decide) (by decide)) (sf_weak B286 (by decide) (by decide)) (cl_aux50 _ _ _ e285 B282.1 B282.2 B281.1 B281.2 R0_254) (cl_wB8 X_254 (sf_weak B281 (by decide) (by decide)) e285) rfl
            · have B287 : sf_B 32 32 ((pm_sby.getD 1 []).getD (Int32.toNatClampNeg x4_254) 0) := sf_eqL (Classical.not_not.mp c283) sf_k32
              refine pm_R_lo pm_M24 (pc_q := 47) rfl rfl rfl ?_
              refine pm_R_lo pm_M24 (pc_q := 48) rfl rfl rfl ?_
              refine pm_R_lo pm_M24 (pc_q := 49) rfl rfl rfl ?_
              refine pm_R_lo pm_M24 (pc_q := 51) rfl rfl rfl ?_
              refine pm_R_cv pm_M24 (pc_q := 54) (a := 30) (ra := [.int x4_254, .int x3_254, .ref 8]) (rest := []) (ls_q := [.ref 30, .ref 8, .int x3_254, .int x4_254, pm_no]) rfl rfl (Or.inl rfl) pm_M36 T.e30 rfl (by decide) (T.lt (by decide)) rfl rfl (Nat.le_of_ble_eq_true rfl) rfl rfl ?_
              refine cl_c36_8 (d := d + 0) G T (sf_weak B282 (by decide) (by decide)) (sf_weak B281 (by decide) (by decide)) (fun r288 B289 => ?_)
              show pm_R _ 24 54 [.ref 30, .ref 8, .int x2_254, .int x3_254, .int x4_254] [.int r288] _ _
              refine pm_R_ifc pm_M24 (t := 59) (pc_q := 57) rfl rfl rfl (fun c295 => ?_) (fun c295 => ?_)
              · have B296 : sf_B 0 0 r288 := sf_eqL c295 sf_k0
                refine sf_R_iinc pm_M24 (pc_q := 62) (ls_q := fun z => [.ref 30, .ref 8, .int z, .int x3_254, .int x4_254]) rfl B257 rfl (by decide) (by decide) (by decide) (fun _ => rfl) rfl (fun z297 e298 B299 => ?_)
                show pm_R _ 24 62 [.ref 30, .ref 8, .int z297, .int x3_254, .int x4_254] [] _ _
                refine pm_R_lo pm_M24 (pc_q := 64) rfl rfl rfl ?_
                refine pm_R_op pm_M24 (pc_q := 65) (st_q := [.int 1, .int x4_254]) rfl rfl rfl ?_
                refine sf_R_iadd pm_M24 (pc_q := 66) rfl rfl B281 sf_k1 (by decide) (by decide) (fun z300 e301 B302 => ?_)
                refine pm_R_lo pm_M24 (pc_q := 67) (ls_q := [.ref 30, .ref 8, .int z297, .int z300, .int x4_254]) (st_q := []) rfl rfl rfl ?_
                refine sf_R_iinc pm_M24 (pc_q := 70) (ls_q := fun z => [.ref 30, .ref 8, .int z297, .int z300, .int z]) rfl B281 rfl (by decide) (by decide) (by decide) (fun _ => rfl) rfl (fun z303 e304 B305 => ?_)
                show pm_R _ 24 70 [.ref 30, .ref 8, .int z297, .int z300, .int z303] [] _ _
                refine pm_R_br pm_M24 (pc_q := 17) rfl rfl ?_
                exact ih_254 _ (sf_up hN_254 e304 B281 (by decide) (by decide)) z297 z300 z303 (sf_weak B299 (by decide) (by decide)) (sf_weak B302 (by decide) (by decide)) (sf_weak B305 (by decide) (by decide)) (cl_aux51 _ _ _ _ e301 e304 B281.1 B281.2 R0_254) (cl_wA8 X_254 (sf_weak B281 (by decide) (by decide)) (Or.inr (Classical.not_not.mp c283)) e298 e304) rfl
              · have B306 : sf_B 1 1 r288 := sf_neL0 c295 sf_k0 B289
                refine pm_R_lo pm_M24 (pc_q := 58) rfl rfl rfl ?_
                exact pm_R_ret pm_M24 (r := some (.int x2_254)) rfl (pm_ret_i _) (K x2_254 (sf_weak B257 (by decide) (by decide)))
    exact L_254 _ 0 0 0 (sf_weak sf_k0 (by decide) (by decide)) (sf_weak sf_k0 (by decide) (by decide)) (sf_weak sf_k0 (by decide) (by decide)) (by decide) (by decide) rfl
  · skip
    refine pm_R_op pm_M24 (pc_q := 9) (st_q := [.int (-1)]) rfl rfl rfl ?_
    exact pm_R_ret pm_M24 (r := some (.int (-1))) rfl rfl (K (-1) (sf_weak sf_kn1 (by decide) (by decide)))

theorem cl_aux52 (v0 v1 v2 v3 : Int) (q0 : v0 = v1 + 1) (q1 : v2 = v1 + 1) (q2 : 33 ≤ v1) (q3 : v1 ≤ 33) (q4 : v3 ≤ v1) : v0 ≤ v2 := by omega
theorem cl_aux53 (v0 v1 v2 : Int) (q0 : v0 = v1 + 1) (q1 : 0 ≤ v2) (q2 : v2 ≤ 32) (q3 : 0 ≤ v1) (q4 : v1 ≤ 32) (q5 : v2 ≤ v1) : v2 ≤ v0 := by omega
theorem cl_aux54 (v0 v1 v2 v3 : Int) (q0 : v0 = v1 + 1) (q1 : v2 = v1 + 1) (q2 : 0 ≤ v1) (q3 : v1 ≤ 32) (q4 : v3 ≤ v1) : v0 ≤ v2 := by omega
set_option maxRecDepth 100000 in
set_option maxHeartbeats 4000000 in
/-- SilentTable$Tokens.wordAmong -/
theorem cl_c24_9 {d : Nat} {ck : cl_K} {E : Nat → pm_E} {m : Nat → Int32} {o : Nat → Option Nat} {h : pm_H} {Q : Option Value → pm_H → Prop}  (G : cl_G ck E) (T : cl_T ck E m o h)  (K : ∀ (r : Int32), sf_B (-1) 5 r → Q (some (.int r)) h) : pm_R (d + 6) 24 0 [.ref 30, .ref 9, pm_no, pm_no, pm_no] [] h Q := by
  refine pm_R_lo pm_M24 (pc_q := 1) rfl rfl rfl ?_
  have B1 : sf_B 0 4 (m 12) := T.B 12
  refine pm_R_get pm_M24 (pc_q := 4) (v := .int (m 12)) rfl rfl T.e30 (by decide) (T.lt (by decide)) rfl rfl ?_
  refine pm_R_op pm_M24 (pc_q := 5) (st_q := [.int 1, .int (m 12)]) rfl rfl rfl ?_
  refine pm_R_icmp pm_M24 (t := 10) (pc_q := 8) rfl rfl rfl (fun c2 => ?_) (fun c2 => ?_)
  · have B3 : sf_B 1 1 (m 12) := sf_eqL c2 sf_k1
    refine pm_R_op pm_M24 (pc_q := 11) (st_q := [.int 0]) rfl rfl rfl ?_
    refine pm_R_lo pm_M24 (pc_q := 12) (ls_q := [.ref 30, .ref 9, .int 0, pm_no, pm_no]) (st_q := []) rfl rfl rfl ?_
    refine pm_R_op pm_M24 (pc_q := 13) (st_q := [.int 0]) rfl rfl rfl ?_
    refine pm_R_lo pm_M24 (pc_q := 14) (ls_q := [.ref 30, .ref 9, .int 0, .int 0, pm_no]) (st_q := []) rfl rfl rfl ?_
    refine pm_R_op pm_M24 (pc_q := 15) (st_q := [.int 0]) rfl rfl rfl ?_
    refine pm_R_lo pm_M24 (pc_q := 17) (ls_q := [.ref 30, .ref 9, .int 0, .int 0, .int 0]) (st_q := []) rfl rfl rfl ?_
    have L_254 : ∀ (N : Nat) (x2_254 : Int32) (x3_254 : Int32) (x4_254 : Int32), sf_B 0 2147483647 x2_254 → sf_B 0 34 x3_254 → sf_B 0 34 x4_254 → x3_254.toInt ≤ x4_254.toInt → x2_254.toInt ≤ (cl_bk (pm_sby.getD 2 []) (Int32.toNatClampNeg x4_254) : Int) → (34 - x4_254.toInt).toNat = N → pm_R (d + 6) 24 17 [.ref 30, .ref 9, .int x2_254, .int x3_254, .int x4_254] [] h Q := by
      intro N
      induction N using Nat.strongRecOn with
      | ind N ih_254 =>
        intro x2_254 x3_254 x4_254 Bx2_254 Bx3_254 Bx4_254 R0_254 X_254 hN_254
        refine pm_R_lo pm_M24 (pc_q := 19) rfl rfl rfl ?_
        refine pm_R_lo pm_M24 (pc_q := 20) rfl rfl rfl ?_
        refine cl_R_cvS pm_M24 (pc_q := 23) (a := 9) (ra := []) (rest := [.int x4_254]) (ls_q := [.ref 9]) rfl rfl (Or.inl rfl) pm_M25 (T.sw9 G) rfl (by decide) (by decide) rfl rfl (Nat.le_of_ble_eq_true rfl) rfl rfl ?_
        refine cl_e25 (d := d + 4) (s := 9) (v := 33) (by decide) (by decide) (T.sw9 G) (T.sb9 G) rfl (by decide) ?_
        show pm_R _ 24 23 [.ref 30, .ref 9, .int x2_254, .int x3_254, .int x4_254] [.int 33, .int x4_254] _ _
        refine pm_R_icmp pm_M24 (t := 73) (pc_q := 26) rfl rfl rfl (fun c255 => ?_) (fun c255 => ?_)
        · have B256 : sf_B 34 34 x4_254 := sf_ltR c255 sf_k33 Bx4_254
          refine pm_R_op pm_M24 (pc_q := 74) (st_q := [.int (-1)]) rfl rfl rfl ?_
          exact pm_R_ret pm_M24 (r := some (.int (-1))) rfl rfl (K (-1) (sf_weak sf_kn1 (by decide) (by decide)))
        · have B257 : sf_B 0 5 x2_254 := ⟨Bx2_254.1, cl_wC9 X_254 (sf_leL (Int32.not_lt.mp c255) Bx4_254 sf_k33)⟩
          have B258 : sf_B 0 33 x4_254 := sf_leL (Int32.not_lt.mp c255) Bx4_254 sf_k33
          have B259 : sf_B 0 33 x3_254 := sf_leT R0_254 Bx3_254 B258
          refine pm_R_lo pm_M24 (pc_q := 28) rfl rfl rfl ?_
          refine pm_R_lo pm_M24 (pc_q := 29) rfl rfl rfl ?_
          refine cl_R_cvS pm_M24 (pc_q := 32) (a := 9) (ra := []) (rest := [.int x4_254]) (ls_q := [.ref 9]) rfl rfl (Or.inl rfl) pm_M25 (T.sw9 G) rfl (by decide) (by decide) rfl rfl (Nat.le_of_ble_eq_true rfl) rfl rfl ?_
          refine cl_e25 (d := d + 4) (s := 9) (v := 33) (by decide) (by decide) (T.sw9 G) (T.sb9 G) rfl (by decide) ?_
          show pm_R _ 24 32 [.ref 30, .ref 9, .int x2_254, .int x3_254, .int x4_254] [.int 33, .int x4_254] _ _
          refine pm_R_icmp pm_M24 (t := 46) (pc_q := 35) rfl rfl rfl (fun c260 => ?_) (fun c260 => ?_)
          · have B261 : sf_B 33 33 x4_254 := sf_eqL c260 sf_k33
            refine pm_R_lo pm_M24 (pc_q := 47) rfl rfl rfl ?_
            refine pm_R_lo pm_M24 (pc_q := 48) rfl rfl rfl ?_
            refine pm_R_lo pm_M24 (pc_q := 49) rfl rfl rfl ?_
            refine pm_R_lo pm_M24 (pc_q := 51) rfl rfl rfl ?_
            refine pm_R_cv pm_M24 (pc_q := 54) (a := 30) (ra := [.int x4_254, .int x3_254, .ref 9]) (rest := []) (ls_q := [.ref 30, .ref 9, .int x3_254, .int x4_254, pm_no]) rfl rfl (Or.inl rfl) pm_M36 T.e30 rfl (by decide) (T.lt (by decide)) rfl rfl (Nat.le_of_ble_eq_true rfl) rfl rfl ?_
            refine cl_c36_9 (d := d + 0) G T (sf_weak B259 (by decide) (by decide)) (sf_weak B261 (by decide) (by decide)) (fun r262 B263 => ?_)
            show pm_R _ 24 54 [.ref 30, .ref 9, .int x2_254, .int x3_254, .int x4_254] [.int r262] _ _
            refine pm_R_ifc pm_M24 (t := 59) (pc_q := 57) rfl rfl rfl (fun c269 => ?_) (fun c269 => ?_)
            · have B270 : sf_B 0 0 r262 := sf_eqL c269 sf_k0
              refine sf_R_iinc pm_M24 (pc_q := 62) (ls_q := fun z => [.ref 30, .ref 9, .int z, .int x3_254, .int x4_254]) rfl B257 rfl (by decide) (by decide) (by decide) (fun _ => rfl) rfl (fun z271 e272 B273 => ?_)
              show pm_R _ 24 62 [.ref 30, .ref 9, .int z271, .int x3_254, .int x4_254] [] _ _
              refine pm_R_lo pm_M24 (pc_q := 64) rfl rfl rfl ?_
              refine pm_R_op pm_M24 (pc_q := 65) (st_q := [.int 1, .int x4_254]) rfl rfl rfl ?_
              refine sf_R_iadd pm_M24 (pc_q := 66) rfl rfl B261 sf_k1 (by decide) (by decide) (fun z274 e275 B276 => ?_)
              refine pm_R_lo pm_M24 (pc_q := 67) (ls_q := [.ref 30, .ref 9, .int z271, .int z274, .int x4_254]) (st_q := []) rfl rfl rfl ?_
              refine sf_R_iinc pm_M24 (pc_q := 70) (ls_q := fun z => [.ref 30, .ref 9, .int z271, .int z274, .int z]) rfl B261 rfl (by decide) (by decide) (by decide) (fun _ => rfl) rfl (fun z277 e278 B279 => ?_)
              show pm_R _ 24 70 [.ref 30, .ref 9, .int z271, .int z274, .int z277] [] _ _
              refine pm_R_br pm_M24 (pc_q := 17) rfl rfl ?_
              exact ih_254 _ (sf_up hN_254 e278 B261 (by decide) (by decide)) z271 z274 z277 (sf_weak B273 (by decide) (by decide)) (sf_weak B276 (by decide) (by decide)) (sf_weak B279 (by decide) (by decide)) (cl_aux52 _ _ _ _ e275 e278 B261.1 B261.2 R0_254) (cl_wA9 X_254 (sf_weak B261 (by decide) (by decide)) (Or.inl c260) e272 e278) rfl
            · have B280 : sf_B 1 1 r262 := sf_neL0 c269 sf_k0 B263
              refine pm_R_lo pm_M24 (pc_q := 58) rfl rfl rfl ?_
              exact pm_R_ret pm_M24 (r := some (.int x2_254)) rfl (pm_ret_i _) (K x2_254 (sf_weak B257 (by decide) (by decide)))
          · have B281 : sf_B 0 32 x4_254 := sf_neH0 c260 sf_k33 B258
            have B282 : sf_B 0 32 x3_254 := sf_leT R0_254 B259 B281
            refine pm_R_lo pm_M24 (pc_q := 36) rfl rfl rfl ?_
            refine pm_R_lo pm_M24 (pc_q := 38) rfl rfl rfl ?_
            refine cl_R_cvS pm_M24 (pc_q := 41) (a := 9) (ra := [.int x4_254]) (rest := []) (ls_q := [.ref 9, .int x4_254]) rfl rfl (Or.inl rfl) pm_M27 (T.sw9 G) rfl (by decide) (by decide) rfl rfl (Nat.le_of_ble_eq_true rfl) rfl rfl ?_
            refine cl_e27 (d := d + 1) (s := 9) (v := 33) (by decide) (by decide) (T.sw9 G) (T.sb9 G) rfl (sf_in B281 (by decide) (by decide)) B281.1 (Int.lt_of_le_of_lt B281.2 (by decide)) (cl_ch9 B281).1 (cl_ch9 B281).2 ?_
            show pm_R _ 24 41 [.ref 30, .ref 9, .int x2_254, .int x3_254, .int x4_254] [.int ((pm_sby.getD 2 []).getD (Int32.toNatClampNeg x4_254) 0)] _ _
            refine pm_R_op pm_M24 (pc_q := 43) (st_q := [.int 32, .int ((pm_sby.getD 2 []).getD (Int32.toNatClampNeg x4_254) 0)]) rfl rfl rfl ?_
            refine pm_R_icmp pm_M24 (t := 67) (pc_q := 46) rfl rfl rfl (fun c283 => ?_) (fun c283 => ?_)
            · skip
              refine sf_R_iinc pm_M24 (pc_q := 70) (ls_q := fun z => [.ref 30, .ref 9, .int x2_254, .int x3_254, .int z]) rfl B281 rfl (by decide) (by decide) (by decide) (fun _ => rfl) rfl (fun z284 e285 B286 => ?_)
              show pm_R _ 24 70 [.ref 30, .ref 9, .int x2_254, .int x3_254, .int z284] [] _ _
              refine pm_R_br pm_M24 (pc_q := 17) rfl rfl ?_
              exact ih_254 _ (sf_up hN_254 e285 B281 (by decide) (by decide)) x2_254 x3_254 z284 (sf_weak B257 (by decide) (by decide)) (sf_weak B282 (by decide) (by decide)) (sf_weak B286 (by decide) (by decide)) (cl_aux53 _ _ _ e285 B282.1 B282.2 B281.1 B281.2 R0_254) (cl_wB9 X_254 (sf_weak B281 (by decide) (by decide)) e285) rfl
            · have B287 : sf_B 32 32 ((pm_sby.getD 2 []).getD (Int32.toNatClampNeg x4_254) 0) := sf_eqL (Classical.not_not.mp c283) sf_k32
              refine pm_R_lo pm_M24 (pc_q := 47) rfl rfl rfl ?_
              refine pm_R_lo pm_M24 (pc_q := 48) rfl rfl rfl ?_
              refine pm_R_lo pm_M24 (pc_q := 49) rfl rfl rfl ?_
              refine pm_R_lo pm_M24 (pc_q := 51) rfl rfl rfl ?_
              refine pm_R_cv pm_M24 (pc_q := 54) (a := 30) (ra := [.int x4_254, .int x3_254, .ref 9]) (rest := []) (ls_q := [.ref 30, .ref 9, .int x3_254, .int x4_254, pm_no]) rfl rfl (Or.inl rfl) pm_M36 T.e30 rfl (by decide) (T.lt (by decide)) rfl rfl (Nat.le_of_ble_eq_true rfl) rfl rfl ?_
              refine cl_c36_9 (d := d + 0) G T (sf_weak B282 (by decide) (by decide)) (sf_weak B281 (by decide) (by decide)) (fun r288 B289 => ?_)
              show pm_R _ 24 54 [.ref 30, .ref 9, .int x2_254, .int x3_254, .int x4_254] [.int r288] _ _
              refine pm_R_ifc pm_M24 (t := 59) (pc_q := 57) rfl rfl rfl (fun c295 => ?_) (fun c295 => ?_)
              · have B296 : sf_B 0 0 r288 := sf_eqL c295 sf_k0
                refine sf_R_iinc pm_M24 (pc_q := 62) (ls_q := fun z => [.ref 30, .ref 9, .int z, .int x3_254, .int x4_254]) rfl B257 rfl (by decide) (by decide) (by decide) (fun _ => rfl) rfl (fun z297 e298 B299 => ?_)
                show pm_R _ 24 62 [.ref 30, .ref 9, .int z297, .int x3_254, .int x4_254] [] _ _
                refine pm_R_lo pm_M24 (pc_q := 64) rfl rfl rfl ?_
                refine pm_R_op pm_M24 (pc_q := 65) (st_q := [.int 1, .int x4_254]) rfl rfl rfl ?_
                refine sf_R_iadd pm_M24 (pc_q := 66) rfl rfl B281 sf_k1 (by decide) (by decide) (fun z300 e301 B302 => ?_)
                refine pm_R_lo pm_M24 (pc_q := 67) (ls_q := [.ref 30, .ref 9, .int z297, .int z300, .int x4_254]) (st_q := []) rfl rfl rfl ?_
                refine sf_R_iinc pm_M24 (pc_q := 70) (ls_q := fun z => [.ref 30, .ref 9, .int z297, .int z300, .int z]) rfl B281 rfl (by decide) (by decide) (by decide) (fun _ => rfl) rfl (fun z303 e304 B305 => ?_)
                show pm_R _ 24 70 [.ref 30, .ref 9, .int z297, .int z300, .int z303] [] _ _
                refine pm_R_br pm_M24 (pc_q := 17) rfl rfl ?_
                exact ih_254 _ (sf_up hN_254 e304 B281 (by decide) (by decide)) z297 z300 z303 (sf_weak B299 (by decide) (by decide)) (sf_weak B302 (by decide) (by decide)) (sf_weak B305 (by decide) (by decide)) (cl_aux54 _ _ _ _ e301 e304 B281.1 B281.2 R0_254) (cl_wA9 X_254 (sf_weak B281 (by decide) (by decide)) (Or.inr (Classical.not_not.mp c283)) e298 e304) rfl
              · have B306 : sf_B 1 1 r288 := sf_neL0 c295 sf_k0 B289
                refine pm_R_lo pm_M24 (pc_q := 58) rfl rfl rfl ?_
                exact pm_R_ret pm_M24 (r := some (.int x2_254)) rfl (pm_ret_i _) (K x2_254 (sf_weak B257 (by decide) (by decide)))
    exact L_254 _ 0 0 0 (sf_weak sf_k0 (by decide) (by decide)) (sf_weak sf_k0 (by decide) (by decide)) (sf_weak sf_k0 (by decide) (by decide)) (by decide) (by decide) rfl
  · skip
    refine pm_R_op pm_M24 (pc_q := 9) (st_q := [.int (-1)]) rfl rfl rfl ?_
    exact pm_R_ret pm_M24 (r := some (.int (-1))) rfl rfl (K (-1) (sf_weak sf_kn1 (by decide) (by decide)))

theorem cl_aux55 (v0 v1 v2 v3 : Int) (q0 : v0 = v1 + 1) (q1 : v2 = v1 + 1) (q2 : 23 ≤ v1) (q3 : v1 ≤ 23) (q4 : v3 ≤ v1) : v0 ≤ v2 := by omega
theorem cl_aux56 (v0 v1 v2 : Int) (q0 : v0 = v1 + 1) (q1 : 0 ≤ v2) (q2 : v2 ≤ 22) (q3 : 0 ≤ v1) (q4 : v1 ≤ 22) (q5 : v2 ≤ v1) : v2 ≤ v0 := by omega
theorem cl_aux57 (v0 v1 v2 v3 : Int) (q0 : v0 = v1 + 1) (q1 : v2 = v1 + 1) (q2 : 0 ≤ v1) (q3 : v1 ≤ 22) (q4 : v3 ≤ v1) : v0 ≤ v2 := by omega
set_option maxRecDepth 100000 in
set_option maxHeartbeats 4000000 in
/-- SilentTable$Tokens.wordAmong -/
theorem cl_c24_10 {d : Nat} {ck : cl_K} {E : Nat → pm_E} {m : Nat → Int32} {o : Nat → Option Nat} {h : pm_H} {Q : Option Value → pm_H → Prop}  (G : cl_G ck E) (T : cl_T ck E m o h)  (K : ∀ (r : Int32), sf_B (-1) 4 r → Q (some (.int r)) h) : pm_R (d + 6) 24 0 [.ref 30, .ref 10, pm_no, pm_no, pm_no] [] h Q := by
  refine pm_R_lo pm_M24 (pc_q := 1) rfl rfl rfl ?_
  have B1 : sf_B 0 4 (m 12) := T.B 12
  refine pm_R_get pm_M24 (pc_q := 4) (v := .int (m 12)) rfl rfl T.e30 (by decide) (T.lt (by decide)) rfl rfl ?_
  refine pm_R_op pm_M24 (pc_q := 5) (st_q := [.int 1, .int (m 12)]) rfl rfl rfl ?_
  refine pm_R_icmp pm_M24 (t := 10) (pc_q := 8) rfl rfl rfl (fun c2 => ?_) (fun c2 => ?_)
  · have B3 : sf_B 1 1 (m 12) := sf_eqL c2 sf_k1
    refine pm_R_op pm_M24 (pc_q := 11) (st_q := [.int 0]) rfl rfl rfl ?_
    refine pm_R_lo pm_M24 (pc_q := 12) (ls_q := [.ref 30, .ref 10, .int 0, pm_no, pm_no]) (st_q := []) rfl rfl rfl ?_
    refine pm_R_op pm_M24 (pc_q := 13) (st_q := [.int 0]) rfl rfl rfl ?_
    refine pm_R_lo pm_M24 (pc_q := 14) (ls_q := [.ref 30, .ref 10, .int 0, .int 0, pm_no]) (st_q := []) rfl rfl rfl ?_
    refine pm_R_op pm_M24 (pc_q := 15) (st_q := [.int 0]) rfl rfl rfl ?_
    refine pm_R_lo pm_M24 (pc_q := 17) (ls_q := [.ref 30, .ref 10, .int 0, .int 0, .int 0]) (st_q := []) rfl rfl rfl ?_
    have L_254 : ∀ (N : Nat) (x2_254 : Int32) (x3_254 : Int32) (x4_254 : Int32), sf_B 0 2147483647 x2_254 → sf_B 0 24 x3_254 → sf_B 0 24 x4_254 → x3_254.toInt ≤ x4_254.toInt → x2_254.toInt ≤ (cl_bk (pm_sby.getD 3 []) (Int32.toNatClampNeg x4_254) : Int) → (24 - x4_254.toInt).toNat = N → pm_R (d + 6) 24 17 [.ref 30, .ref 10, .int x2_254, .int x3_254, .int x4_254] [] h Q := by
      intro N
      induction N using Nat.strongRecOn with
      | ind N ih_254 =>
        intro x2_254 x3_254 x4_254 Bx2_254 Bx3_254 Bx4_254 R0_254 X_254 hN_254
        refine pm_R_lo pm_M24 (pc_q := 19) rfl rfl rfl ?_
        refine pm_R_lo pm_M24 (pc_q := 20) rfl rfl rfl ?_
        refine cl_R_cvS pm_M24 (pc_q := 23) (a := 10) (ra := []) (rest := [.int x4_254]) (ls_q := [.ref 10]) rfl rfl (Or.inl rfl) pm_M25 (T.sw10 G) rfl (by decide) (by decide) rfl rfl (Nat.le_of_ble_eq_true rfl) rfl rfl ?_
        refine cl_e25 (d := d + 4) (s := 10) (v := 23) (by decide) (by decide) (T.sw10 G) (T.sb10 G) rfl (by decide) ?_
        show pm_R _ 24 23 [.ref 30, .ref 10, .int x2_254, .int x3_254, .int x4_254] [.int 23, .int x4_254] _ _
        refine pm_R_icmp pm_M24 (t := 73) (pc_q := 26) rfl rfl rfl (fun c255 => ?_) (fun c255 => ?_)
        · have B256 : sf_B 24 24 x4_254 := sf_ltR c255 sf_k23 Bx4_254
          refine pm_R_op pm_M24 (pc_q := 74) (st_q := [.int (-1)]) rfl rfl rfl ?_
          exact pm_R_ret pm_M24 (r := some (.int (-1))) rfl rfl (K (-1) (sf_weak sf_kn1 (by decide) (by decide)))
        · have B257 : sf_B 0 4 x2_254 := ⟨Bx2_254.1, cl_wC10 X_254 (sf_leL (Int32.not_lt.mp c255) Bx4_254 sf_k23)⟩
          have B258 : sf_B 0 23 x4_254 := sf_leL (Int32.not_lt.mp c255) Bx4_254 sf_k23
          have B259 : sf_B 0 23 x3_254 := sf_leT R0_254 Bx3_254 B258
          refine pm_R_lo pm_M24 (pc_q := 28) rfl rfl rfl ?_
          refine pm_R_lo pm_M24 (pc_q := 29) rfl rfl rfl ?_
          refine cl_R_cvS pm_M24 (pc_q := 32) (a := 10) (ra := []) (rest := [.int x4_254]) (ls_q := [.ref 10]) rfl rfl (Or.inl rfl) pm_M25 (T.sw10 G) rfl (by decide) (by decide) rfl rfl (Nat.le_of_ble_eq_true rfl) rfl rfl ?_
          refine cl_e25 (d := d + 4) (s := 10) (v := 23) (by decide) (by decide) (T.sw10 G) (T.sb10 G) rfl (by decide) ?_
          show pm_R _ 24 32 [.ref 30, .ref 10, .int x2_254, .int x3_254, .int x4_254] [.int 23, .int x4_254] _ _
          refine pm_R_icmp pm_M24 (t := 46) (pc_q := 35) rfl rfl rfl (fun c260 => ?_) (fun c260 => ?_)
          · have B261 : sf_B 23 23 x4_254 := sf_eqL c260 sf_k23
            refine pm_R_lo pm_M24 (pc_q := 47) rfl rfl rfl ?_
            refine pm_R_lo pm_M24 (pc_q := 48) rfl rfl rfl ?_
            refine pm_R_lo pm_M24 (pc_q := 49) rfl rfl rfl ?_
            refine pm_R_lo pm_M24 (pc_q := 51) rfl rfl rfl ?_
            refine pm_R_cv pm_M24 (pc_q := 54) (a := 30) (ra := [.int x4_254, .int x3_254, .ref 10]) (rest := []) (ls_q := [.ref 30, .ref 10, .int x3_254, .int x4_254, pm_no]) rfl rfl (Or.inl rfl) pm_M36 T.e30 rfl (by decide) (T.lt (by decide)) rfl rfl (Nat.le_of_ble_eq_true rfl) rfl rfl ?_
            refine cl_c36_10 (d := d + 0) G T (sf_weak B259 (by decide) (by decide)) (sf_weak B261 (by decide) (by decide)) (fun r262 B263 => ?_)
            show pm_R _ 24 54 [.ref 30, .ref 10, .int x2_254, .int x3_254, .int x4_254] [.int r262] _ _
            refine pm_R_ifc pm_M24 (t := 59) (pc_q := 57) rfl rfl rfl (fun c269 => ?_) (fun c269 => ?_)
            · have B270 : sf_B 0 0 r262 := sf_eqL c269 sf_k0
              refine sf_R_iinc pm_M24 (pc_q := 62) (ls_q := fun z => [.ref 30, .ref 10, .int z, .int x3_254, .int x4_254]) rfl B257 rfl (by decide) (by decide) (by decide) (fun _ => rfl) rfl (fun z271 e272 B273 => ?_)
              show pm_R _ 24 62 [.ref 30, .ref 10, .int z271, .int x3_254, .int x4_254] [] _ _
              refine pm_R_lo pm_M24 (pc_q := 64) rfl rfl rfl ?_
              refine pm_R_op pm_M24 (pc_q := 65) (st_q := [.int 1, .int x4_254]) rfl rfl rfl ?_
              refine sf_R_iadd pm_M24 (pc_q := 66) rfl rfl B261 sf_k1 (by decide) (by decide) (fun z274 e275 B276 => ?_)
              refine pm_R_lo pm_M24 (pc_q := 67) (ls_q := [.ref 30, .ref 10, .int z271, .int z274, .int x4_254]) (st_q := []) rfl rfl rfl ?_
              refine sf_R_iinc pm_M24 (pc_q := 70) (ls_q := fun z => [.ref 30, .ref 10, .int z271, .int z274, .int z]) rfl B261 rfl (by decide) (by decide) (by decide) (fun _ => rfl) rfl (fun z277 e278 B279 => ?_)
              show pm_R _ 24 70 [.ref 30, .ref 10, .int z271, .int z274, .int z277] [] _ _
              refine pm_R_br pm_M24 (pc_q := 17) rfl rfl ?_
              exact ih_254 _ (sf_up hN_254 e278 B261 (by decide) (by decide)) z271 z274 z277 (sf_weak B273 (by decide) (by decide)) (sf_weak B276 (by decide) (by decide)) (sf_weak B279 (by decide) (by decide)) (cl_aux55 _ _ _ _ e275 e278 B261.1 B261.2 R0_254) (cl_wA10 X_254 (sf_weak B261 (by decide) (by decide)) (Or.inl c260) e272 e278) rfl
            · have B280 : sf_B 1 1 r262 := sf_neL0 c269 sf_k0 B263
              refine pm_R_lo pm_M24 (pc_q := 58) rfl rfl rfl ?_
              exact pm_R_ret pm_M24 (r := some (.int x2_254)) rfl (pm_ret_i _) (K x2_254 (sf_weak B257 (by decide) (by decide)))
          · have B281 : sf_B 0 22 x4_254 := sf_neH0 c260 sf_k23 B258
            have B282 : sf_B 0 22 x3_254 := sf_leT R0_254 B259 B281
            refine pm_R_lo pm_M24 (pc_q := 36) rfl rfl rfl ?_
            refine pm_R_lo pm_M24 (pc_q := 38) rfl rfl rfl ?_
            refine cl_R_cvS pm_M24 (pc_q := 41) (a := 10) (ra := [.int x4_254]) (rest := []) (ls_q := [.ref 10, .int x4_254]) rfl rfl (Or.inl rfl) pm_M27 (T.sw10 G) rfl (by decide) (by decide) rfl rfl (Nat.le_of_ble_eq_true rfl) rfl rfl ?_
            refine cl_e27 (d := d + 1) (s := 10) (v := 23) (by decide) (by decide) (T.sw10 G) (T.sb10 G) rfl (sf_in B281 (by decide) (by decide)) B281.1 (Int.lt_of_le_of_lt B281.2 (by decide)) (cl_ch10 B281).1 (cl_ch10 B281).2 ?_
            show pm_R _ 24 41 [.ref 30, .ref 10, .int x2_254, .int x3_254, .int x4_254] [.int ((pm_sby.getD 3 []).getD (Int32.toNatClampNeg x4_254) 0)] _ _
            refine pm_R_op pm_M24 (pc_q := 43) (st_q := [.int 32, .int ((pm_sby.getD 3 []).getD (Int32.toNatClampNeg x4_254) 0)]) rfl rfl rfl ?_
            refine pm_R_icmp pm_M24 (t := 67) (pc_q := 46) rfl rfl rfl (fun c283 => ?_) (fun c283 => ?_)
            · skip
              refine sf_R_iinc pm_M24 (pc_q := 70) (ls_q := fun z => [.ref 30, .ref 10, .int x2_254, .int x3_254, .int z]) rfl B281 rfl (by decide) (by decide) (by decide) (fun _ => rfl) rfl (fun z284 e285 B286 => ?_)
              show pm_R _ 24 70 [.ref 30, .ref 10, .int x2_254, .int x3_254, .int z284] [] _ _
              refine pm_R_br pm_M24 (pc_q := 17) rfl rfl ?_
              exact ih_254 _ (sf_up hN_254 e285 B281 (by decide) (by decide)) x2_254 x3_254 z284 (sf_weak B257 (by decide) (by decide)) (sf_weak B282 (by decide) (by decide)) (sf_weak B286 (by decide) (by decide)) (cl_aux56 _ _ _ e285 B282.1 B282.2 B281.1 B281.2 R0_254) (cl_wB10 X_254 (sf_weak B281 (by decide) (by decide)) e285) rfl
            · have B287 : sf_B 32 32 ((pm_sby.getD 3 []).getD (Int32.toNatClampNeg x4_254) 0) := sf_eqL (Classical.not_not.mp c283) sf_k32
              refine pm_R_lo pm_M24 (pc_q := 47) rfl rfl rfl ?_
              refine pm_R_lo pm_M24 (pc_q := 48) rfl rfl rfl ?_
              refine pm_R_lo pm_M24 (pc_q := 49) rfl rfl rfl ?_
              refine pm_R_lo pm_M24 (pc_q := 51) rfl rfl rfl ?_
              refine pm_R_cv pm_M24 (pc_q := 54) (a := 30) (ra := [.int x4_254, .int x3_254, .ref 10]) (rest := []) (ls_q := [.ref 30, .ref 10, .int x3_254, .int x4_254, pm_no]) rfl rfl (Or.inl rfl) pm_M36 T.e30 rfl (by decide) (T.lt (by decide)) rfl rfl (Nat.le_of_ble_eq_true rfl) rfl rfl ?_
              refine cl_c36_10 (d := d + 0) G T (sf_weak B282 (by decide) (by decide)) (sf_weak B281 (by decide) (by decide)) (fun r288 B289 => ?_)
              show pm_R _ 24 54 [.ref 30, .ref 10, .int x2_254, .int x3_254, .int x4_254] [.int r288] _ _
              refine pm_R_ifc pm_M24 (t := 59) (pc_q := 57) rfl rfl rfl (fun c295 => ?_) (fun c295 => ?_)
              · have B296 : sf_B 0 0 r288 := sf_eqL c295 sf_k0
                refine sf_R_iinc pm_M24 (pc_q := 62) (ls_q := fun z => [.ref 30, .ref 10, .int z, .int x3_254, .int x4_254]) rfl B257 rfl (by decide) (by decide) (by decide) (fun _ => rfl) rfl (fun z297 e298 B299 => ?_)
                show pm_R _ 24 62 [.ref 30, .ref 10, .int z297, .int x3_254, .int x4_254] [] _ _
                refine pm_R_lo pm_M24 (pc_q := 64) rfl rfl rfl ?_
                refine pm_R_op pm_M24 (pc_q := 65) (st_q := [.int 1, .int x4_254]) rfl rfl rfl ?_
                refine sf_R_iadd pm_M24 (pc_q := 66) rfl rfl B281 sf_k1 (by decide) (by decide) (fun z300 e301 B302 => ?_)
                refine pm_R_lo pm_M24 (pc_q := 67) (ls_q := [.ref 30, .ref 10, .int z297, .int z300, .int x4_254]) (st_q := []) rfl rfl rfl ?_
                refine sf_R_iinc pm_M24 (pc_q := 70) (ls_q := fun z => [.ref 30, .ref 10, .int z297, .int z300, .int z]) rfl B281 rfl (by decide) (by decide) (by decide) (fun _ => rfl) rfl (fun z303 e304 B305 => ?_)
                show pm_R _ 24 70 [.ref 30, .ref 10, .int z297, .int z300, .int z303] [] _ _
                refine pm_R_br pm_M24 (pc_q := 17) rfl rfl ?_
                exact ih_254 _ (sf_up hN_254 e304 B281 (by decide) (by decide)) z297 z300 z303 (sf_weak B299 (by decide) (by decide)) (sf_weak B302 (by decide) (by decide)) (sf_weak B305 (by decide) (by decide)) (cl_aux57 _ _ _ _ e301 e304 B281.1 B281.2 R0_254) (cl_wA10 X_254 (sf_weak B281 (by decide) (by decide)) (Or.inr (Classical.not_not.mp c283)) e298 e304) rfl
              · have B306 : sf_B 1 1 r288 := sf_neL0 c295 sf_k0 B289
                refine pm_R_lo pm_M24 (pc_q := 58) rfl rfl rfl ?_
                exact pm_R_ret pm_M24 (r := some (.int x2_254)) rfl (pm_ret_i _) (K x2_254 (sf_weak B257 (by decide) (by decide)))
    exact L_254 _ 0 0 0 (sf_weak sf_k0 (by decide) (by decide)) (sf_weak sf_k0 (by decide) (by decide)) (sf_weak sf_k0 (by decide) (by decide)) (by decide) (by decide) rfl
  · skip
    refine pm_R_op pm_M24 (pc_q := 9) (st_q := [.int (-1)]) rfl rfl rfl ?_
    exact pm_R_ret pm_M24 (r := some (.int (-1))) rfl rfl (K (-1) (sf_weak sf_kn1 (by decide) (by decide)))
end
section
section
/-! what the reader of texts has taken in while there is no FAULT: 0 a LIST, 1 a ROW, 2 a MEAL, 3 a HOUSE -/
def cl_Y (h : pm_H) : Prop := ∃ f : Nat → Int32, h.2.2 28 = .inl (0, 10, .inl f) ∧ ∀ j, sf_B 0 1023 (f j)
def cl_RF (s : Nat) (n r st hs : Int) (fi ft : Nat → Int32) : Prop := match s with
  | 0 => n ≤ 10 ∧ (∀ k : Nat, (k : Int) < n → sf_B 0 5 (fi (4 * k)) ∧ sf_B 0 5 (fi (4 * k + 1)) ∧ sf_B 0 5 (fi (4 * k + 2))) ∧ (∀ k : Nat, (k : Int) < r → sf_B 0 9 (ft (4 * k)) ∧ sf_B 0 5 (ft (4 * k + 1)) ∧ sf_B 0 49 (ft (4 * k + 2)))
  | 1 => n ≤ 12 ∧ ∀ k : Nat, (k : Int) < n → sf_B 0 9 (fi k)
  | 2 => (1 ≤ st ∧ st ≤ 6) ∧ ∀ k : Nat, (k : Int) < n → sf_B 0 2 (fi (4 * k)) ∧ (0 ≤ (fi (4 * k + 1)).toInt ∧ (fi (4 * k + 1)).toInt ≤ hs) ∧ sf_B (-1) 9 (fi (4 * k + 2)) ∧ ((fi (4 * k)).toInt = 2 → 0 ≤ (fi (4 * k + 2)).toInt)
  | _ => n ≤ 8 ∧ ∀ k : Nat, (k : Int) < n → sf_B 0 5 (fi (4 * k)) ∧ sf_B 0 9 (fi (4 * k + 1)) ∧ sf_B (-1) 9 (fi (4 * k + 2))
def cl_Rd (s : Nat) (m : Nat → Int32) (h : pm_H) : Prop := (m 3).toInt = 0 → ∃ fi ft : Nat → Int32, h.2.2 26 = .inl (0, 200, .inl fi) ∧ h.2.2 27 = .inl (0, 64, .inl ft) ∧ cl_RF s (m 5).toInt (m 6).toInt (m 7).toInt (m 8).toInt fi ft
theorem cl_Rd.at {s : Nat} {m : Nat → Int32} {h : pm_H} {f g : Nat → Int32} (R : cl_Rd s m h) (z : (m 3).toInt = 0) (e1 : h.2.2 26 = .inl (0, 200, .inl f)) (e2 : h.2.2 27 = .inl (0, 64, .inl g)) : cl_RF s (m 5).toInt (m 6).toInt (m 7).toInt (m 8).toInt f g := by
  obtain ⟨fi, ft, a, b, c⟩ := R z
  rw [e1] at a; rw [e2] at b
  cases a; cases b; exact c
theorem cl_RF.keep {s : Nat} {n r st hs n_q r_q st_q hs' : Int} {fi ft : Nat → Int32} (R : cl_RF s n r st hs fi ft) (h1 : n_q = n) (h2 : r_q = r) (h3 : st_q = st) (h4 : hs' = hs) : cl_RF s n_q r_q st_q hs' fi ft := by
  subst h1; subst h2; subst h3; subst h4; exact R
theorem cl_RF.start {s : Nat} {n r st hs : Int} {fi ft : Nat → Int32} (h1 : n = 0) (h2 : r = 0) (h3 : st = 4) : cl_RF s n r st hs fi ft := by
  subst h1; subst h2; subst h3
  unfold cl_RF
  split
  · exact ⟨by decide, fun k hk => absurd hk (by omega), fun k hk => absurd hk (by omega)⟩
  · exact ⟨by decide, fun k hk => absurd hk (by omega)⟩
  · exact ⟨⟨by decide, by decide⟩, fun k hk => absurd hk (by omega)⟩
  · exact ⟨by decide, fun k hk => absurd hk (by omega)⟩
theorem cl_cpO {f g : Nat → Int32} {D N k : Nat} (h : k < D ∨ D + N ≤ k) : va_cpy f g 0 D N k = g k := by
  unfold va_cpy; rw [if_neg (by omega)]
theorem cl_cpI {f g : Nat → Int32} {D N k i : Nat} (h : k = D + i) (hi : i < N) : va_cpy f g 0 D N k = f i := by
  unfold va_cpy; rw [if_pos (by omega)]; congr 1; omega
theorem cl_tnI {x : Int32} (h : 0 ≤ x.toInt) : (x.toNatClampNeg : Int) = x.toInt := by
  have e : x.toNatClampNeg = x.toInt.toNat := rfl
  omega
theorem cl_RF.rule {n r st hs n_q r_q st_q hs' : Int} {fi ft fl : Nat → Int32} {D : Nat} (R : cl_RF 0 n r st hs fi ft) (hn : n < 10) (hD : (D : Int) = 4 * n) (b0 : sf_B 0 5 (fl 0)) (b1 : sf_B 0 5 (fl 1)) (b2 : sf_B 0 5 (fl 2)) (h1 : n_q = n + 1) (h2 : r_q = r) : cl_RF 0 n_q r_q st_q hs' (va_cpy fl fi 0 D 4) ft := by
  subst h1; subst h2
  obtain ⟨_, ri, rt⟩ := R
  refine ⟨by omega, fun k hk => ?_, rt⟩
  by_cases e : (k : Int) = n
  · rw [cl_cpI (i := 0) (by omega) (by decide), cl_cpI (i := 1) (by omega) (by decide), cl_cpI (i := 2) (by omega) (by decide)]
    exact ⟨b0, b1, b2⟩
  · rw [cl_cpO (by omega), cl_cpO (by omega), cl_cpO (by omega)]
    exact ri k (by omega)
theorem cl_RF.sign {n r st hs n_q r_q st_q hs' : Int} {fi ft fl : Nat → Int32} {D : Nat} (R : cl_RF 0 n r st hs fi ft) (hD : (D : Int) = 4 * r) (b0 : sf_B 0 9 (fl 0)) (b1 : sf_B 0 5 (fl 1)) (b2 : sf_B 0 49 (fl 2)) (h1 : n_q = n) (h2 : r_q = r + 1) : cl_RF 0 n_q r_q st_q hs' fi (va_cpy fl ft 0 D 4) := by
  subst h1; subst h2
  obtain ⟨rn, ri, rt⟩ := R
  refine ⟨rn, ri, fun k hk => ?_⟩
  by_cases e : (k : Int) = r
  · rw [cl_cpI (i := 0) (by omega) (by decide), cl_cpI (i := 1) (by omega) (by decide), cl_cpI (i := 2) (by omega) (by decide)]
    exact ⟨b0, b1, b2⟩
  · rw [cl_cpO (by omega), cl_cpO (by omega), cl_cpO (by omega)]
    exact rt k (by omega)
theorem cl_RF.seats {n r st hs n_q r_q st_q hs' : Int} {fi ft : Nat → Int32} (R : cl_RF 2 n r st hs fi ft) (hs1 : 1 ≤ st_q) (hs2 : st_q ≤ 6) (h1 : n_q = n) (h4 : hs' = hs) : cl_RF 2 n_q r_q st_q hs' fi ft := by
  subst h1; subst h4
  exact ⟨⟨hs1, hs2⟩, R.2⟩
theorem cl_RF.row {n r st hs n_q r_q st_q hs' : Int} {fi ft : Nat → Int32} {D : Nat} {v : Int32} (R : cl_RF 1 n r st hs fi ft) (hn : n < 12) (hD : (D : Int) = n) (b : sf_B 0 9 v) (h1 : n_q = n + 1) : cl_RF 1 n_q r_q st_q hs' (upd fi D v) ft := by
  subst h1
  refine ⟨by omega, fun k hk => ?_⟩
  unfold upd
  by_cases e : k = D
  · rw [if_pos e]; exact b
  · rw [if_neg e]; exact R.2 k (by omega)
theorem cl_RF.deed {n r st hs n_q r_q st_q hs' : Int} {fi ft fl : Nat → Int32} {D0 D1 : Nat} {c : Int32} (R : cl_RF 2 n r st hs fi ft) (h0 : (D0 : Int) = 4 * n) (hD : (D1 : Int) = 4 * n + 1) (bc : sf_B 0 2 c) (b0 : 0 ≤ (fl 0).toInt) (b0' : (fl 0).toInt ≤ hs') (b1 : sf_B (-1) 9 (fl 1)) (b2 : c.toInt = 2 → 0 ≤ (fl 1).toInt) (h1 : n_q = n + 1) (h3 : st_q = st) (h4 : hs ≤ hs') : cl_RF 2 n_q r_q st_q hs' (va_cpy fl (upd fi D0 c) 0 D1 3) ft := by
  subst h1; subst h3
  obtain ⟨rs, ri⟩ := R
  refine ⟨rs, fun k hk => ?_⟩
  by_cases e : (k : Int) = n
  · have u : upd fi D0 c (4 * k) = c := by unfold upd; rw [if_pos (by omega)]
    rw [cl_cpO (by omega), cl_cpI (i := 0) (by omega) (by decide), cl_cpI (i := 1) (by omega) (by decide), u]
    exact ⟨bc, ⟨b0, b0'⟩, b1, b2⟩
  · have u : ∀ j, j ≠ D0 → upd fi D0 c j = fi j := fun j hj => by unfold upd; rw [if_neg hj]
    rw [cl_cpO (by omega), cl_cpO (by omega), cl_cpO (by omega), u _ (by omega), u _ (by omega), u _ (by omega)]
    obtain ⟨a1, a2, a3, a4⟩ := ri k (by omega)
    exact ⟨a1, ⟨a2.1, by omega⟩, a3, a4⟩
theorem cl_RF.law {n r st hs n_q r_q st_q hs' : Int} {fi ft fl : Nat → Int32} {D0 D1 : Nat} {c : Int32} (R : cl_RF 3 n r st hs fi ft) (hn : n < 8) (h0 : (D0 : Int) = 4 * n) (hD : (D1 : Int) = 4 * n + 1) (bc : sf_B 0 5 c) (b0 : sf_B 0 9 (fl 0)) (b1 : sf_B (-1) 9 (fl 1)) (h1 : n_q = n + 1) : cl_RF 3 n_q r_q st_q hs' (va_cpy fl (upd fi D0 c) 0 D1 3) ft := by
  subst h1
  obtain ⟨rs, ri⟩ := R
  refine ⟨by omega, fun k hk => ?_⟩
  by_cases e : (k : Int) = n
  · have u : upd fi D0 c (4 * k) = c := by unfold upd; rw [if_pos (by omega)]
    rw [cl_cpO (by omega), cl_cpI (i := 0) (by omega) (by decide), cl_cpI (i := 1) (by omega) (by decide), u]
    exact ⟨bc, b0, b1⟩
  · have u : ∀ j, j ≠ D0 → upd fi D0 c j = fi j := fun j hj => by unfold upd; rw [if_neg hj]
    rw [cl_cpO (by omega), cl_cpO (by omega), cl_cpO (by omega), u _ (by omega), u _ (by omega), u _ (by omega)]
    exact ri k (by omega)
theorem cl_upE {f : Nat → Int32} {k : Nat} {v : Int32} {P : Int32 → Prop} (h : P (upd f k v k)) : P v := by
  have : upd f k v k = v := sf_upd_eq
  rw [this] at h; exact h
theorem cl_upK {f : Nat → Int32} {k j : Nat} {v : Int32} {P : Int32 → Prop} (h : P (f j)) (hj : j ≠ k) : P (upd f k v j) := by
  unfold upd; rw [if_neg hj]; exact h
theorem cl_Y.set {h : pm_H} {f : Nat → Int32} {k : Nat} {v : Int32} {h_q : pm_H} (b : ∀ j, sf_B 0 1023 (f j)) (hv : sf_B 0 1023 v) (e : h_q.2.2 28 = .inl (0, 10, .inl (upd f k v))) : cl_Y h_q := ⟨_, e, sf_upd b hv k⟩
theorem cl_bv {x : Int32} (h : sf_B 0 1023 x) : x.toBitVec.toNat < 1024 := by
  have e : x.toInt = x.toBitVec.toInt := rfl
  have h1 := h.1
  have h2 := h.2
  rw [e, BitVec.toInt_eq_toNat_cond] at h1 h2
  have := x.toBitVec.isLt
  split at h1 <;> omega
theorem cl_vb {x : Int32} (h : x.toBitVec.toNat < 1024) : sf_B 0 1023 x := by
  have e : x.toInt = x.toBitVec.toInt := rfl
  unfold sf_B
  rw [e, BitVec.toInt_eq_toNat_of_lt (by omega)]
  omega
theorem cl_or10 {x y : Int32} (hx : sf_B 0 1023 x) (hy : sf_B 0 1023 y) : sf_B 0 1023 (x ||| y) := by
  refine cl_vb ?_
  have e : (x ||| y).toBitVec = x.toBitVec ||| y.toBitVec := rfl
  rw [e, BitVec.toNat_or]
  exact Nat.or_lt_two_pow (n := 10) (cl_bv hx) (cl_bv hy)
theorem cl_shl10 {y : Int32} (hy : sf_B 0 9 y) : sf_B 0 1023 ((1 : Int32) <<< (y &&& 31)) := by
  have h1 := hy.1
  have h2 := hy.2
  have n0 := cl_nat32 hy (by decide)
  rw [n0]
  have : ∀ n, n < 10 → sf_B 0 1023 ((1 : Int32) <<< (Int32.ofNat n &&& 31)) := fun n hn => by
    have : (List.range 10).all (fun n => decide (0 ≤ ((1 : Int32) <<< (Int32.ofNat n &&& 31)).toInt ∧ ((1 : Int32) <<< (Int32.ofNat n &&& 31)).toInt ≤ 1023)) = true := by decide +kernel
    have q := List.all_eq_true.mp this n (List.mem_range.mpr hn)
    have r := of_decide_eq_true q
    exact r
  exact this _ (by omega)
variable {d mid pc pc_q : Nat} {ls st : List Value} {h : pm_H} {Q : Option Value → pm_H → Prop} {q : pm_M} {l : List (Nat × Instr × Nat)} {L : Nat} {ck : cl_K} {E : Nat → pm_E} {m : Nat → Int32} {o : Nat → Option Nat}
theorem sf_R_ior10 (hM : pm_Mt mid q l) {x y : Int32} (hf : pm_find l pc = some (.ior, L)) (hp : pc + 1 = pc_q) (hx : sf_B 0 1023 x) (hy : sf_B 0 1023 y) (k : ∀ z : Int32, sf_B 0 1023 z → pm_R d mid pc_q ls (.int z :: st) h Q) : pm_R d mid pc ls (.int y :: .int x :: st) h Q :=
  pm_R_op hM hf (st_q := .int (x ||| y) :: st) rfl hp (k _ (cl_or10 hx hy))
theorem sf_R_shl10 (hM : pm_Mt mid q l) {y : Int32} (hf : pm_find l pc = some (.ishl, L)) (hp : pc + 1 = pc_q) (hy : sf_B 0 9 y) (k : ∀ z : Int32, sf_B 0 1023 z → pm_R d mid pc_q ls (.int z :: st) h Q) : pm_R d mid pc ls (.int y :: .int 1 :: st) h Q :=
  pm_R_op hM hf (st_q := .int (1 <<< (y &&& 31)) :: st) rfl hp (k _ (cl_shl10 hy))
theorem cl_R_maxR (hM : pm_Mt mid q l) {ix : Nat} {x y : Int32} {a b c e : Int} (hf : pm_find l pc = some (.invokestatic ix, L)) (hn : pm_at pm_CL q.2.2.2.2 ix = none) (hX : pm_at pm_XL q.2.2.2.2 ix = some 4) (hs : (st.map fun v => v.category).sum ≤ 8) (hp : pc + 3 = pc_q) (hx : sf_B a b x) (hy : sf_B c e y) (kk : ∀ z : Int32, sf_B (max a c) (max b e) z → x ≤ z → y ≤ z → pm_R d mid pc_q ls (.int z :: st) h Q) : pm_R d mid pc ls (.int y :: .int x :: st) h Q := by
  have h1 := hx.1; have h2 := hx.2; have h3 := hy.1; have h4 := hy.2
  refine pm_R_nat hM hf rfl hn (st_q := .int (if x < y then y else x) :: st) (h_q := h) ?_ hp (kk _ ?_ ?_ ?_)
  · show (pm_at pm_XL _ ix).bind _ = _
    rw [hX]
    show (if _ then _ else _) = _
    rw [if_pos hs]
  · by_cases hc : x < y
    · rw [if_pos hc]
      have := Int32.lt_iff_toInt_lt.mp hc
      unfold sf_B; omega
    · rw [if_neg hc]
      have := Int32.le_iff_toInt_le.mp (Int32.not_lt.mp hc)
      unfold sf_B; omega
  · by_cases hc : x < y
    · rw [if_pos hc]; exact Int32.le_of_lt hc
    · rw [if_neg hc]; exact Int32.le_iff_toInt_le.mpr (Int.le_refl _)
  · by_cases hc : x < y
    · rw [if_pos hc]; exact Int32.le_iff_toInt_le.mpr (Int.le_refl _)
    · rw [if_neg hc]; exact Int32.not_lt.mp hc
theorem pm_hb_acp {ini : Bool} {c ix : Nat} {n dp sp : Int32} {a b : Nat} {st : List Value} {h : pm_H} {n0 n1 : Nat} {f g : Nat → Int32} (hx : pm_at pm_XL c ix = some 1) (ha : h.2.2 a = .inl (0, n0, .inl f)) (hb : h.2.2 b = .inl (0, n1, .inl g)) (hc : 16 ≤ a ∧ a < h.1 ∧ 16 ≤ b ∧ b < h.1 ∧ ¬ sp < 0 ∧ ¬ dp < 0 ∧ ¬ n < 0 ∧ sp.toNatClampNeg + n.toNatClampNeg ≤ n0 ∧ dp.toNatClampNeg + n.toNatClampNeg ≤ n1 ∧ (st.map fun v => v.category).sum ≤ 8) :
    pm_hb ini c (.invokestatic ix) (.int n :: .int dp :: .ref b :: .int sp :: .ref a :: st) h = some (st, pm_set h b (.inl (0, n1, .inl (va_cpy f g sp.toNatClampNeg dp.toNatClampNeg n.toNatClampNeg)))) := by
  unfold pm_hb
  dsimp only
  rw [hx]
  simp only [Option.bind, ha, hb]; exact if_pos hc
/-- arraycopy of ints -/
theorem pm_R_acp (hM : pm_Mt mid q l) {ix : Nat} (hf : pm_find l pc = some (.invokestatic ix, L)) (hn : pm_at pm_CL q.2.2.2.2 ix = none) (hx : pm_at pm_XL q.2.2.2.2 ix = some 1) {n dp sp : Int32} {a b n0 n1 N S D : Nat} {f g : Nat → Int32} (ha : h.2.2 a = .inl (0, n0, .inl f)) (hb : h.2.2 b = .inl (0, n1, .inl g)) (la : 16 ≤ a) (la' : a < h.1) (lb : 16 ≤ b) (lb' : b < h.1) (hs : sp.toNatClampNeg = S) (hd : dp.toNatClampNeg = D) (hN : n.toNatClampNeg = N) (ps : ¬ sp < 0) (pd : ¬ dp < 0) (pn : ¬ n < 0) (h0 : S + N ≤ n0) (h1 : D + N ≤ n1) (hc : (st.map fun v => v.category).sum ≤ 8) (hp : pc + 3 = pc_q) (kk : pm_R d mid pc_q ls st (pm_set h b (.inl (0, n1, .inl (va_cpy f g S D N)))) Q) : pm_R d mid pc ls (.int n :: .int dp :: .ref b :: .int sp :: .ref a :: st) h Q := by
  subst hs hd hN
  exact pm_R_nat hM hf rfl hn (pm_hb_acp hx ha hb ⟨la, la', lb, lb', ps, pd, pn, h0, h1, hc⟩) hp kk
theorem cl_R_acp (G : cl_G ck E) (hM : pm_Mt mid q l) (T : cl_T ck E m o h) {ix : Nat} (hf : pm_find l pc = some (.invokestatic ix, L)) (hn : pm_at pm_CL q.2.2.2.2 ix = none) (hx : pm_at pm_XL q.2.2.2.2 ix = some 1) {n dp : Int32} {b n1 N : Nat} {lo hi : Int} {f g : Nat → Int32} (ea : h.2.2 29 = .inl (0, 4, .inl f)) (eb : h.2.2 b = .inl (0, n1, .inl g)) (hb : b = 26 ∨ b = 27) (hC : cl_C ck b (.inl (0, n1, .inl (va_cpy f g 0 dp.toNatClampNeg N)))) (hN : n.toNatClampNeg = N) (pn : ¬ n < 0) (h0 : N ≤ 4) (Bd : sf_B lo hi dp) (hlo : 0 ≤ lo) (h1 : hi + N ≤ n1) (hc : (st.map fun v => v.category).sum ≤ 8) (hp : pc + 3 = pc_q) (kk : ∀ h_q, cl_T ck E m o h_q → rf_G [b] h h_q → h_q.2.2 b = .inl (0, n1, .inl (va_cpy f g 0 dp.toNatClampNeg N)) → pm_R d mid pc_q ls st h_q Q) : pm_R d mid pc ls (.int n :: .int dp :: .ref b :: .int 0 :: .ref 29 :: st) h Q := by
  have h72 := T.1
  have e : dp.toNatClampNeg = dp.toInt.toNat := rfl
  have d1 := Bd.1
  have d2 := Bd.2
  refine pm_R_acp hM hf hn hx ea eb (by decide) (by omega) (by omega) (by omega) rfl rfl hN (by decide) (fun z => by have := Int32.lt_iff_toInt_lt.mp z; have e0 : (0 : Int32).toInt = 0 := rfl; omega) pn (by show 0 + N ≤ 4; omega) (by omega) hc hp (kk _ (T.arr G (by omega) hC) (rf_G.one _ _ _) cl_set_eq)
end
end
