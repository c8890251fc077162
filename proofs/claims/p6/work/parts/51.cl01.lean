theorem cl_aux49 (v0 v1 v2 v3 : Int) (q0 : v0 = v1 + 1) (q1 : v2 = v1 + 1) (q2 : 20 ≤ v1) (q3 : v1 ≤ 20) (q4 : v3 ≤ v1) : v0 ≤ v2 := by omega
theorem cl_aux50 (v0 v1 v2 : Int) (q0 : v0 = v1 + 1) (q1 : 0 ≤ v2) (q2 : v2 ≤ 19) (q3 : 0 ≤ v1) (q4 : v1 ≤ 19) (q5 : v2 ≤ v1) : v2 ≤ v0 := by omega
theorem cl_aux51 (v0 v1 v2 v3 : Int) (q0 : v0 = v1 + 1) (q1 : v2 = v1 + 1) (q2 : 0 ≤ v1) (q3 : v1 ≤ 19) (q4 : v3 ≤ v1) : v0 ≤ v2 := by omega
set_option maxRecDepth 100000 in
set_option maxHeartbeats 4000000 in
/-- SilentTable$Tokens.wordAmong -/
theorem cl_c24_8 {d : Nat} {ck : cl_K} {E : Nat → pm_E} {m : Nat → Int32} {o : Nat → Option Nat} {h : pm_H} {Q : Option Value → pm_H → Prop}  (G : cl_G ck E) (T : cl_T ck E m o h)  (K : ∀ (r : Int32), sf_B (-1) 3 r → Q (some (.int r)) h) : pm_R (d + 6) 24 0 [.ref 30, .ref 8, pm_no, pm_no, pm_no] [] h Q := by
  refine pm_R_lo pm_M24 (pc' := 1) rfl rfl rfl ?_
  have B1 : sf_B 0 4 (m 12) := T.B 12
  refine pm_R_get pm_M24 (pc' := 4) (v := .int (m 12)) rfl rfl T.e30 (by decide) (T.lt (by decide)) rfl rfl ?_
  refine pm_R_op pm_M24 (pc' := 5) (st' := [.int 1, .int (m 12)]) rfl rfl rfl ?_
  refine pm_R_icmp pm_M24 (t := 10) (pc' := 8) rfl rfl rfl (fun c2 => ?_) (fun c2 => ?_)
  · have B3 : sf_B 1 1 (m 12) := sf_eqL c2 sf_k1
    refine pm_R_op pm_M24 (pc' := 11) (st' := [.int 0]) rfl rfl rfl ?_
    refine pm_R_lo pm_M24 (pc' := 12) (ls' := [.ref 30, .ref 8, .int 0, pm_no, pm_no]) (st' := []) rfl rfl rfl ?_
    refine pm_R_op pm_M24 (pc' := 13) (st' := [.int 0]) rfl rfl rfl ?_
    refine pm_R_lo pm_M24 (pc' := 14) (ls' := [.ref 30, .ref 8, .int 0, .int 0, pm_no]) (st' := []) rfl rfl rfl ?_
    refine pm_R_op pm_M24 (pc' := 15) (st' := [.int 0]) rfl rfl rfl ?_
    refine pm_R_lo pm_M24 (pc' := 17) (ls' := [.ref 30, .ref 8, .int 0, .int 0, .int 0]) (st' := []) rfl rfl rfl ?_
    have L_254 : ∀ (N : Nat) (x2_254 : Int32) (x3_254 : Int32) (x4_254 : Int32), sf_B 0 2147483647 x2_254 → sf_B 0 21 x3_254 → sf_B 0 21 x4_254 → x3_254.toInt ≤ x4_254.toInt → x2_254.toInt ≤ (cl_bk (pm_sby.getD 1 []) (Int32.toNatClampNeg x4_254) : Int) → (21 - x4_254.toInt).toNat = N → pm_R (d + 6) 24 17 [.ref 30, .ref 8, .int x2_254, .int x3_254, .int x4_254] [] h Q := by
      intro N
      induction N using Nat.strongRecOn with
      | ind N ih_254 =>
        intro x2_254 x3_254 x4_254 Bx2_254 Bx3_254 Bx4_254 R0_254 X_254 hN_254
        refine pm_R_lo pm_M24 (pc' := 19) rfl rfl rfl ?_
        refine pm_R_lo pm_M24 (pc' := 20) rfl rfl rfl ?_
        refine cl_R_cvS pm_M24 (pc' := 23) (a := 8) (ra := []) (rest := [.int x4_254]) (ls' := [.ref 8]) rfl rfl (Or.inl rfl) pm_M25 (T.sw8 G) rfl (by decide) (by decide) rfl rfl (Nat.le_of_ble_eq_true rfl) rfl rfl ?_
        refine cl_e25 (d := d + 4) (s := 8) (v := 20) (by decide) (by decide) (T.sw8 G) (T.sb8 G) rfl (by decide) ?_
        show pm_R _ 24 23 [.ref 30, .ref 8, .int x2_254, .int x3_254, .int x4_254] [.int 20, .int x4_254] _ _
        refine pm_R_icmp pm_M24 (t := 73) (pc' := 26) rfl rfl rfl (fun c255 => ?_) (fun c255 => ?_)
        · have B256 : sf_B 21 21 x4_254 := sf_ltR c255 sf_k20 Bx4_254
          refine pm_R_op pm_M24 (pc' := 74) (st' := [.int (-1)]) rfl rfl rfl ?_
          exact pm_R_ret pm_M24 (r := some (.int (-1))) rfl rfl (K (-1) (sf_weak sf_kn1 (by decide) (by decide)))
        · have B257 : sf_B 0 3 x2_254 := ⟨Bx2_254.1, cl_wC8 X_254 (sf_leL (Int32.not_lt.mp c255) Bx4_254 sf_k20)⟩
          have B258 : sf_B 0 20 x4_254 := sf_leL (Int32.not_lt.mp c255) Bx4_254 sf_k20
          have B259 : sf_B 0 20 x3_254 := sf_leT R0_254 Bx3_254 B258
          refine pm_R_lo pm_M24 (pc' := 28) rfl rfl rfl ?_
          refine pm_R_lo pm_M24 (pc' := 29) rfl rfl rfl ?_
          refine cl_R_cvS pm_M24 (pc' := 32) (a := 8) (ra := []) (rest := [.int x4_254]) (ls' := [.ref 8]) rfl rfl (Or.inl rfl) pm_M25 (T.sw8 G) rfl (by decide) (by decide) rfl rfl (Nat.le_of_ble_eq_true rfl) rfl rfl ?_
          refine cl_e25 (d := d + 4) (s := 8) (v := 20) (by decide) (by decide) (T.sw8 G) (T.sb8 G) rfl (by decide) ?_
          show pm_R _ 24 32 [.ref 30, .ref 8, .int x2_254, .int x3_254, .int x4_254] [.int 20, .int x4_254] _ _
          refine pm_R_icmp pm_M24 (t := 46) (pc' := 35) rfl rfl rfl (fun c260 => ?_) (fun c260 => ?_)
          · have B261 : sf_B 20 20 x4_254 := sf_eqL c260 sf_k20
            refine pm_R_lo pm_M24 (pc' := 47) rfl rfl rfl ?_
            refine pm_R_lo pm_M24 (pc' := 48) rfl rfl rfl ?_
            refine pm_R_lo pm_M24 (pc' := 49) rfl rfl rfl ?_
            refine pm_R_lo pm_M24 (pc' := 51) rfl rfl rfl ?_
            refine pm_R_cv pm_M24 (pc' := 54) (a := 30) (ra := [.int x4_254, .int x3_254, .ref 8]) (rest := []) (ls' := [.ref 30, .ref 8, .int x3_254, .int x4_254, pm_no]) rfl rfl (Or.inl rfl) pm_M36 T.e30 rfl (by decide) (T.lt (by decide)) rfl rfl (Nat.le_of_ble_eq_true rfl) rfl rfl ?_
            refine cl_c36_8 (d := d + 0) G T (sf_weak B259 (by decide) (by decide)) (sf_weak B261 (by decide) (by decide)) (fun r262 B263 => ?_)
            show pm_R _ 24 54 [.ref 30, .ref 8, .int x2_254, .int x3_254, .int x4_254] [.int r262] _ _
            refine pm_R_ifc pm_M24 (t := 59) (pc' := 57) rfl rfl rfl (fun c269 => ?_) (fun c269 => ?_)
            · have B270 : sf_B 0 0 r262 := sf_eqL c269 sf_k0
              refine sf_R_iinc pm_M24 (pc' := 62) (ls' := fun z => [.ref 30, .ref 8, .int z, .int x3_254, .int x4_254]) rfl B257 rfl (by decide) (by decide) (by decide) (fun _ => rfl) rfl (fun z271 e272 B273 => ?_)
              show pm_R _ 24 62 [.ref 30, .ref 8, .int z271, .int x3_254, .int x4_254] [] _ _
              refine pm_R_lo pm_M24 (pc' := 64) rfl rfl rfl ?_
              refine pm_R_op pm_M24 (pc' := 65) (st' := [.int 1, .int x4_254]) rfl rfl rfl ?_
              refine sf_R_iadd pm_M24 (pc' := 66) rfl rfl B261 sf_k1 (by decide) (by decide) (fun z274 e275 B276 => ?_)
              refine pm_R_lo pm_M24 (pc' := 67) (ls' := [.ref 30, .ref 8, .int z271, .int z274, .int x4_254]) (st' := []) rfl rfl rfl ?_
              refine sf_R_iinc pm_M24 (pc' := 70) (ls' := fun z => [.ref 30, .ref 8, .int z271, .int z274, .int z]) rfl B261 rfl (by decide) (by decide) (by decide) (fun _ => rfl) rfl (fun z277 e278 B279 => ?_)
              show pm_R _ 24 70 [.ref 30, .ref 8, .int z271, .int z274, .int z277] [] _ _
              refine pm_R_br pm_M24 (pc' := 17) rfl rfl ?_
              exact ih_254 _ (sf_up hN_254 e278 B261 (by decide) (by decide)) z271 z274 z277 (sf_weak B273 (by decide) (by decide)) (sf_weak B276 (by decide) (by decide)) (sf_weak B279 (by decide) (by decide)) (cl_aux49 _ _ _ _ e275 e278 B261.1 B261.2 R0_254) (cl_wA8 X_254 (sf_weak B261 (by decide) (by decide)) (Or.inl c260) e272 e278) rfl
            · have B280 : sf_B 1 1 r262 := sf_neL0 c269 sf_k0 B263
              refine pm_R_lo pm_M24 (pc' := 58) rfl rfl rfl ?_
              exact pm_R_ret pm_M24 (r := some (.int x2_254)) rfl (pm_ret_i _) (K x2_254 (sf_weak B257 (by decide) (by decide)))
          · have B281 : sf_B 0 19 x4_254 := sf_neH0 c260 sf_k20 B258
            have B282 : sf_B 0 19 x3_254 := sf_leT R0_254 B259 B281
            refine pm_R_lo pm_M24 (pc' := 36) rfl rfl rfl ?_
            refine pm_R_lo pm_M24 (pc' := 38) rfl rfl rfl ?_
            refine cl_R_cvS pm_M24 (pc' := 41) (a := 8) (ra := [.int x4_254]) (rest := []) (ls' := [.ref 8, .int x4_254]) rfl rfl (Or.inl rfl) pm_M27 (T.sw8 G) rfl (by decide) (by decide) rfl rfl (Nat.le_of_ble_eq_true rfl) rfl rfl ?_
            refine cl_e27 (d := d + 1) (s := 8) (v := 20) (by decide) (by decide) (T.sw8 G) (T.sb8 G) rfl (sf_in B281 (by decide) (by decide)) B281.1 (Int.lt_of_le_of_lt B281.2 (by decide)) (cl_ch8 B281).1 (cl_ch8 B281).2 ?_
            show pm_R _ 24 41 [.ref 30, .ref 8, .int x2_254, .int x3_254, .int x4_254] [.int ((pm_sby.getD 1 []).getD (Int32.toNatClampNeg x4_254) 0)] _ _
            refine pm_R_op pm_M24 (pc' := 43) (st' := [.int 32, .int ((pm_sby.getD 1 []).getD (Int32.toNatClampNeg x4_254) 0)]) rfl rfl rfl ?_
            refine pm_R_icmp pm_M24 (t := 67) (pc' := 46) rfl rfl rfl (fun c283 => ?_) (fun c283 => ?_)
            · skip
              refine sf_R_iinc pm_M24 (pc' := 70) (ls' := fun z => [.ref 30, .ref 8, .int x2_254, .int x3_254, .int z]) rfl B281 rfl (by decide) (by decide) (by decide) (fun _ => rfl) rfl (fun z284 e285 B286 => ?_)
              show pm_R _ 24 70 [.ref 30, .ref 8, .int x2_254, .int x3_254, .int z284] [] _ _
              refine pm_R_br pm_M24 (pc' := 17) rfl rfl ?_
              exact ih_254 _ (sf_up hN_254 e285 B281 (by decide) (by decide)) x2_254 x3_254 z284 (sf_weak B257 (by decide) (by decide)) (sf_weak B282 (by decide) (by decide)) (sf_weak B286 (by decide) (by decide)) (cl_aux50 _ _ _ e285 B282.1 B282.2 B281.1 B281.2 R0_254) (cl_wB8 X_254 (sf_weak B281 (by decide) (by decide)) e285) rfl
            · have B287 : sf_B 32 32 ((pm_sby.getD 1 []).getD (Int32.toNatClampNeg x4_254) 0) := sf_eqL (Classical.not_not.mp c283) sf_k32
              refine pm_R_lo pm_M24 (pc' := 47) rfl rfl rfl ?_
              refine pm_R_lo pm_M24 (pc' := 48) rfl rfl rfl ?_
              refine pm_R_lo pm_M24 (pc' := 49) rfl rfl rfl ?_
              refine pm_R_lo pm_M24 (pc' := 51) rfl rfl rfl ?_
              refine pm_R_cv pm_M24 (pc' := 54) (a := 30) (ra := [.int x4_254, .int x3_254, .ref 8]) (rest := []) (ls' := [.ref 30, .ref 8, .int x3_254, .int x4_254, pm_no]) rfl rfl (Or.inl rfl) pm_M36 T.e30 rfl (by decide) (T.lt (by decide)) rfl rfl (Nat.le_of_ble_eq_true rfl) rfl rfl ?_
              refine cl_c36_8 (d := d + 0) G T (sf_weak B282 (by decide) (by decide)) (sf_weak B281 (by decide) (by decide)) (fun r288 B289 => ?_)
              show pm_R _ 24 54 [.ref 30, .ref 8, .int x2_254, .int x3_254, .int x4_254] [.int r288] _ _
              refine pm_R_ifc pm_M24 (t := 59) (pc' := 57) rfl rfl rfl (fun c295 => ?_) (fun c295 => ?_)
              · have B296 : sf_B 0 0 r288 := sf_eqL c295 sf_k0
                refine sf_R_iinc pm_M24 (pc' := 62) (ls' := fun z => [.ref 30, .ref 8, .int z, .int x3_254, .int x4_254]) rfl B257 rfl (by decide) (by decide) (by decide) (fun _ => rfl) rfl (fun z297 e298 B299 => ?_)
                show pm_R _ 24 62 [.ref 30, .ref 8, .int z297, .int x3_254, .int x4_254] [] _ _
                refine pm_R_lo pm_M24 (pc' := 64) rfl rfl rfl ?_
                refine pm_R_op pm_M24 (pc' := 65) (st' := [.int 1, .int x4_254]) rfl rfl rfl ?_
                refine sf_R_iadd pm_M24 (pc' := 66) rfl rfl B281 sf_k1 (by decide) (by decide) (fun z300 e301 B302 => ?_)
                refine pm_R_lo pm_M24 (pc' := 67) (ls' := [.ref 30, .ref 8, .int z297, .int z300, .int x4_254]) (st' := []) rfl rfl rfl ?_
                refine sf_R_iinc pm_M24 (pc' := 70) (ls' := fun z => [.ref 30, .ref 8, .int z297, .int z300, .int z]) rfl B281 rfl (by decide) (by decide) (by decide) (fun _ => rfl) rfl (fun z303 e304 B305 => ?_)
                show pm_R _ 24 70 [.ref 30, .ref 8, .int z297, .int z300, .int z303] [] _ _
                refine pm_R_br pm_M24 (pc' := 17) rfl rfl ?_
                exact ih_254 _ (sf_up hN_254 e304 B281 (by decide) (by decide)) z297 z300 z303 (sf_weak B299 (by decide) (by decide)) (sf_weak B302 (by decide) (by decide)) (sf_weak B305 (by decide) (by decide)) (cl_aux51 _ _ _ _ e301 e304 B281.1 B281.2 R0_254) (cl_wA8 X_254 (sf_weak B281 (by decide) (by decide)) (Or.inr (Classical.not_not.mp c283)) e298 e304) rfl
              · have B306 : sf_B 1 1 r288 := sf_neL0 c295 sf_k0 B289
                refine pm_R_lo pm_M24 (pc' := 58) rfl rfl rfl ?_
                exact pm_R_ret pm_M24 (r := some (.int x2_254)) rfl (pm_ret_i _) (K x2_254 (sf_weak B257 (by decide) (by decide)))
    exact L_254 _ 0 0 0 (sf_weak sf_k0 (by decide) (by decide)) (sf_weak sf_k0 (by decide) (by decide)) (sf_weak sf_k0 (by decide) (by decide)) (by decide) (by decide) rfl
  · skip
    refine pm_R_op pm_M24 (pc' := 9) (st' := [.int (-1)]) rfl rfl rfl ?_
    exact pm_R_ret pm_M24 (r := some (.int (-1))) rfl rfl (K (-1) (sf_weak sf_kn1 (by decide) (by decide)))

theorem cl_aux52 (v0 v1 v2 v3 : Int) (q0 : v0 = v1 + 1) (q1 : v2 = v1 + 1) (q2 : 33 ≤ v1) (q3 : v1 ≤ 33) (q4 : v3 ≤ v1) : v0 ≤ v2 := by omega
theorem cl_aux53 (v0 v1 v2 : Int) (q0 : v0 = v1 + 1) (q1 : 0 ≤ v2) (q2 : v2 ≤ 32) (q3 : 0 ≤ v1) (q4 : v1 ≤ 32) (q5 : v2 ≤ v1) : v2 ≤ v0 := by omega
theorem cl_aux54 (v0 v1 v2 v3 : Int) (q0 : v0 = v1 + 1) (q1 : v2 = v1 + 1) (q2 : 0 ≤ v1) (q3 : v1 ≤ 32) (q4 : v3 ≤ v1) : v0 ≤ v2 := by omega
set_option maxRecDepth 100000 in
set_option maxHeartbeats 4000000 in
/-- SilentTable$Tokens.wordAmong -/
theorem cl_c24_9 {d : Nat} {ck : cl_K} {E : Nat → pm_E} {m : Nat → Int32} {o : Nat → Option Nat} {h : pm_H} {Q : Option Value → pm_H → Prop}  (G : cl_G ck E) (T : cl_T ck E m o h)  (K : ∀ (r : Int32), sf_B (-1) 5 r → Q (some (.int r)) h) : pm_R (d + 6) 24 0 [.ref 30, .ref 9, pm_no, pm_no, pm_no] [] h Q := by
  refine pm_R_lo pm_M24 (pc' := 1) rfl rfl rfl ?_
  have B1 : sf_B 0 4 (m 12) := T.B 12
  refine pm_R_get pm_M24 (pc' := 4) (v := .int (m 12)) rfl rfl T.e30 (by decide) (T.lt (by decide)) rfl rfl ?_
  refine pm_R_op pm_M24 (pc' := 5) (st' := [.int 1, .int (m 12)]) rfl rfl rfl ?_
  refine pm_R_icmp pm_M24 (t := 10) (pc' := 8) rfl rfl rfl (fun c2 => ?_) (fun c2 => ?_)
  · have B3 : sf_B 1 1 (m 12) := sf_eqL c2 sf_k1
    refine pm_R_op pm_M24 (pc' := 11) (st' := [.int 0]) rfl rfl rfl ?_
    refine pm_R_lo pm_M24 (pc' := 12) (ls' := [.ref 30, .ref 9, .int 0, pm_no, pm_no]) (st' := []) rfl rfl rfl ?_
    refine pm_R_op pm_M24 (pc' := 13) (st' := [.int 0]) rfl rfl rfl ?_
    refine pm_R_lo pm_M24 (pc' := 14) (ls' := [.ref 30, .ref 9, .int 0, .int 0, pm_no]) (st' := []) rfl rfl rfl ?_
    refine pm_R_op pm_M24 (pc' := 15) (st' := [.int 0]) rfl rfl rfl ?_
    refine pm_R_lo pm_M24 (pc' := 17) (ls' := [.ref 30, .ref 9, .int 0, .int 0, .int 0]) (st' := []) rfl rfl rfl ?_
    have L_254 : ∀ (N : Nat) (x2_254 : Int32) (x3_254 : Int32) (x4_254 : Int32), sf_B 0 2147483647 x2_254 → sf_B 0 34 x3_254 → sf_B 0 34 x4_254 → x3_254.toInt ≤ x4_254.toInt → x2_254.toInt ≤ (cl_bk (pm_sby.getD 2 []) (Int32.toNatClampNeg x4_254) : Int) → (34 - x4_254.toInt).toNat = N → pm_R (d + 6) 24 17 [.ref 30, .ref 9, .int x2_254, .int x3_254, .int x4_254] [] h Q := by
      intro N
      induction N using Nat.strongRecOn with
      | ind N ih_254 =>
        intro x2_254 x3_254 x4_254 Bx2_254 Bx3_254 Bx4_254 R0_254 X_254 hN_254
        refine pm_R_lo pm_M24 (pc' := 19) rfl rfl rfl ?_
        refine pm_R_lo pm_M24 (pc' := 20) rfl rfl rfl ?_
        refine cl_R_cvS pm_M24 (pc' := 23) (a := 9) (ra := []) (rest := [.int x4_254]) (ls' := [.ref 9]) rfl rfl (Or.inl rfl) pm_M25 (T.sw9 G) rfl (by decide) (by decide) rfl rfl (Nat.le_of_ble_eq_true rfl) rfl rfl ?_
        refine cl_e25 (d := d + 4) (s := 9) (v := 33) (by decide) (by decide) (T.sw9 G) (T.sb9 G) rfl (by decide) ?_
        show pm_R _ 24 23 [.ref 30, .ref 9, .int x2_254, .int x3_254, .int x4_254] [.int 33, .int x4_254] _ _
        refine pm_R_icmp pm_M24 (t := 73) (pc' := 26) rfl rfl rfl (fun c255 => ?_) (fun c255 => ?_)
        · have B256 : sf_B 34 34 x4_254 := sf_ltR c255 sf_k33 Bx4_254
          refine pm_R_op pm_M24 (pc' := 74) (st' := [.int (-1)]) rfl rfl rfl ?_
          exact pm_R_ret pm_M24 (r := some (.int (-1))) rfl rfl (K (-1) (sf_weak sf_kn1 (by decide) (by decide)))
        · have B257 : sf_B 0 5 x2_254 := ⟨Bx2_254.1, cl_wC9 X_254 (sf_leL (Int32.not_lt.mp c255) Bx4_254 sf_k33)⟩
          have B258 : sf_B 0 33 x4_254 := sf_leL (Int32.not_lt.mp c255) Bx4_254 sf_k33
          have B259 : sf_B 0 33 x3_254 := sf_leT R0_254 Bx3_254 B258
          refine pm_R_lo pm_M24 (pc' := 28) rfl rfl rfl ?_
          refine pm_R_lo pm_M24 (pc' := 29) rfl rfl rfl ?_
          refine cl_R_cvS pm_M24 (pc' := 32) (a := 9) (ra := []) (rest := [.int x4_254]) (ls' := [.ref 9]) rfl rfl (Or.inl rfl) pm_M25 (T.sw9 G) rfl (by decide) (by decide) rfl rfl (Nat.le_of_ble_eq_true rfl) rfl rfl ?_
          refine cl_e25 (d := d + 4) (s := 9) (v := 33) (by decide) (by decide) (T.sw9 G) (T.sb9 G) rfl (by decide) ?_
          show pm_R _ 24 32 [.ref 30, .ref 9, .int x2_254, .int x3_254, .int x4_254] [.int 33, .int x4_254] _ _
          refine pm_R_icmp pm_M24 (t := 46) (pc' := 35) rfl rfl rfl (fun c260 => ?_) (fun c260 => ?_)
          · have B261 : sf_B 33 33 x4_254 := sf_eqL c260 sf_k33
            refine pm_R_lo pm_M24 (pc' := 47) rfl rfl rfl ?_
            refine pm_R_lo pm_M24 (pc' := 48) rfl rfl rfl ?_
            refine pm_R_lo pm_M24 (pc' := 49) rfl rfl rfl ?_
            refine pm_R_lo pm_M24 (pc' := 51) rfl rfl rfl ?_
            refine pm_R_cv pm_M24 (pc' := 54) (a := 30) (ra := [.int x4_254, .int x3_254, .ref 9]) (rest := []) (ls' := [.ref 30, .ref 9, .int x3_254, .int x4_254, pm_no]) rfl rfl (Or.inl rfl) pm_M36 T.e30 rfl (by decide) (T.lt (by decide)) rfl rfl (Nat.le_of_ble_eq_true rfl) rfl rfl ?_
            refine cl_c36_9 (d := d + 0) G T (sf_weak B259 (by decide) (by decide)) (sf_weak B261 (by decide) (by decide)) (fun r262 B263 => ?_)
            show pm_R _ 24 54 [.ref 30, .ref 9, .int x2_254, .int x3_254, .int x4_254] [.int r262] _ _
            refine pm_R_ifc pm_M24 (t := 59) (pc' := 57) rfl rfl rfl (fun c269 => ?_) (fun c269 => ?_)
            · have B270 : sf_B 0 0 r262 := sf_eqL c269 sf_k0
              refine sf_R_iinc pm_M24 (pc' := 62) (ls' := fun z => [.ref 30, .ref 9, .int z, .int x3_254, .int x4_254]) rfl B257 rfl (by decide) (by decide) (by decide) (fun _ => rfl) rfl (fun z271 e272 B273 => ?_)
              show pm_R _ 24 62 [.ref 30, .ref 9, .int z271, .int x3_254, .int x4_254] [] _ _
              refine pm_R_lo pm_M24 (pc' := 64) rfl rfl rfl ?_
              refine pm_R_op pm_M24 (pc' := 65) (st' := [.int 1, .int x4_254]) rfl rfl rfl ?_
              refine sf_R_iadd pm_M24 (pc' := 66) rfl rfl B261 sf_k1 (by decide) (by decide) (fun z274 e275 B276 => ?_)
              refine pm_R_lo pm_M24 (pc' := 67) (ls' := [.ref 30, .ref 9, .int z271, .int z274, .int x4_254]) (st' := []) rfl rfl rfl ?_
              refine sf_R_iinc pm_M24 (pc' := 70) (ls' := fun z => [.ref 30, .ref 9, .int z271, .int z274, .int z]) rfl B261 rfl (by decide) (by decide) (by decide) (fun _ => rfl) rfl (fun z277 e278 B279 => ?_)
              show pm_R _ 24 70 [.ref 30, .ref 9, .int z271, .int z274, .int z277] [] _ _
              refine pm_R_br pm_M24 (pc' := 17) rfl rfl ?_
              exact ih_254 _ (sf_up hN_254 e278 B261 (by decide) (by decide)) z271 z274 z277 (sf_weak B273 (by decide) (by decide)) (sf_weak B276 (by decide) (by decide)) (sf_weak B279 (by decide) (by decide)) (cl_aux52 _ _ _ _ e275 e278 B261.1 B261.2 R0_254) (cl_wA9 X_254 (sf_weak B261 (by decide) (by decide)) (Or.inl c260) e272 e278) rfl
            · have B280 : sf_B 1 1 r262 := sf_neL0 c269 sf_k0 B263
              refine pm_R_lo pm_M24 (pc' := 58) rfl rfl rfl ?_
              exact pm_R_ret pm_M24 (r := some (.int x2_254)) rfl (pm_ret_i _) (K x2_254 (sf_weak B257 (by decide) (by decide)))
          · have B281 : sf_B 0 32 x4_254 := sf_neH0 c260 sf_k33 B258
            have B282 : sf_B 0 32 x3_254 := sf_leT R0_254 B259 B281
            refine pm_R_lo pm_M24 (pc' := 36) rfl rfl rfl ?_
            refine pm_R_lo pm_M24 (pc' := 38) rfl rfl rfl ?_
            refine cl_R_cvS pm_M24 (pc' := 41) (a := 9) (ra := [.int x4_254]) (rest := []) (ls' := [.ref 9, .int x4_254]) rfl rfl (Or.inl rfl) pm_M27 (T.sw9 G) rfl (by decide) (by decide) rfl rfl (Nat.le_of_ble_eq_true rfl) rfl rfl ?_
            refine cl_e27 (d := d + 1) (s := 9) (v := 33) (by decide) (by decide) (T.sw9 G) (T.sb9 G) rfl (sf_in B281 (by decide) (by decide)) B281.1 (Int.lt_of_le_of_lt B281.2 (by decide)) (cl_ch9 B281).1 (cl_ch9 B281).2 ?_
            show pm_R _ 24 41 [.ref 30, .ref 9, .int x2_254, .int x3_254, .int x4_254] [.int ((pm_sby.getD 2 []).getD (Int32.toNatClampNeg x4_254) 0)] _ _
            refine pm_R_op pm_M24 (pc' := 43) (st' := [.int 32, .int ((pm_sby.getD 2 []).getD (Int32.toNatClampNeg x4_254) 0)]) rfl rfl rfl ?_
            refine pm_R_icmp pm_M24 (t := 67) (pc' := 46) rfl rfl rfl (fun c283 => ?_) (fun c283 => ?_)
            · skip
              refine sf_R_iinc pm_M24 (pc' := 70) (ls' := fun z => [.ref 30, .ref 9, .int x2_254, .int x3_254, .int z]) rfl B281 rfl (by decide) (by decide) (by decide) (fun _ => rfl) rfl (fun z284 e285 B286 => ?_)
              show pm_R _ 24 70 [.ref 30, .ref 9, .int x2_254, .int x3_254, .int z284] [] _ _
              refine pm_R_br pm_M24 (pc' := 17) rfl rfl ?_
              exact ih_254 _ (sf_up hN_254 e285 B281 (by decide) (by decide)) x2_254 x3_254 z284 (sf_weak B257 (by decide) (by decide)) (sf_weak B282 (by decide) (by decide)) (sf_weak B286 (by decide) (by decide)) (cl_aux53 _ _ _ e285 B282.1 B282.2 B281.1 B281.2 R0_254) (cl_wB9 X_254 (sf_weak B281 (by decide) (by decide)) e285) rfl
            · have B287 : sf_B 32 32 ((pm_sby.getD 2 []).getD (Int32.toNatClampNeg x4_254) 0) := sf_eqL (Classical.not_not.mp c283) sf_k32
              refine pm_R_lo pm_M24 (pc' := 47) rfl rfl rfl ?_
              refine pm_R_lo pm_M24 (pc' := 48) rfl rfl rfl ?_
              refine pm_R_lo pm_M24 (pc' := 49) rfl rfl rfl ?_
              refine pm_R_lo pm_M24 (pc' := 51) rfl rfl rfl ?_
              refine pm_R_cv pm_M24 (pc' := 54) (a := 30) (ra := [.int x4_254, .int x3_254, .ref 9]) (rest := []) (ls' := [.ref 30, .ref 9, .int x3_254, .int x4_254, pm_no]) rfl rfl (Or.inl rfl) pm_M36 T.e30 rfl (by decide) (T.lt (by decide)) rfl rfl (Nat.le_of_ble_eq_true rfl) rfl rfl ?_
              refine cl_c36_9 (d := d + 0) G T (sf_weak B282 (by decide) (by decide)) (sf_weak B281 (by decide) (by decide)) (fun r288 B289 => ?_)
              show pm_R _ 24 54 [.ref 30, .ref 9, .int x2_254, .int x3_254, .int x4_254] [.int r288] _ _
              refine pm_R_ifc pm_M24 (t := 59) (pc' := 57) rfl rfl rfl (fun c295 => ?_) (fun c295 => ?_)
              · have B296 : sf_B 0 0 r288 := sf_eqL c295 sf_k0
                refine sf_R_iinc pm_M24 (pc' := 62) (ls' := fun z => [.ref 30, .ref 9, .int z, .int x3_254, .int x4_254]) rfl B257 rfl (by decide) (by decide) (by decide) (fun _ => rfl) rfl (fun z297 e298 B299 => ?_)
                show pm_R _ 24 62 [.ref 30, .ref 9, .int z297, .int x3_254, .int x4_254] [] _ _
                refine pm_R_lo pm_M24 (pc' := 64) rfl rfl rfl ?_
                refine pm_R_op pm_M24 (pc' := 65) (st' := [.int 1, .int x4_254]) rfl rfl rfl ?_
                refine sf_R_iadd pm_M24 (pc' := 66) rfl rfl B281 sf_k1 (by decide) (by decide) (fun z300 e301 B302 => ?_)
                refine pm_R_lo pm_M24 (pc' := 67) (ls' := [.ref 30, .ref 9, .int z297, .int z300, .int x4_254]) (st' := []) rfl rfl rfl ?_
                refine sf_R_iinc pm_M24 (pc' := 70) (ls' := fun z => [.ref 30, .ref 9, .int z297, .int z300, .int z]) rfl B281 rfl (by decide) (by decide) (by decide) (fun _ => rfl) rfl (fun z303 e304 B305 => ?_)
                show pm_R _ 24 70 [.ref 30, .ref 9, .int z297, .int z300, .int z303] [] _ _
                refine pm_R_br pm_M24 (pc' := 17) rfl rfl ?_
                exact ih_254 _ (sf_up hN_254 e304 B281 (by decide) (by decide)) z297 z300 z303 (sf_weak B299 (by decide) (by decide)) (sf_weak B302 (by decide) (by decide)) (sf_weak B305 (by decide) (by decide)) (cl_aux54 _ _ _ _ e301 e304 B281.1 B281.2 R0_254) (cl_wA9 X_254 (sf_weak B281 (by decide) (by decide)) (Or.inr (Classical.not_not.mp c283)) e298 e304) rfl
              · have B306 : sf_B 1 1 r288 := sf_neL0 c295 sf_k0 B289
                refine pm_R_lo pm_M24 (pc' := 58) rfl rfl rfl ?_
                exact pm_R_ret pm_M24 (r := some (.int x2_254)) rfl (pm_ret_i _) (K x2_254 (sf_weak B257 (by decide) (by decide)))
    exact L_254 _ 0 0 0 (sf_weak sf_k0 (by decide) (by decide)) (sf_weak sf_k0 (by decide) (by decide)) (sf_weak sf_k0 (by decide) (by decide)) (by decide) (by decide) rfl
  · skip
    refine pm_R_op pm_M24 (pc' := 9) (st' := [.int (-1)]) rfl rfl rfl ?_
    exact pm_R_ret pm_M24 (r := some (.int (-1))) rfl rfl (K (-1) (sf_weak sf_kn1 (by decide) (by decide)))

theorem cl_aux55 (v0 v1 v2 v3 : Int) (q0 : v0 = v1 + 1) (q1 : v2 = v1 + 1) (q2 : 23 ≤ v1) (q3 : v1 ≤ 23) (q4 : v3 ≤ v1) : v0 ≤ v2 := by omega
theorem cl_aux56 (v0 v1 v2 : Int) (q0 : v0 = v1 + 1) (q1 : 0 ≤ v2) (q2 : v2 ≤ 22) (q3 : 0 ≤ v1) (q4 : v1 ≤ 22) (q5 : v2 ≤ v1) : v2 ≤ v0 := by omega
theorem cl_aux57 (v0 v1 v2 v3 : Int) (q0 : v0 = v1 + 1) (q1 : v2 = v1 + 1) (q2 : 0 ≤ v1) (q3 : v1 ≤ 22) (q4 : v3 ≤ v1) : v0 ≤ v2 := by omega
set_option maxRecDepth 100000 in
set_option maxHeartbeats 4000000 in
/-- SilentTable$Tokens.wordAmong -/
theorem cl_c24_10 {d : Nat} {ck : cl_K} {E : Nat → pm_E} {m : Nat → Int32} {o : Nat → Option Nat} {h : pm_H} {Q : Option Value → pm_H → Prop}  (G : cl_G ck E) (T : cl_T ck E m o h)  (K : ∀ (r : Int32), sf_B (-1) 4 r → Q (some (.int r)) h) : pm_R (d + 6) 24 0 [.ref 30, .ref 10, pm_no, pm_no, pm_no] [] h Q := by
  refine pm_R_lo pm_M24 (pc' := 1) rfl rfl rfl ?_
  have B1 : sf_B 0 4 (m 12) := T.B 12
  refine pm_R_get pm_M24 (pc' := 4) (v := .int (m 12)) rfl rfl T.e30 (by decide) (T.lt (by decide)) rfl rfl ?_
  refine pm_R_op pm_M24 (pc' := 5) (st' := [.int 1, .int (m 12)]) rfl rfl rfl ?_
  refine pm_R_icmp pm_M24 (t := 10) (pc' := 8) rfl rfl rfl (fun c2 => ?_) (fun c2 => ?_)
  · have B3 : sf_B 1 1 (m 12) := sf_eqL c2 sf_k1
    refine pm_R_op pm_M24 (pc' := 11) (st' := [.int 0]) rfl rfl rfl ?_
    refine pm_R_lo pm_M24 (pc' := 12) (ls' := [.ref 30, .ref 10, .int 0, pm_no, pm_no]) (st' := []) rfl rfl rfl ?_
    refine pm_R_op pm_M24 (pc' := 13) (st' := [.int 0]) rfl rfl rfl ?_
    refine pm_R_lo pm_M24 (pc' := 14) (ls' := [.ref 30, .ref 10, .int 0, .int 0, pm_no]) (st' := []) rfl rfl rfl ?_
    refine pm_R_op pm_M24 (pc' := 15) (st' := [.int 0]) rfl rfl rfl ?_
    refine pm_R_lo pm_M24 (pc' := 17) (ls' := [.ref 30, .ref 10, .int 0, .int 0, .int 0]) (st' := []) rfl rfl rfl ?_
    have L_254 : ∀ (N : Nat) (x2_254 : Int32) (x3_254 : Int32) (x4_254 : Int32), sf_B 0 2147483647 x2_254 → sf_B 0 24 x3_254 → sf_B 0 24 x4_254 → x3_254.toInt ≤ x4_254.toInt → x2_254.toInt ≤ (cl_bk (pm_sby.getD 3 []) (Int32.toNatClampNeg x4_254) : Int) → (24 - x4_254.toInt).toNat = N → pm_R (d + 6) 24 17 [.ref 30, .ref 10, .int x2_254, .int x3_254, .int x4_254] [] h Q := by
      intro N
      induction N using Nat.strongRecOn with
      | ind N ih_254 =>
        intro x2_254 x3_254 x4_254 Bx2_254 Bx3_254 Bx4_254 R0_254 X_254 hN_254
        refine pm_R_lo pm_M24 (pc' := 19) rfl rfl rfl ?_
        refine pm_R_lo pm_M24 (pc' := 20) rfl rfl rfl ?_
        refine cl_R_cvS pm_M24 (pc' := 23) (a := 10) (ra := []) (rest := [.int x4_254]) (ls' := [.ref 10]) rfl rfl (Or.inl rfl) pm_M25 (T.sw10 G) rfl (by decide) (by decide) rfl rfl (Nat.le_of_ble_eq_true rfl) rfl rfl ?_
        refine cl_e25 (d := d + 4) (s := 10) (v := 23) (by decide) (by decide) (T.sw10 G) (T.sb10 G) rfl (by decide) ?_
        show pm_R _ 24 23 [.ref 30, .ref 10, .int x2_254, .int x3_254, .int x4_254] [.int 23, .int x4_254] _ _
        refine pm_R_icmp pm_M24 (t := 73) (pc' := 26) rfl rfl rfl (fun c255 => ?_) (fun c255 => ?_)
        · have B256 : sf_B 24 24 x4_254 := sf_ltR c255 sf_k23 Bx4_254
          refine pm_R_op pm_M24 (pc' := 74) (st' := [.int (-1)]) rfl rfl rfl ?_
          exact pm_R_ret pm_M24 (r := some (.int (-1))) rfl rfl (K (-1) (sf_weak sf_kn1 (by decide) (by decide)))
        · have B257 : sf_B 0 4 x2_254 := ⟨Bx2_254.1, cl_wC10 X_254 (sf_leL (Int32.not_lt.mp c255) Bx4_254 sf_k23)⟩
          have B258 : sf_B 0 23 x4_254 := sf_leL (Int32.not_lt.mp c255) Bx4_254 sf_k23
          have B259 : sf_B 0 23 x3_254 := sf_leT R0_254 Bx3_254 B258
          refine pm_R_lo pm_M24 (pc' := 28) rfl rfl rfl ?_
          refine pm_R_lo pm_M24 (pc' := 29) rfl rfl rfl ?_
          refine cl_R_cvS pm_M24 (pc' := 32) (a := 10) (ra := []) (rest := [.int x4_254]) (ls' := [.ref 10]) rfl rfl (Or.inl rfl) pm_M25 (T.sw10 G) rfl (by decide) (by decide) rfl rfl (Nat.le_of_ble_eq_true rfl) rfl rfl ?_
          refine cl_e25 (d := d + 4) (s := 10) (v := 23) (by decide) (by decide) (T.sw10 G) (T.sb10 G) rfl (by decide) ?_
          show pm_R _ 24 32 [.ref 30, .ref 10, .int x2_254, .int x3_254, .int x4_254] [.int 23, .int x4_254] _ _
          refine pm_R_icmp pm_M24 (t := 46) (pc' := 35) rfl rfl rfl (fun c260 => ?_) (fun c260 => ?_)
          · have B261 : sf_B 23 23 x4_254 := sf_eqL c260 sf_k23
            refine pm_R_lo pm_M24 (pc' := 47) rfl rfl rfl ?_
            refine pm_R_lo pm_M24 (pc' := 48) rfl rfl rfl ?_
            refine pm_R_lo pm_M24 (pc' := 49) rfl rfl rfl ?_
            refine pm_R_lo pm_M24 (pc' := 51) rfl rfl rfl ?_
            refine pm_R_cv pm_M24 (pc' := 54) (a := 30) (ra := [.int x4_254, .int x3_254, .ref 10]) (rest := []) (ls' := [.ref 30, .ref 10, .int x3_254, .int x4_254, pm_no]) rfl rfl (Or.inl rfl) pm_M36 T.e30 rfl (by decide) (T.lt (by decide)) rfl rfl (Nat.le_of_ble_eq_true rfl) rfl rfl ?_
            refine cl_c36_10 (d := d + 0) G T (sf_weak B259 (by decide) (by decide)) (sf_weak B261 (by decide) (by decide)) (fun r262 B263 => ?_)
            show pm_R _ 24 54 [.ref 30, .ref 10, .int x2_254, .int x3_254, .int x4_254] [.int r262] _ _
            refine pm_R_ifc pm_M24 (t := 59) (pc' := 57) rfl rfl rfl (fun c269 => ?_) (fun c269 => ?_)
            · have B270 : sf_B 0 0 r262 := sf_eqL c269 sf_k0
              refine sf_R_iinc pm_M24 (pc' := 62) (ls' := fun z => [.ref 30, .ref 10, .int z, .int x3_254, .int x4_254]) rfl B257 rfl (by decide) (by decide) (by decide) (fun _ => rfl) rfl (fun z271 e272 B273 => ?_)
              show pm_R _ 24 62 [.ref 30, .ref 10, .int z271, .int x3_254, .int x4_254] [] _ _
              refine pm_R_lo pm_M24 (pc' := 64) rfl rfl rfl ?_
              refine pm_R_op pm_M24 (pc' := 65) (st' := [.int 1, .int x4_254]) rfl rfl rfl ?_
              refine sf_R_iadd pm_M24 (pc' := 66) rfl rfl B261 sf_k1 (by decide) (by decide) (fun z274 e275 B276 => ?_)
              refine pm_R_lo pm_M24 (pc' := 67) (ls' := [.ref 30, .ref 10, .int z271, .int z274, .int x4_254]) (st' := []) rfl rfl rfl ?_
              refine sf_R_iinc pm_M24 (pc' := 70) (ls' := fun z => [.ref 30, .ref 10, .int z271, .int z274, .int z]) rfl B261 rfl (by decide) (by decide) (by decide) (fun _ => rfl) rfl (fun z277 e278 B279 => ?_)
              show pm_R _ 24 70 [.ref 30, .ref 10, .int z271, .int z274, .int z277] [] _ _
              refine pm_R_br pm_M24 (pc' := 17) rfl rfl ?_
              exact ih_254 _ (sf_up hN_254 e278 B261 (by decide) (by decide)) z271 z274 z277 (sf_weak B273 (by decide) (by decide)) (sf_weak B276 (by decide) (by decide)) (sf_weak B279 (by decide) (by decide)) (cl_aux55 _ _ _ _ e275 e278 B261.1 B261.2 R0_254) (cl_wA10 X_254 (sf_weak B261 (by decide) (by decide)) (Or.inl c260) e272 e278) rfl
            · have B280 : sf_B 1 1 r262 := sf_neL0 c269 sf_k0 B263
              refine pm_R_lo pm_M24 (pc' := 58) rfl rfl rfl ?_
              exact pm_R_ret pm_M24 (r := some (.int x2_254)) rfl (pm_ret_i _) (K x2_254 (sf_weak B257 (by decide) (by decide)))
          · have B281 : sf_B 0 22 x4_254 := sf_neH0 c260 sf_k23 B258
            have B282 : sf_B 0 22 x3_254 := sf_leT R0_254 B259 B281
            refine pm_R_lo pm_M24 (pc' := 36) rfl rfl rfl ?_
            refine pm_R_lo pm_M24 (pc' := 38) rfl rfl rfl ?_
            refine cl_R_cvS pm_M24 (pc' := 41) (a := 10) (ra := [.int x4_254]) (rest := []) (ls' := [.ref 10, .int x4_254]) rfl rfl (Or.inl rfl) pm_M27 (T.sw10 G) rfl (by decide) (by decide) rfl rfl (Nat.le_of_ble_eq_true rfl) rfl rfl ?_
            refine cl_e27 (d := d + 1) (s := 10) (v := 23) (by decide) (by decide) (T.sw10 G) (T.sb10 G) rfl (sf_in B281 (by decide) (by decide)) B281.1 (Int.lt_of_le_of_lt B281.2 (by decide)) (cl_ch10 B281).1 (cl_ch10 B281).2 ?_
            show pm_R _ 24 41 [.ref 30, .ref 10, .int x2_254, .int x3_254, .int x4_254] [.int ((pm_sby.getD 3 []).getD (Int32.toNatClampNeg x4_254) 0)] _ _
            refine pm_R_op pm_M24 (pc' := 43) (st' := [.int 32, .int ((pm_sby.getD 3 []).getD (Int32.toNatClampNeg x4_254) 0)]) rfl rfl rfl ?_
            refine pm_R_icmp pm_M24 (t := 67) (pc' := 46) rfl rfl rfl (fun c283 => ?_) (fun c283 => ?_)
            · skip
              refine sf_R_iinc pm_M24 (pc' := 70) (ls' := fun z => [.ref 30, .ref 10, .int x2_254, .int x3_254, .int z]) rfl B281 rfl (by decide) (by decide) (by decide) (fun _ => rfl) rfl (fun z284 e285 B286 => ?_)
              show pm_R _ 24 70 [.ref 30, .ref 10, .int x2_254, .int x3_254, .int z284] [] _ _
              refine pm_R_br pm_M24 (pc' := 17) rfl rfl ?_
              exact ih_254 _ (sf_up hN_254 e285 B281 (by decide) (by decide)) x2_254 x3_254 z284 (sf_weak B257 (by decide) (by decide)) (sf_weak B282 (by decide) (by decide)) (sf_weak B286 (by decide) (by decide)) (cl_aux56 _ _ _ e285 B282.1 B282.2 B281.1 B281.2 R0_254) (cl_wB10 X_254 (sf_weak B281 (by decide) (by decide)) e285) rfl
            · have B287 : sf_B 32 32 ((pm_sby.getD 3 []).getD (Int32.toNatClampNeg x4_254) 0) := sf_eqL (Classical.not_not.mp c283) sf_k32
              refine pm_R_lo pm_M24 (pc' := 47) rfl rfl rfl ?_
              refine pm_R_lo pm_M24 (pc' := 48) rfl rfl rfl ?_
              refine pm_R_lo pm_M24 (pc' := 49) rfl rfl rfl ?_
              refine pm_R_lo pm_M24 (pc' := 51) rfl rfl rfl ?_
              refine pm_R_cv pm_M24 (pc' := 54) (a := 30) (ra := [.int x4_254, .int x3_254, .ref 10]) (rest := []) (ls' := [.ref 30, .ref 10, .int x3_254, .int x4_254, pm_no]) rfl rfl (Or.inl rfl) pm_M36 T.e30 rfl (by decide) (T.lt (by decide)) rfl rfl (Nat.le_of_ble_eq_true rfl) rfl rfl ?_
              refine cl_c36_10 (d := d + 0) G T (sf_weak B282 (by decide) (by decide)) (sf_weak B281 (by decide) (by decide)) (fun r288 B289 => ?_)
              show pm_R _ 24 54 [.ref 30, .ref 10, .int x2_254, .int x3_254, .int x4_254] [.int r288] _ _
              refine pm_R_ifc pm_M24 (t := 59) (pc' := 57) rfl rfl rfl (fun c295 => ?_) (fun c295 => ?_)
              · have B296 : sf_B 0 0 r288 := sf_eqL c295 sf_k0
                refine sf_R_iinc pm_M24 (pc' := 62) (ls' := fun z => [.ref 30, .ref 10, .int z, .int x3_254, .int x4_254]) rfl B257 rfl (by decide) (by decide) (by decide) (fun _ => rfl) rfl (fun z297 e298 B299 => ?_)
                show pm_R _ 24 62 [.ref 30, .ref 10, .int z297, .int x3_254, .int x4_254] [] _ _
                refine pm_R_lo pm_M24 (pc' := 64) rfl rfl rfl ?_
                refine pm_R_op pm_M24 (pc' := 65) (st' := [.int 1, .int x4_254]) rfl rfl rfl ?_
                refine sf_R_iadd pm_M24 (pc' := 66) rfl rfl B281 sf_k1 (by decide) (by decide) (fun z300 e301 B302 => ?_)
                refine pm_R_lo pm_M24 (pc' := 67) (ls' := [.ref 30, .ref 10, .int z297, .int z300, .int x4_254]) (st' := []) rfl rfl rfl ?_
                refine sf_R_iinc pm_M24 (pc' := 70) (ls' := fun z => [.ref 30, .ref 10, .int z297, .int z300, .int z]) rfl B281 rfl (by decide) (by decide) (by decide) (fun _ => rfl) rfl (fun z303 e304 B305 => ?_)
                show pm_R _ 24 70 [.ref 30, .ref 10, .int z297, .int z300, .int z303] [] _ _
                refine pm_R_br pm_M24 (pc' := 17) rfl rfl ?_
                exact ih_254 _ (sf_up hN_254 e304 B281 (by decide) (by decide)) z297 z300 z303 (sf_weak B299 (by decide) (by decide)) (sf_weak B302 (by decide) (by decide)) (sf_weak B305 (by decide) (by decide)) (cl_aux57 _ _ _ _ e301 e304 B281.1 B281.2 R0_254) (cl_wA10 X_254 (sf_weak B281 (by decide) (by decide)) (Or.inr (Classical.not_not.mp c283)) e298 e304) rfl
              · have B306 : sf_B 1 1 r288 := sf_neL0 c295 sf_k0 B289
                refine pm_R_lo pm_M24 (pc' := 58) rfl rfl rfl ?_
                exact pm_R_ret pm_M24 (r := some (.int x2_254)) rfl (pm_ret_i _) (K x2_254 (sf_weak B257 (by decide) (by decide)))
    exact L_254 _ 0 0 0 (sf_weak sf_k0 (by decide) (by decide)) (sf_weak sf_k0 (by decide) (by decide)) (sf_weak sf_k0 (by decide) (by decide)) (by decide) (by decide) rfl
  · skip
    refine pm_R_op pm_M24 (pc' := 9) (st' := [.int (-1)]) rfl rfl rfl ?_
    exact pm_R_ret pm_M24 (r := some (.int (-1))) rfl rfl (K (-1) (sf_weak sf_kn1 (by decide) (by decide)))
