set_option maxRecDepth 100000 in
set_option maxHeartbeats 4000000 in
/-- SilentTableModel.split -/
theorem rf_c232 {d : Nat} {m : Nat → Int32} {w : Int64} {h : pm_H} {Q : Option Value → pm_H → Prop} {a0 : Int32} (T : rf_T m w h) (Ba0 : sf_B 0 22 a0) (Bf31 : sf_B 0 21 (m 31)) (K : ∀ (m' : Nat → Int32) (w' : Int64) (h' : pm_H), rf_T m' w' h' → rf_G [41, 57, 58, 59, 60, 61, 62, 63] h h' → rf_W [31] m m' → rf_sp h h' (m 31) (m' 31) a0 → Q none h') : pm_R (d + 3) 232 0 [.ref 41, .int a0, pm_no, pm_no, pm_no, pm_no, pm_no, pm_no, pm_no, pm_no, pm_no, pm_no, pm_no] [] h Q := by
  refine pm_R_lo pm_M232 (pc' := 1) rfl rfl rfl ?_
  refine rf_R_get pm_M232 T (pc' := 4) (v := .ref 60) rfl rfl rfl rfl ?_
  refine pm_R_lo pm_M232 (pc' := 5) rfl rfl rfl ?_
  obtain ⟨f1, e2, b3⟩ := T.2.2.2.1 60 (by decide) (by decide)
  refine rf_R_lld pm_M232 T (pc' := 6) rfl e2 (by decide) (by decide) (sf_in Ba0 (by decide) (by decide)) rfl (fun z4 ez5 => ?_)
  have B6 : lf_B 0 9223372036854775807 z4 := ez5 ▸ b3 _
  refine pm_R_lo pm_M232 (pc' := 7) (ls' := [.ref 41, .int a0, .long z4, pm_no, pm_no, pm_no, pm_no, pm_no, pm_no, pm_no, pm_no, pm_no, pm_no]) (st' := []) rfl rfl rfl ?_
  refine pm_R_lo pm_M232 (pc' := 8) rfl rfl rfl ?_
  refine rf_R_get pm_M232 T (pc' := 11) (v := .ref 58) rfl rfl rfl rfl ?_
  refine pm_R_lo pm_M232 (pc' := 12) rfl rfl rfl ?_
  obtain ⟨f7, e8, b9⟩ := T.2.2.2.1 58 (by decide) (by decide)
  refine rf_R_ild pm_M232 T (pc' := 13) rfl e8 (by decide) (sf_in Ba0 (by decide) (by decide)) rfl (fun z10 ez11 => ?_)
  have B12 : sf_B 0 11 z10 := ez11 ▸ b9 _
  refine pm_R_lo pm_M232 (pc' := 15) (ls' := [.ref 41, .int a0, .long z4, pm_no, .int z10, pm_no, pm_no, pm_no, pm_no, pm_no, pm_no, pm_no, pm_no]) (st' := []) rfl rfl rfl ?_
  refine pm_R_lo pm_M232 (pc' := 16) rfl rfl rfl ?_
  refine rf_R_get pm_M232 T (pc' := 19) (v := .ref 59) rfl rfl rfl rfl ?_
  refine pm_R_lo pm_M232 (pc' := 20) rfl rfl rfl ?_
  obtain ⟨f13, e14, b15⟩ := T.2.2.2.1 59 (by decide) (by decide)
  refine rf_R_ild pm_M232 T (pc' := 21) rfl e14 (by decide) (sf_in Ba0 (by decide) (by decide)) rfl (fun z16 ez17 => ?_)
  have B18 : sf_B 0 11 z16 := ez17 ▸ b15 _
  refine pm_R_lo pm_M232 (pc' := 23) (ls' := [.ref 41, .int a0, .long z4, pm_no, .int z10, .int z16, pm_no, pm_no, pm_no, pm_no, pm_no, pm_no, pm_no]) (st' := []) rfl rfl rfl ?_
  refine pm_R_lo pm_M232 (pc' := 25) rfl rfl rfl ?_
  refine pm_R_lo pm_M232 (pc' := 27) (ls' := [.ref 41, .int a0, .long z4, pm_no, .int z10, .int z16, .int z10, pm_no, pm_no, pm_no, pm_no, pm_no, pm_no]) (st' := []) rfl rfl rfl ?_
  have L_3517 : ∀ (N : Nat) (x6_3517 : Int32) (y2_3517 : Int64) (g7_3517 : Value) (g8_3517 : Value) (g9_3517 : Value), sf_B 0 11 x6_3517 → lf_B 0 9223372036854775807 y2_3517 → g7_3517.category = 1 → g9_3517.category = 1 → z10.toInt ≤ x6_3517.toInt → (11 - x6_3517.toInt).toNat = N → pm_R (d + 3) 232 27 [.ref 41, .int a0, .long y2_3517, pm_no, .int z10, .int z16, .int x6_3517, g7_3517, g8_3517, g9_3517, pm_no, pm_no, pm_no] [] h Q := by
    intro N
    induction N using Nat.strongRecOn with
    | ind N ih_3517 =>
      intro x6_3517 y2_3517 g7_3517 g8_3517 g9_3517 Bx6_3517 By2_3517 Cg7_3517 Cg9_3517 R0_3517 hN_3517
      refine pm_R_lo pm_M232 (pc' := 29) rfl rfl rfl ?_
      refine pm_R_lo pm_M232 (pc' := 31) rfl rfl rfl ?_
      refine pm_R_icmp pm_M232 (t := 192) (pc' := 34) rfl rfl rfl (fun c3518 => ?_) (fun c3518 => ?_)
      · skip
        exact pm_R_ret pm_M232 (r := none) (pm_q232_1 (Nat.le_of_ble_eq_true rfl)) rfl (K m w h T (rf_G.refl [41, 57, 58, 59, 60, 61, 62, 63] h) (rf_W.refl [31] m) (fun f g ef eg => Or.inl ⟨ef, eg, rfl⟩))
      · have B3519 : sf_B 0 10 x6_3517 := sf_ltL (Int32.not_le.mp c3518) Bx6_3517 B18
        have B3520 : sf_B 0 10 z10 := sf_leT R0_3517 B12 B3519
        have B3521 : sf_B 1 11 z16 := sf_ltR (Int32.not_le.mp c3518) Bx6_3517 B18
        refine pm_R_op pm_M232 (pc' := 35) (st' := [.int 0]) rfl rfl rfl ?_
        refine pm_R_lo pm_M232 (pc' := 37) (ls' := [.ref 41, .int a0, .long y2_3517, pm_no, .int z10, .int z16, .int x6_3517, .int 0, g8_3517, g9_3517, pm_no, pm_no, pm_no]) (st' := []) rfl rfl rfl ?_
        have L_5262 : ∀ (N : Nat) (x7_5262 : Int32) (y2_5262 : Int64) (g8_5262 : Value) (g9_5262 : Value), sf_B 0 10 x7_5262 → lf_B 0 9223372036854775807 y2_5262 → g9_5262.category = 1 → (10 - x7_5262.toInt).toNat = N → pm_R (d + 3) 232 37 [.ref 41, .int a0, .long y2_5262, pm_no, .int z10, .int z16, .int x6_3517, .int x7_5262, g8_5262, g9_5262, pm_no, pm_no, pm_no] [] h Q := by
          intro N
          induction N using Nat.strongRecOn with
          | ind N ih_5262 =>
            intro x7_5262 y2_5262 g8_5262 g9_5262 Bx7_5262 By2_5262 Cg9_5262 hN_5262
            refine pm_R_lo pm_M232 (pc' := 39) rfl rfl rfl ?_
            refine pm_R_lo pm_M232 (pc' := 40) rfl rfl rfl ?_
            refine pm_R_cv pm_M232 (pc' := 43) (a := 41) (ra := []) (rest := [.int x7_5262]) (ls' := [.ref 41]) rfl rfl (Or.inl rfl) pm_M209 T.2.1 rfl (by decide) (Nat.lt_of_lt_of_le (by decide) T.1) rfl rfl (Nat.le_of_ble_eq_true rfl) rfl rfl ?_
            refine pm_R_lo pm_M209 (pc' := 1) rfl rfl rfl ?_
            refine rf_R_get pm_M209 T (pc' := 4) (v := .ref 47) rfl rfl rfl rfl ?_
            refine pm_R_op pm_M209 (pc' := 6) (st' := [.int 100, .ref 47]) rfl rfl rfl ?_
            refine pm_R_lo pm_M209 (pc' := 7) rfl rfl rfl ?_
            have B5263 : sf_B 0 1 (m 23) := T.2.2.1 23
            refine rf_R_get pm_M209 T (pc' := 10) (v := .int (m 23)) rfl rfl rfl rfl ?_
            refine sf_R_imul pm_M209 (pc' := 11) rfl rfl sf_k100 B5263 (by decide) (by decide) (by decide) (fun z5264 e5265 B5266 => ?_)
            obtain ⟨f5267, e5268, b5269⟩ := T.2.2.2.1 47 (by decide) (by decide)
            refine rf_R_ild pm_M209 T (pc' := 12) rfl e5268 (by decide) (sf_in B5266 (by decide) (by decide)) rfl (fun z5270 ez5271 => ?_)
            have e5272 : (z5264).toInt = 100 * ((m 23)).toInt + 0 := by
              have q0 := e5265
              simp only [(show (100 : Int32).toInt = 100 from rfl)] at q0
              omega
            have B5273 : sf_B 0 10 z5270 := ez5271 ▸ rf_p47a b5269 e5272 B5263 (by decide)
            refine pm_R_ret pm_M209 (r := some (.int z5270)) rfl (pm_ret_i _) ?_
            show pm_R _ 232 43 [.ref 41, .int a0, .long y2_5262, pm_no, .int z10, .int z16, .int x6_3517, .int x7_5262, g8_5262, g9_5262, pm_no, pm_no, pm_no] [.int z5270, .int x7_5262] _ _
            refine pm_R_icmp pm_M232 (t := 186) (pc' := 46) rfl rfl rfl (fun c5274 => ?_) (fun c5274 => ?_)
            · skip
              refine sf_R_iinc pm_M232 (pc' := 189) (ls' := fun z => [.ref 41, .int a0, .long y2_5262, pm_no, .int z10, .int z16, .int z, .int x7_5262, g8_5262, g9_5262, pm_no, pm_no, pm_no]) (pm_q232_1 (Nat.le_of_ble_eq_true rfl)) B3519 rfl (by decide) (by decide) (by decide) (fun _ => rfl) rfl (fun z5275 e5276 B5277 => ?_)
              show pm_R _ 232 189 [.ref 41, .int a0, .long y2_5262, pm_no, .int z10, .int z16, .int z5275, .int x7_5262, g8_5262, g9_5262, pm_no, pm_no, pm_no] [] _ _
              refine pm_R_br pm_M232 (pc' := 27) (pm_q232_1 (Nat.le_of_ble_eq_true rfl)) rfl ?_
              exact ih_3517 _ (sf_up hN_3517 e5276 B3519 (by decide) (by decide)) z5275 y2_5262 (.int x7_5262) (g8_5262) (g9_5262) (sf_weak B5277 (by decide) (by decide)) By2_5262 rfl Cg9_5262 (by have q0 := e5276; have q1 := B3520.1; have q2 := B3520.2; have q3 := B3519.1; have q4 := B3519.2; have q5 := R0_3517; omega) rfl
            · have B5278 : sf_B 0 9 x7_5262 := sf_ltL (Int32.not_le.mp c5274) Bx7_5262 B5273
              have B5279 : sf_B 1 10 z5270 := sf_ltR (Int32.not_le.mp c5274) Bx7_5262 B5273
              refine pm_R_lo pm_M232 (pc' := 47) rfl rfl rfl ?_
              refine pm_R_lo pm_M232 (pc' := 49) rfl rfl rfl ?_
              refine pm_R_op pm_M232 (pc' := 50) (st' := [.int 0, .int x7_5262, .ref 41]) rfl rfl rfl ?_
              refine pm_R_cv pm_M232 (pc' := 53) (a := 41) (ra := [.int 0, .int x7_5262]) (rest := []) (ls' := [.ref 41, .int x7_5262, .int 0]) rfl rfl (Or.inl rfl) pm_M210 T.2.1 rfl (by decide) (Nat.lt_of_lt_of_le (by decide) T.1) rfl rfl (Nat.le_of_ble_eq_true rfl) rfl rfl ?_
              refine pm_R_lo pm_M210 (pc' := 1) rfl rfl rfl ?_
              refine rf_R_get pm_M210 T (pc' := 4) (v := .ref 47) rfl rfl rfl rfl ?_
              refine pm_R_op pm_M210 (pc' := 6) (st' := [.int 100, .ref 47]) rfl rfl rfl ?_
              refine pm_R_lo pm_M210 (pc' := 7) rfl rfl rfl ?_
              refine rf_R_get pm_M210 T (pc' := 10) (v := .int (m 23)) rfl rfl rfl rfl ?_
              refine sf_R_imul pm_M210 (pc' := 11) rfl rfl sf_k100 B5263 (by decide) (by decide) (by decide) (fun z5280 e5281 B5282 => ?_)
              refine pm_R_op pm_M210 (pc' := 12) (st' := [.int 2, .int z5280, .ref 47]) rfl rfl rfl ?_
              refine sf_R_iadd pm_M210 (pc' := 13) rfl rfl B5282 sf_k2 (by decide) (by decide) (fun z5283 e5284 B5285 => ?_)
              refine pm_R_op pm_M210 (pc' := 14) (st' := [.int 4, .int z5283, .ref 47]) rfl rfl rfl ?_
              refine pm_R_lo pm_M210 (pc' := 15) rfl rfl rfl ?_
              refine sf_R_imul pm_M210 (pc' := 16) rfl rfl sf_k4 B5278 (by decide) (by decide) (by decide) (fun z5286 e5287 B5288 => ?_)
              refine sf_R_iadd pm_M210 (pc' := 17) rfl rfl B5285 B5288 (by decide) (by decide) (fun z5289 e5290 B5291 => ?_)
              refine pm_R_lo pm_M210 (pc' := 18) rfl rfl rfl ?_
              refine sf_R_iadd pm_M210 (pc' := 19) rfl rfl B5291 sf_k0 (by decide) (by decide) (fun z5292 e5293 B5294 => ?_)
              refine rf_R_ild pm_M210 T (pc' := 20) rfl e5268 (by decide) (sf_in B5294 (by decide) (by decide)) rfl (fun z5295 ez5296 => ?_)
              have e5297 : (z5292).toInt = 100 * ((m 23)).toInt + 4 * (x7_5262).toInt + 2 := by
                have q0 := e5281
                have q1 := e5284
                have q2 := e5287
                have q3 := e5290
                have q4 := e5293
                simp only [(show (0 : Int32).toInt = 0 from rfl), (show (2 : Int32).toInt = 2 from rfl), (show (4 : Int32).toInt = 4 from rfl), (show (100 : Int32).toInt = 100 from rfl)] at q0 q1 q2 q3 q4
                omega
              have B5298 : sf_B 0 5 z5295 := ez5296 ▸ rf_p47r b5269 e5297 B5263 B5278 (by decide) (by decide) (by decide)
              refine pm_R_ret pm_M210 (r := some (.int z5295)) rfl (pm_ret_i _) ?_
              show pm_R _ 232 53 [.ref 41, .int a0, .long y2_5262, pm_no, .int z10, .int z16, .int x6_3517, .int x7_5262, g8_5262, g9_5262, pm_no, pm_no, pm_no] [.int z5295] _ _
              refine pm_R_lo pm_M232 (pc' := 54) rfl rfl rfl ?_
              refine rf_R_get pm_M232 T (pc' := 57) (v := .ref 57) rfl rfl rfl rfl ?_
              refine pm_R_lo pm_M232 (pc' := 58) rfl rfl rfl ?_
              obtain ⟨f5299, e5300, b5301⟩ := T.2.2.2.1 57 (by decide) (by decide)
              refine rf_R_ild pm_M232 T (pc' := 59) rfl e5300 (by decide) (sf_in Ba0 (by decide) (by decide)) rfl (fun z5302 ez5303 => ?_)
              have B5304 : sf_B 0 5 z5302 := ez5303 ▸ b5301 _
              refine pm_R_icmp pm_M232 (t := 77) (pc' := 62) rfl rfl rfl (fun c5305 => ?_) (fun c5305 => ?_)
              · skip
                refine pm_R_op pm_M232 (pc' := 78) (st' := [.long 0]) rfl rfl rfl ?_
                refine pm_R_lo pm_M232 (pc' := 80) (ls' := [.ref 41, .int a0, .long y2_5262, pm_no, .int z10, .int z16, .int x6_3517, .int x7_5262, .long 0, pm_no, pm_no, pm_no, pm_no]) (st' := []) rfl rfl rfl ?_
                refine pm_R_lo pm_M232 (pc' := 81) rfl rfl rfl ?_
                refine pm_R_lo pm_M232 (pc' := 83) rfl rfl rfl ?_
                refine sf_R_lcmp pm_M232 (pc' := 84) rfl rfl (fun z5306 e5307 => ?_)
                have B5308 : sf_B 0 2147483647 z5306 := sf_leR (Int32.not_lt.mp (lf_cmpGe e5307 By2_5262 (⟨by decide, by decide⟩ : lf_B 0 0 0) (by decide))) sf_k0 (sf_any z5306)
                refine pm_R_ifc pm_M232 (t := 175) (pc' := 87) rfl rfl rfl (fun c5309 => ?_) (fun c5309 => absurd (Int32.not_le.mp c5309) (sf_nlt B5308 sf_k0 (by decide)))
                have k5310 := lf_ge e5307 B5308 (by decide)
                skip
                refine pm_R_lo pm_M232 (pc' := 176) (pm_q232_1 (Nat.le_of_ble_eq_true rfl)) rfl rfl ?_
                refine pm_R_lo pm_M232 (pc' := 178) (pm_q232_1 (Nat.le_of_ble_eq_true rfl)) rfl rfl ?_
                refine sf_R_lsubN pm_M232 (pc' := 179) (pm_q232_1 (Nat.le_of_ble_eq_true rfl)) rfl By2_5262 (⟨by decide, by decide⟩ : lf_B 0 0 0) (by decide) k5310 (fun z5311 e5312 B5313 => ?_)
                refine pm_R_lo pm_M232 (pc' := 180) (ls' := [.ref 41, .int a0, .long z5311, pm_no, .int z10, .int z16, .int x6_3517, .int x7_5262, .long 0, pm_no, pm_no, pm_no, pm_no]) (st' := []) (pm_q232_1 (Nat.le_of_ble_eq_true rfl)) rfl rfl ?_
                refine sf_R_iinc pm_M232 (pc' := 183) (ls' := fun z => [.ref 41, .int a0, .long z5311, pm_no, .int z10, .int z16, .int x6_3517, .int z, .long 0, pm_no, pm_no, pm_no, pm_no]) (pm_q232_1 (Nat.le_of_ble_eq_true rfl)) B5278 rfl (by decide) (by decide) (by decide) (fun _ => rfl) rfl (fun z5314 e5315 B5316 => ?_)
                show pm_R _ 232 183 [.ref 41, .int a0, .long z5311, pm_no, .int z10, .int z16, .int x6_3517, .int z5314, .long 0, pm_no, pm_no, pm_no, pm_no] [] _ _
                refine pm_R_br pm_M232 (pc' := 37) (pm_q232_1 (Nat.le_of_ble_eq_true rfl)) rfl ?_
                exact ih_5262 _ (sf_up hN_5262 e5315 B5278 (by decide) (by decide)) z5314 z5311 (.long 0) (pm_no) (sf_weak B5316 (by decide) (by decide)) B5313 rfl rfl
              · refine pm_R_lo pm_M232 (pc' := 63) rfl rfl rfl ?_
                refine pm_R_lo pm_M232 (pc' := 65) rfl rfl rfl ?_
                refine pm_R_lo pm_M232 (pc' := 67) rfl rfl rfl ?_
                refine pm_R_lo pm_M232 (pc' := 69) rfl rfl rfl ?_
                refine pm_R_lo pm_M232 (pc' := 71) rfl rfl rfl ?_
                refine pm_R_cv pm_M232 (pc' := 74) (a := 41) (ra := [.int z16, .int x6_3517, .int z10, .int x7_5262]) (rest := []) (ls' := [.ref 41, .int x7_5262, .int z10, .int x6_3517, .int z16]) rfl rfl (Or.inl rfl) pm_M211 T.2.1 rfl (by decide) (Nat.lt_of_lt_of_le (by decide) T.1) rfl rfl (Nat.le_of_ble_eq_true rfl) rfl rfl ?_
                refine pm_R_lo pm_M211 (pc' := 1) rfl rfl rfl ?_
                refine rf_R_get pm_M211 T (pc' := 4) (v := .ref 55) rfl rfl rfl rfl ?_
                refine pm_R_lo pm_M211 (pc' := 5) rfl rfl rfl ?_
                refine pm_R_lo pm_M211 (pc' := 6) rfl rfl rfl ?_
                refine pm_R_op pm_M211 (pc' := 7) (st' := [.int 1, .int x7_5262, .ref 41, .ref 55]) rfl rfl rfl ?_
                refine pm_R_cv pm_M211 (pc' := 10) (a := 41) (ra := [.int 1, .int x7_5262]) (rest := [.ref 55]) (ls' := [.ref 41, .int x7_5262, .int 1]) rfl rfl (Or.inl rfl) pm_M210 T.2.1 rfl (by decide) (Nat.lt_of_lt_of_le (by decide) T.1) rfl rfl (Nat.le_of_ble_eq_true rfl) rfl rfl ?_
                refine pm_R_lo pm_M210 (pc' := 1) rfl rfl rfl ?_
                refine rf_R_get pm_M210 T (pc' := 4) (v := .ref 47) rfl rfl rfl rfl ?_
                refine pm_R_op pm_M210 (pc' := 6) (st' := [.int 100, .ref 47]) rfl rfl rfl ?_
                refine pm_R_lo pm_M210 (pc' := 7) rfl rfl rfl ?_
                refine rf_R_get pm_M210 T (pc' := 10) (v := .int (m 23)) rfl rfl rfl rfl ?_
                refine sf_R_imul pm_M210 (pc' := 11) rfl rfl sf_k100 B5263 (by decide) (by decide) (by decide) (fun z5317 e5318 B5319 => ?_)
                refine pm_R_op pm_M210 (pc' := 12) (st' := [.int 2, .int z5317, .ref 47]) rfl rfl rfl ?_
                refine sf_R_iadd pm_M210 (pc' := 13) rfl rfl B5319 sf_k2 (by decide) (by decide) (fun z5320 e5321 B5322 => ?_)
                refine pm_R_op pm_M210 (pc' := 14) (st' := [.int 4, .int z5320, .ref 47]) rfl rfl rfl ?_
                refine pm_R_lo pm_M210 (pc' := 15) rfl rfl rfl ?_
                refine sf_R_imul pm_M210 (pc' := 16) rfl rfl sf_k4 B5278 (by decide) (by decide) (by decide) (fun z5323 e5324 B5325 => ?_)
                refine sf_R_iadd pm_M210 (pc' := 17) rfl rfl B5322 B5325 (by decide) (by decide) (fun z5326 e5327 B5328 => ?_)
                refine pm_R_lo pm_M210 (pc' := 18) rfl rfl rfl ?_
                refine sf_R_iadd pm_M210 (pc' := 19) rfl rfl B5328 sf_k1 (by decide) (by decide) (fun z5329 e5330 B5331 => ?_)
                refine rf_R_ild pm_M210 T (pc' := 20) rfl e5268 (by decide) (sf_in B5331 (by decide) (by decide)) rfl (fun z5332 ez5333 => ?_)
                have e5334 : (z5329).toInt = 100 * ((m 23)).toInt + 4 * (x7_5262).toInt + 3 := by
                  have q0 := e5318
                  have q1 := e5321
                  have q2 := e5324
                  have q3 := e5327
                  have q4 := e5330
                  simp only [(show (1 : Int32).toInt = 1 from rfl), (show (2 : Int32).toInt = 2 from rfl), (show (4 : Int32).toInt = 4 from rfl), (show (100 : Int32).toInt = 100 from rfl)] at q0 q1 q2 q3 q4
                  omega
                have B5335 : sf_B 0 5 z5332 := ez5333 ▸ rf_p47r b5269 e5334 B5263 B5278 (by decide) (by decide) (by decide)
                refine pm_R_ret pm_M210 (r := some (.int z5332)) rfl (pm_ret_i _) ?_
                show pm_R _ 211 10 [.ref 41, .int x7_5262, .int z10, .int x6_3517, .int z16] [.int z5332, .ref 55] _ _
                refine pm_R_lo pm_M211 (pc' := 11) rfl rfl rfl ?_
                refine pm_R_lo pm_M211 (pc' := 12) rfl rfl rfl ?_
                refine pm_R_cs pm_M211 (pc' := 15) (ra := [.int x6_3517, .int z10, .int z5332]) (rest := [.ref 55]) (ls' := [.int z5332, .int z10, .int x6_3517]) rfl rfl (Or.inl rfl) pm_M207 rfl rfl (Nat.le_of_ble_eq_true rfl) rfl rfl ?_
                refine pm_R_op pm_M207 (pc' := 3) (st' := [.int 144]) rfl rfl rfl ?_
                refine pm_R_lo pm_M207 (pc' := 4) rfl rfl rfl ?_
                refine sf_R_imul pm_M207 (pc' := 5) rfl rfl sf_k144 B5335 (by decide) (by decide) (by decide) (fun z5336 e5337 B5338 => ?_)
                refine pm_R_op pm_M207 (pc' := 7) (st' := [.int 12, .int z5336]) rfl rfl rfl ?_
                refine pm_R_lo pm_M207 (pc' := 8) rfl rfl rfl ?_
                refine sf_R_imul pm_M207 (pc' := 9) rfl rfl sf_k12 B3520 (by decide) (by decide) (by decide) (fun z5339 e5340 B5341 => ?_)
                refine sf_R_iadd pm_M207 (pc' := 10) rfl rfl B5338 B5341 (by decide) (by decide) (fun z5342 e5343 B5344 => ?_)
                refine pm_R_lo pm_M207 (pc' := 11) rfl rfl rfl ?_
                refine sf_R_iadd pm_M207 (pc' := 12) rfl rfl B5344 B3519 (by decide) (by decide) (fun z5345 e5346 B5347 => ?_)
                refine pm_R_ret pm_M207 (r := some (.int z5345)) rfl (pm_ret_i _) ?_
                show pm_R _ 211 15 [.ref 41, .int x7_5262, .int z10, .int x6_3517, .int z16] [.int z5345, .ref 55] _ _
                obtain ⟨f5348, e5349, b5350⟩ := T.2.2.2.1 55 (by decide) (by decide)
                refine rf_R_lld pm_M211 T (pc' := 16) rfl e5349 (by decide) (by decide) (sf_in B5347 (by decide) (by decide)) rfl (fun z5351 ez5352 => ?_)
                have B5353 : lf_B 0 1000000000000 z5351 := ez5352 ▸ b5350 _
                refine pm_R_lo pm_M211 (pc' := 17) rfl rfl rfl ?_
                refine rf_R_get pm_M211 T (pc' := 20) (v := .ref 55) rfl rfl rfl rfl ?_
                refine pm_R_lo pm_M211 (pc' := 21) rfl rfl rfl ?_
                refine pm_R_lo pm_M211 (pc' := 22) rfl rfl rfl ?_
                refine pm_R_op pm_M211 (pc' := 23) (st' := [.int 2, .int x7_5262, .ref 41, .ref 55, .long z5351]) rfl rfl rfl ?_
                refine pm_R_cv pm_M211 (pc' := 26) (a := 41) (ra := [.int 2, .int x7_5262]) (rest := [.ref 55, .long z5351]) (ls' := [.ref 41, .int x7_5262, .int 2]) rfl rfl (Or.inl rfl) pm_M210 T.2.1 rfl (by decide) (Nat.lt_of_lt_of_le (by decide) T.1) rfl rfl (Nat.le_of_ble_eq_true rfl) rfl rfl ?_
                refine pm_R_lo pm_M210 (pc' := 1) rfl rfl rfl ?_
                refine rf_R_get pm_M210 T (pc' := 4) (v := .ref 47) rfl rfl rfl rfl ?_
                refine pm_R_op pm_M210 (pc' := 6) (st' := [.int 100, .ref 47]) rfl rfl rfl ?_
                refine pm_R_lo pm_M210 (pc' := 7) rfl rfl rfl ?_
                refine rf_R_get pm_M210 T (pc' := 10) (v := .int (m 23)) rfl rfl rfl rfl ?_
                refine sf_R_imul pm_M210 (pc' := 11) rfl rfl sf_k100 B5263 (by decide) (by decide) (by decide) (fun z5354 e5355 B5356 => ?_)
                refine pm_R_op pm_M210 (pc' := 12) (st' := [.int 2, .int z5354, .ref 47]) rfl rfl rfl ?_
                refine sf_R_iadd pm_M210 (pc' := 13) rfl rfl B5356 sf_k2 (by decide) (by decide) (fun z5357 e5358 B5359 => ?_)
                refine pm_R_op pm_M210 (pc' := 14) (st' := [.int 4, .int z5357, .ref 47]) rfl rfl rfl ?_
                refine pm_R_lo pm_M210 (pc' := 15) rfl rfl rfl ?_
                refine sf_R_imul pm_M210 (pc' := 16) rfl rfl sf_k4 B5278 (by decide) (by decide) (by decide) (fun z5360 e5361 B5362 => ?_)
                refine sf_R_iadd pm_M210 (pc' := 17) rfl rfl B5359 B5362 (by decide) (by decide) (fun z5363 e5364 B5365 => ?_)
                refine pm_R_lo pm_M210 (pc' := 18) rfl rfl rfl ?_
                refine sf_R_iadd pm_M210 (pc' := 19) rfl rfl B5365 sf_k2 (by decide) (by decide) (fun z5366 e5367 B5368 => ?_)
                refine rf_R_ild pm_M210 T (pc' := 20) rfl e5268 (by decide) (sf_in B5368 (by decide) (by decide)) rfl (fun z5369 ez5370 => ?_)
                have e5371 : (z5366).toInt = 100 * ((m 23)).toInt + 4 * (x7_5262).toInt + 4 := by
                  have q0 := e5355
                  have q1 := e5358
                  have q2 := e5361
                  have q3 := e5364
                  have q4 := e5367
                  simp only [(show (2 : Int32).toInt = 2 from rfl), (show (4 : Int32).toInt = 4 from rfl), (show (100 : Int32).toInt = 100 from rfl)] at q0 q1 q2 q3 q4
                  omega
                have B5372 : sf_B 0 5 z5369 := ez5370 ▸ rf_p47r b5269 e5371 B5263 B5278 (by decide) (by decide) (by decide)
                refine pm_R_ret pm_M210 (r := some (.int z5369)) rfl (pm_ret_i _) ?_
                show pm_R _ 211 26 [.ref 41, .int x7_5262, .int z10, .int x6_3517, .int z16] [.int z5369, .ref 55, .long z5351] _ _
                refine pm_R_lo pm_M211 (pc' := 27) rfl rfl rfl ?_
                refine pm_R_op pm_M211 (pc' := 28) (st' := [.int 1, .int x6_3517, .int z5369, .ref 55, .long z5351]) rfl rfl rfl ?_
                refine sf_R_iadd pm_M211 (pc' := 29) rfl rfl B3519 sf_k1 (by decide) (by decide) (fun z5373 e5374 B5375 => ?_)
                refine pm_R_lo pm_M211 (pc' := 31) rfl rfl rfl ?_
                refine pm_R_cs pm_M211 (pc' := 34) (ra := [.int z16, .int z5373, .int z5369]) (rest := [.ref 55, .long z5351]) (ls' := [.int z5369, .int z5373, .int z16]) rfl rfl (Or.inl rfl) pm_M207 rfl rfl (Nat.le_of_ble_eq_true rfl) rfl rfl ?_
                refine pm_R_op pm_M207 (pc' := 3) (st' := [.int 144]) rfl rfl rfl ?_
                refine pm_R_lo pm_M207 (pc' := 4) rfl rfl rfl ?_
                refine sf_R_imul pm_M207 (pc' := 5) rfl rfl sf_k144 B5372 (by decide) (by decide) (by decide) (fun z5376 e5377 B5378 => ?_)
                refine pm_R_op pm_M207 (pc' := 7) (st' := [.int 12, .int z5376]) rfl rfl rfl ?_
                refine pm_R_lo pm_M207 (pc' := 8) rfl rfl rfl ?_
                refine sf_R_imul pm_M207 (pc' := 9) rfl rfl sf_k12 B5375 (by decide) (by decide) (by decide) (fun z5379 e5380 B5381 => ?_)
                refine sf_R_iadd pm_M207 (pc' := 10) rfl rfl B5378 B5381 (by decide) (by decide) (fun z5382 e5383 B5384 => ?_)
                refine pm_R_lo pm_M207 (pc' := 11) rfl rfl rfl ?_
                refine sf_R_iadd pm_M207 (pc' := 12) rfl rfl B5384 B3521 (by decide) (by decide) (fun z5385 e5386 B5387 => ?_)
                refine pm_R_ret pm_M207 (r := some (.int z5385)) rfl (pm_ret_i _) ?_
                show pm_R _ 211 34 [.ref 41, .int x7_5262, .int z10, .int x6_3517, .int z16] [.int z5385, .ref 55, .long z5351] _ _
                refine rf_R_lld pm_M211 T (pc' := 35) rfl e5349 (by decide) (by decide) (sf_in B5387 (by decide) (by decide)) rfl (fun z5388 ez5389 => ?_)
                have B5390 : lf_B 0 1000000000000 z5388 := ez5389 ▸ b5350 _
                refine pm_R_cs pm_M211 (pc' := 38) (ra := [.long z5388, .long z5351]) (rest := []) (ls' := [.long z5351, pm_no, .long z5388, pm_no]) rfl rfl (Or.inl rfl) pm_M212 rfl rfl (Nat.le_of_ble_eq_true rfl) rfl rfl ?_
                refine rf_c212 (d := d + 0) B5353 B5390 (fun r5391 X5399 B5392 => ?_)
                show pm_R _ 211 38 [.ref 41, .int x7_5262, .int z10, .int x6_3517, .int z16] [.long r5391] _ _
                refine pm_R_ret pm_M211 (r := some (.long r5391)) rfl rfl ?_
                show pm_R _ 232 74 [.ref 41, .int a0, .long y2_5262, pm_no, .int z10, .int z16, .int x6_3517, .int x7_5262, g8_5262, g9_5262, pm_no, pm_no, pm_no] [.long r5391] _ _
                refine pm_R_br pm_M232 (pc' := 78) rfl rfl ?_
                refine pm_R_lo pm_M232 (pc' := 80) (ls' := [.ref 41, .int a0, .long y2_5262, pm_no, .int z10, .int z16, .int x6_3517, .int x7_5262, .long r5391, pm_no, pm_no, pm_no, pm_no]) (st' := []) rfl rfl rfl ?_
                refine pm_R_lo pm_M232 (pc' := 81) rfl rfl rfl ?_
                refine pm_R_lo pm_M232 (pc' := 83) rfl rfl rfl ?_
                refine sf_R_lcmp pm_M232 (pc' := 84) rfl rfl (fun z5400 e5401 => ?_)
                refine pm_R_ifc pm_M232 (t := 175) (pc' := 87) rfl rfl rfl (fun c5402 => ?_) (fun c5402 => ?_)
                · have B5403 : sf_B 0 2147483647 z5400 := sf_leR c5402 sf_k0 (sf_any z5400)
                  have k5404 := lf_ge e5401 B5403 (by decide)
                  refine pm_R_lo pm_M232 (pc' := 176) (pm_q232_1 (Nat.le_of_ble_eq_true rfl)) rfl rfl ?_
                  refine pm_R_lo pm_M232 (pc' := 178) (pm_q232_1 (Nat.le_of_ble_eq_true rfl)) rfl rfl ?_
                  refine sf_R_lsubN pm_M232 (pc' := 179) (pm_q232_1 (Nat.le_of_ble_eq_true rfl)) rfl By2_5262 B5392 (by decide) k5404 (fun z5405 e5406 B5407 => ?_)
                  refine pm_R_lo pm_M232 (pc' := 180) (ls' := [.ref 41, .int a0, .long z5405, pm_no, .int z10, .int z16, .int x6_3517, .int x7_5262, .long r5391, pm_no, pm_no, pm_no, pm_no]) (st' := []) (pm_q232_1 (Nat.le_of_ble_eq_true rfl)) rfl rfl ?_
                  refine sf_R_iinc pm_M232 (pc' := 183) (ls' := fun z => [.ref 41, .int a0, .long z5405, pm_no, .int z10, .int z16, .int x6_3517, .int z, .long r5391, pm_no, pm_no, pm_no, pm_no]) (pm_q232_1 (Nat.le_of_ble_eq_true rfl)) B5278 rfl (by decide) (by decide) (by decide) (fun _ => rfl) rfl (fun z5408 e5409 B5410 => ?_)
                  show pm_R _ 232 183 [.ref 41, .int a0, .long z5405, pm_no, .int z10, .int z16, .int x6_3517, .int z5408, .long r5391, pm_no, pm_no, pm_no, pm_no] [] _ _
                  refine pm_R_br pm_M232 (pc' := 37) (pm_q232_1 (Nat.le_of_ble_eq_true rfl)) rfl ?_
                  exact ih_5262 _ (sf_up hN_5262 e5409 B5278 (by decide) (by decide)) z5408 z5405 (.long r5391) (pm_no) (sf_weak B5410 (by decide) (by decide)) B5407 rfl rfl
                · have B5411 : sf_B (-2147483648) (-1) z5400 := sf_ltL (Int32.not_le.mp c5402) (sf_any z5400) sf_k0
                  have k5412 := lf_lt e5401 B5411 (by decide)
                  have k5413 := sf_lneB e5401 B5411 (by decide)
                  refine pm_R_lo pm_M232 (pc' := 88) rfl rfl rfl ?_
                  refine rf_R_get pm_M232 T (pc' := 91) (v := .ref 55) rfl rfl rfl rfl ?_
                  refine pm_R_lo pm_M232 (pc' := 92) rfl rfl rfl ?_
                  refine pm_R_lo pm_M232 (pc' := 94) rfl rfl rfl ?_
                  refine pm_R_op pm_M232 (pc' := 95) (st' := [.int 2, .int x7_5262, .ref 41, .ref 55]) rfl rfl rfl ?_
                  refine pm_R_cv pm_M232 (pc' := 98) (a := 41) (ra := [.int 2, .int x7_5262]) (rest := [.ref 55]) (ls' := [.ref 41, .int x7_5262, .int 2]) rfl rfl (Or.inl rfl) pm_M210 T.2.1 rfl (by decide) (Nat.lt_of_lt_of_le (by decide) T.1) rfl rfl (Nat.le_of_ble_eq_true rfl) rfl rfl ?_
                  refine pm_R_lo pm_M210 (pc' := 1) rfl rfl rfl ?_
                  refine rf_R_get pm_M210 T (pc' := 4) (v := .ref 47) rfl rfl rfl rfl ?_
                  refine pm_R_op pm_M210 (pc' := 6) (st' := [.int 100, .ref 47]) rfl rfl rfl ?_
                  refine pm_R_lo pm_M210 (pc' := 7) rfl rfl rfl ?_
                  refine rf_R_get pm_M210 T (pc' := 10) (v := .int (m 23)) rfl rfl rfl rfl ?_
                  refine sf_R_imul pm_M210 (pc' := 11) rfl rfl sf_k100 B5263 (by decide) (by decide) (by decide) (fun z5414 e5415 B5416 => ?_)
                  refine pm_R_op pm_M210 (pc' := 12) (st' := [.int 2, .int z5414, .ref 47]) rfl rfl rfl ?_
                  refine sf_R_iadd pm_M210 (pc' := 13) rfl rfl B5416 sf_k2 (by decide) (by decide) (fun z5417 e5418 B5419 => ?_)
                  refine pm_R_op pm_M210 (pc' := 14) (st' := [.int 4, .int z5417, .ref 47]) rfl rfl rfl ?_
                  refine pm_R_lo pm_M210 (pc' := 15) rfl rfl rfl ?_
                  refine sf_R_imul pm_M210 (pc' := 16) rfl rfl sf_k4 B5278 (by decide) (by decide) (by decide) (fun z5420 e5421 B5422 => ?_)
                  refine sf_R_iadd pm_M210 (pc' := 17) rfl rfl B5419 B5422 (by decide) (by decide) (fun z5423 e5424 B5425 => ?_)
                  refine pm_R_lo pm_M210 (pc' := 18) rfl rfl rfl ?_
                  refine sf_R_iadd pm_M210 (pc' := 19) rfl rfl B5425 sf_k2 (by decide) (by decide) (fun z5426 e5427 B5428 => ?_)
                  refine rf_R_ild pm_M210 T (pc' := 20) rfl e5268 (by decide) (sf_in B5428 (by decide) (by decide)) rfl (fun z5429 ez5430 => ?_)
                  have e5431 : (z5426).toInt = 100 * ((m 23)).toInt + 4 * (x7_5262).toInt + 4 := by
                    have q0 := e5415
                    have q1 := e5418
                    have q2 := e5421
                    have q3 := e5424
                    have q4 := e5427
                    simp only [(show (2 : Int32).toInt = 2 from rfl), (show (4 : Int32).toInt = 4 from rfl), (show (100 : Int32).toInt = 100 from rfl)] at q0 q1 q2 q3 q4
                    omega
                  have B5432 : sf_B 0 5 z5429 := ez5430 ▸ rf_p47r b5269 e5431 B5263 B5278 (by decide) (by decide) (by decide)
                  refine pm_R_ret pm_M210 (r := some (.int z5429)) rfl (pm_ret_i _) ?_
                  show pm_R _ 232 98 [.ref 41, .int a0, .long y2_5262, pm_no, .int z10, .int z16, .int x6_3517, .int x7_5262, .long r5391, pm_no, pm_no, pm_no, pm_no] [.int z5429, .ref 55] _ _
                  refine pm_R_lo pm_M232 (pc' := 100) rfl rfl rfl ?_
                  refine pm_R_op pm_M232 (pc' := 101) (st' := [.int 1, .int x6_3517, .int z5429, .ref 55]) rfl rfl rfl ?_
                  refine sf_R_iadd pm_M232 (pc' := 102) rfl rfl B3519 sf_k1 (by decide) (by decide) (fun z5433 e5434 B5435 => ?_)
                  refine pm_R_lo pm_M232 (pc' := 104) rfl rfl rfl ?_
                  refine pm_R_cs pm_M232 (pc' := 107) (ra := [.int z16, .int z5433, .int z5429]) (rest := [.ref 55]) (ls' := [.int z5429, .int z5433, .int z16]) rfl rfl (Or.inl rfl) pm_M207 rfl rfl (Nat.le_of_ble_eq_true rfl) rfl rfl ?_
                  refine pm_R_op pm_M207 (pc' := 3) (st' := [.int 144]) rfl rfl rfl ?_
                  refine pm_R_lo pm_M207 (pc' := 4) rfl rfl rfl ?_
                  refine sf_R_imul pm_M207 (pc' := 5) rfl rfl sf_k144 B5432 (by decide) (by decide) (by decide) (fun z5436 e5437 B5438 => ?_)
                  refine pm_R_op pm_M207 (pc' := 7) (st' := [.int 12, .int z5436]) rfl rfl rfl ?_
                  refine pm_R_lo pm_M207 (pc' := 8) rfl rfl rfl ?_
                  refine sf_R_imul pm_M207 (pc' := 9) rfl rfl sf_k12 B5435 (by decide) (by decide) (by decide) (fun z5439 e5440 B5441 => ?_)
                  refine sf_R_iadd pm_M207 (pc' := 10) rfl rfl B5438 B5441 (by decide) (by decide) (fun z5442 e5443 B5444 => ?_)
                  refine pm_R_lo pm_M207 (pc' := 11) rfl rfl rfl ?_
                  refine sf_R_iadd pm_M207 (pc' := 12) rfl rfl B5444 B3521 (by decide) (by decide) (fun z5445 e5446 B5447 => ?_)
                  refine pm_R_ret pm_M207 (r := some (.int z5445)) rfl (pm_ret_i _) ?_
                  show pm_R _ 232 107 [.ref 41, .int a0, .long y2_5262, pm_no, .int z10, .int z16, .int x6_3517, .int x7_5262, .long r5391, pm_no, pm_no, pm_no, pm_no] [.int z5445, .ref 55] _ _
                  refine rf_R_lld pm_M232 T (pc' := 108) rfl e5349 (by decide) (by decide) (sf_in B5447 (by decide) (by decide)) rfl (fun z5448 ez5449 => ?_)
                  have B5450 : lf_B 0 1000000000000 z5448 := ez5449 ▸ b5350 _
                  refine pm_R_lo pm_M232 (pc' := 110) (ls' := [.ref 41, .int a0, .long y2_5262, pm_no, .int z10, .int z16, .int x6_3517, .int x7_5262, .long r5391, pm_no, .long z5448, pm_no, pm_no]) (st' := []) (pm_q232_1 (Nat.le_of_ble_eq_true rfl)) rfl rfl ?_
                  refine pm_R_lo pm_M232 (pc' := 111) (pm_q232_1 (Nat.le_of_ble_eq_true rfl)) rfl rfl ?_
                  refine rf_R_get pm_M232 T (pc' := 114) (v := .ref 61) (pm_q232_1 (Nat.le_of_ble_eq_true rfl)) rfl rfl rfl ?_
                  refine pm_R_lo pm_M232 (pc' := 115) (pm_q232_1 (Nat.le_of_ble_eq_true rfl)) rfl rfl ?_
                  refine pm_R_lo pm_M232 (pc' := 117) (pm_q232_1 (Nat.le_of_ble_eq_true rfl)) rfl rfl ?_
                  obtain ⟨f5451, e5452, b5453⟩ := T.2.2.2.1 61 (by decide) (by decide)
                  refine rf_R_ist pm_M232 T (pc' := 118) (pm_q232_1 (Nat.le_of_ble_eq_true rfl)) e5452 (by decide) (by decide) (sf_in Ba0 (by decide) (by decide)) ⟨_, rfl, sf_upd b5453 (sf_weak B5278 (by decide) (by decide)) _⟩ rfl (fun h5454 T5455 F5456 e5457 => ?_)
                  have F5458 := (rf_G.refl [41, 57, 58, 59, 60, 61, 62, 63] h).trans F5456 (by decide)
                  refine pm_R_lo pm_M232 (pc' := 119) (pm_q232_1 (Nat.le_of_ble_eq_true rfl)) rfl rfl ?_
                  refine rf_R_get pm_M232 T5455 (pc' := 122) (v := .ref 62) (pm_q232_1 (Nat.le_of_ble_eq_true rfl)) rfl rfl rfl ?_
                  refine pm_R_lo pm_M232 (pc' := 123) (pm_q232_1 (Nat.le_of_ble_eq_true rfl)) rfl rfl ?_
                  refine pm_R_lo pm_M232 (pc' := 125) (pm_q232_1 (Nat.le_of_ble_eq_true rfl)) rfl rfl ?_
                  obtain ⟨f5459, e5460, b5461⟩ := T5455.2.2.2.1 62 (by decide) (by decide)
                  refine rf_R_ist pm_M232 T5455 (pc' := 126) (pm_q232_1 (Nat.le_of_ble_eq_true rfl)) e5460 (by decide) (by decide) (sf_in Ba0 (by decide) (by decide)) ⟨_, rfl, sf_upd b5461 (sf_weak B3519 (by decide) (by decide)) _⟩ rfl (fun h5462 T5463 F5464 e5465 => ?_)
                  have F5466 := F5458.trans F5464 (by decide)
                  refine pm_R_lo pm_M232 (pc' := 127) (pm_q232_1 (Nat.le_of_ble_eq_true rfl)) rfl rfl ?_
                  refine rf_R_get pm_M232 T5463 (pc' := 130) (v := .ref 63) (pm_q232_1 (Nat.le_of_ble_eq_true rfl)) rfl rfl rfl ?_
                  refine pm_R_lo pm_M232 (pc' := 131) (pm_q232_1 (Nat.le_of_ble_eq_true rfl)) rfl rfl ?_
                  refine pm_R_lo pm_M232 (pc' := 132) (pm_q232_1 (Nat.le_of_ble_eq_true rfl)) rfl rfl ?_
                  refine pm_R_lo pm_M232 (pc' := 133) (pm_q232_1 (Nat.le_of_ble_eq_true rfl)) rfl rfl ?_
                  refine pm_R_lo pm_M232 (pc' := 135) (pm_q232_1 (Nat.le_of_ble_eq_true rfl)) rfl rfl ?_
                  refine pm_R_op pm_M232 (pc' := 136) (st' := [.int 1, .int x7_5262, .ref 41, .ref 41, .int a0, .ref 63]) (pm_q232_1 (Nat.le_of_ble_eq_true rfl)) rfl rfl ?_
                  refine pm_R_cv pm_M232 (pc' := 139) (a := 41) (ra := [.int 1, .int x7_5262]) (rest := [.ref 41, .int a0, .ref 63]) (ls' := [.ref 41, .int x7_5262, .int 1]) (pm_q232_1 (Nat.le_of_ble_eq_true rfl)) rfl (Or.inl rfl) pm_M210 T5463.2.1 rfl (by decide) (Nat.lt_of_lt_of_le (by decide) T5463.1) rfl rfl (Nat.le_of_ble_eq_true rfl) rfl rfl ?_
                  refine pm_R_lo pm_M210 (pc' := 1) rfl rfl rfl ?_
                  refine rf_R_get pm_M210 T5463 (pc' := 4) (v := .ref 47) rfl rfl rfl rfl ?_
                  refine pm_R_op pm_M210 (pc' := 6) (st' := [.int 100, .ref 47]) rfl rfl rfl ?_
                  refine pm_R_lo pm_M210 (pc' := 7) rfl rfl rfl ?_
                  refine rf_R_get pm_M210 T5463 (pc' := 10) (v := .int (m 23)) rfl rfl rfl rfl ?_
                  refine sf_R_imul pm_M210 (pc' := 11) rfl rfl sf_k100 B5263 (by decide) (by decide) (by decide) (fun z5467 e5468 B5469 => ?_)
                  refine pm_R_op pm_M210 (pc' := 12) (st' := [.int 2, .int z5467, .ref 47]) rfl rfl rfl ?_
                  refine sf_R_iadd pm_M210 (pc' := 13) rfl rfl B5469 sf_k2 (by decide) (by decide) (fun z5470 e5471 B5472 => ?_)
                  refine pm_R_op pm_M210 (pc' := 14) (st' := [.int 4, .int z5470, .ref 47]) rfl rfl rfl ?_
                  refine pm_R_lo pm_M210 (pc' := 15) rfl rfl rfl ?_
                  refine sf_R_imul pm_M210 (pc' := 16) rfl rfl sf_k4 B5278 (by decide) (by decide) (by decide) (fun z5473 e5474 B5475 => ?_)
                  refine sf_R_iadd pm_M210 (pc' := 17) rfl rfl B5472 B5475 (by decide) (by decide) (fun z5476 e5477 B5478 => ?_)
                  refine pm_R_lo pm_M210 (pc' := 18) rfl rfl rfl ?_
                  refine sf_R_iadd pm_M210 (pc' := 19) rfl rfl B5478 sf_k1 (by decide) (by decide) (fun z5479 e5480 B5481 => ?_)
                  have e5482 := (F5464.cell (by decide) (F5456.cell (by decide) e5268))
                  refine rf_R_ild pm_M210 T5463 (pc' := 20) rfl e5482 (by decide) (sf_in B5481 (by decide) (by decide)) rfl (fun z5483 ez5484 => ?_)
                  have e5485 : (z5479).toInt = 100 * ((m 23)).toInt + 4 * (x7_5262).toInt + 3 := by
                    have q0 := e5468
                    have q1 := e5471
                    have q2 := e5474
                    have q3 := e5477
                    have q4 := e5480
                    simp only [(show (1 : Int32).toInt = 1 from rfl), (show (2 : Int32).toInt = 2 from rfl), (show (4 : Int32).toInt = 4 from rfl), (show (100 : Int32).toInt = 100 from rfl)] at q0 q1 q2 q3 q4
                    omega
                  have B5486 : sf_B 0 5 z5483 := ez5484 ▸ rf_p47r b5269 e5485 B5263 B5278 (by decide) (by decide) (by decide)
                  refine pm_R_ret pm_M210 (r := some (.int z5483)) rfl (pm_ret_i _) ?_
                  show pm_R _ 232 139 [.ref 41, .int a0, .long y2_5262, pm_no, .int z10, .int z16, .int x6_3517, .int x7_5262, .long r5391, pm_no, .long z5448, pm_no, pm_no] [.int z5483, .ref 41, .int a0, .ref 63] _ _
                  refine pm_R_lo pm_M232 (pc' := 141) (pm_q232_1 (Nat.le_of_ble_eq_true rfl)) rfl rfl ?_
                  refine pm_R_lo pm_M232 (pc' := 143) (pm_q232_1 (Nat.le_of_ble_eq_true rfl)) rfl rfl ?_
                  refine pm_R_lo pm_M232 (pc' := 144) (pm_q232_1 (Nat.le_of_ble_eq_true rfl)) rfl rfl ?_
                  refine pm_R_lo pm_M232 (pc' := 146) (pm_q232_1 (Nat.le_of_ble_eq_true rfl)) rfl rfl ?_
                  have k5488 := rf_nz k5412 By2_5262 (by decide) X5399 ez5389 ez5449 (by have q0 := e5377; have q1 := e5374; have q2 := e5380; have q3 := e5383; have q4 := e5386; have q5 := e5437; have q6 := e5434; have q7 := e5440; have q8 := e5443; have q9 := e5446; (try simp only [(show (1 : Int32).toInt = 1 from rfl), (show (12 : Int32).toInt = 12 from rfl), (show (144 : Int32).toInt = 144 from rfl)] at q0 q1 q2 q3 q4 q5 q6 q7 q8 q9 ⊢); omega)
                  have B5489 : lf_B 1 1000000000000 z5448 := lf_nz B5450 (by decide) k5488
                  refine sf_R_ldiv pm_M232 (pc' := 147) (pm_q232_1 (Nat.le_of_ble_eq_true rfl)) rfl By2_5262 B5489 (by decide) (by decide) (fun z5487 e5490 B5491 => ?_)
                  refine pm_R_cv pm_M232 (pc' := 150) (a := 41) (ra := [.long z5487, .int x6_3517, .int z10, .int z5483]) (rest := [.int a0, .ref 63]) (ls' := [.ref 41, .int z5483, .int z10, .int x6_3517, .long z5487, pm_no]) (pm_q232_1 (Nat.le_of_ble_eq_true rfl)) rfl (Or.inl rfl) pm_M230 T5463.2.1 rfl (by decide) (Nat.lt_of_lt_of_le (by decide) T5463.1) rfl rfl (Nat.le_of_ble_eq_true rfl) rfl rfl ?_
                  refine pm_R_lo pm_M230 (pc' := 1) rfl rfl rfl ?_
                  refine rf_R_get pm_M230 T5463 (pc' := 4) (v := .ref 57) rfl rfl rfl rfl ?_
                  refine pm_R_lo pm_M230 (pc' := 5) rfl rfl rfl ?_
                  refine rf_R_get pm_M230 T5463 (pc' := 8) (v := .int (m 31)) rfl rfl rfl rfl ?_
                  refine pm_R_lo pm_M230 (pc' := 9) rfl rfl rfl ?_
                  have e5492 := (F5464.cell (by decide) (F5456.cell (by decide) e5300))
                  refine rf_R_ist pm_M230 T5463 (pc' := 10) rfl e5492 (by decide) (by decide) (sf_in Bf31 (by decide) (by decide)) ⟨_, rfl, sf_upd b5301 B5486 _⟩ rfl (fun h5493 T5494 F5495 e5496 => ?_)
                  have F5497 := F5466.trans F5495 (by decide)
                  refine pm_R_lo pm_M230 (pc' := 11) rfl rfl rfl ?_
                  refine rf_R_get pm_M230 T5494 (pc' := 14) (v := .ref 58) rfl rfl rfl rfl ?_
                  refine pm_R_lo pm_M230 (pc' := 15) rfl rfl rfl ?_
                  refine rf_R_get pm_M230 T5494 (pc' := 18) (v := .int (m 31)) rfl rfl rfl rfl ?_
                  refine pm_R_lo pm_M230 (pc' := 19) rfl rfl rfl ?_
                  have e5498 := (F5495.cell (by decide) (F5464.cell (by decide) (F5456.cell (by decide) e8)))
                  refine rf_R_ist pm_M230 T5494 (pc' := 20) rfl e5498 (by decide) (by decide) (sf_in Bf31 (by decide) (by decide)) ⟨_, rfl, sf_upd b9 (sf_weak B3520 (by decide) (by decide)) _⟩ rfl (fun h5499 T5500 F5501 e5502 => ?_)
                  have F5503 := F5497.trans F5501 (by decide)
                  refine pm_R_lo pm_M230 (pc' := 21) rfl rfl rfl ?_
                  refine rf_R_get pm_M230 T5500 (pc' := 24) (v := .ref 59) rfl rfl rfl rfl ?_
                  refine pm_R_lo pm_M230 (pc' := 25) rfl rfl rfl ?_
                  refine rf_R_get pm_M230 T5500 (pc' := 28) (v := .int (m 31)) rfl rfl rfl rfl ?_
                  refine pm_R_lo pm_M230 (pc' := 29) rfl rfl rfl ?_
                  have e5504 := (F5501.cell (by decide) (F5495.cell (by decide) (F5464.cell (by decide) (F5456.cell (by decide) e14))))
                  refine rf_R_ist pm_M230 T5500 (pc' := 30) rfl e5504 (by decide) (by decide) (sf_in Bf31 (by decide) (by decide)) ⟨_, rfl, sf_upd b15 (sf_weak B3519 (by decide) (by decide)) _⟩ rfl (fun h5505 T5506 F5507 e5508 => ?_)
                  have F5509 := F5503.trans F5507 (by decide)
                  refine pm_R_lo pm_M230 (pc' := 31) rfl rfl rfl ?_
                  refine rf_R_get pm_M230 T5506 (pc' := 34) (v := .ref 60) rfl rfl rfl rfl ?_
                  refine pm_R_lo pm_M230 (pc' := 35) rfl rfl rfl ?_
                  refine rf_R_get pm_M230 T5506 (pc' := 38) (v := .int (m 31)) rfl rfl rfl rfl ?_
                  refine pm_R_lo pm_M230 (pc' := 40) rfl rfl rfl ?_
                  have e5510 := (F5507.cell (by decide) (F5501.cell (by decide) (F5495.cell (by decide) (F5464.cell (by decide) (F5456.cell (by decide) e2)))))
                  refine rf_R_lst pm_M230 T5506 (pc' := 41) rfl e5510 (by decide) (by decide) (sf_in Bf31 (by decide) (by decide)) ⟨_, rfl, lf_upd b3 B5491 _⟩ rfl (fun h5511 T5512 F5513 e5514 => ?_)
                  have F5515 := F5509.trans F5513 (by decide)
                  refine pm_R_lo pm_M230 (pc' := 42) rfl rfl rfl ?_
                  refine pm_R_op pm_M230 (pc' := 43) (st' := [.ref 41, .ref 41]) rfl rfl rfl ?_
                  refine rf_R_get pm_M230 T5512 (pc' := 46) (v := .int (m 31)) rfl rfl rfl rfl ?_
                  refine pm_R_op pm_M230 (pc' := 47) (st' := [.int 1, .int (m 31), .ref 41]) rfl rfl rfl ?_
                  refine sf_R_iadd pm_M230 (pc' := 48) rfl rfl Bf31 sf_k1 (by decide) (by decide) (fun z5516 e5517 B5518 => ?_)
                  refine rf_R_put pm_M230 T5512 (pc' := 51) rfl rfl rfl (by decide) rfl rfl (sf_weak B5518 (by decide) (by decide)) rfl rfl (fun h5519 m5522 em5523 T5520 F5521 => ?_)
                  have F5524 := F5515.trans F5521 (by decide)
                  have B5525 : sf_B 1 22 (m5522 31) := by rw [em5523]; exact B5518
                  have ek5526 : (m5522 31).toInt = (z5516).toInt := by rw [em5523]; rfl
                  have W5527 : rf_W [31] m m5522 := by rw [em5523]; exact (rf_W.refl [31] m).put (by decide)
                  refine pm_R_lo pm_M230 (pc' := 52) rfl rfl rfl ?_
                  refine rf_R_get pm_M230 T5520 (pc' := 55) (v := .int (m5522 31)) rfl rfl rfl rfl ?_
                  refine pm_R_op pm_M230 (pc' := 56) (st' := [.int 1, .int (m5522 31)]) rfl rfl rfl ?_
                  refine sf_R_isub pm_M230 (pc' := 57) rfl rfl B5525 sf_k1 (by decide) (by decide) (fun z5528 e5529 B5530 => ?_)
                  refine pm_R_ret pm_M230 (r := some (.int z5528)) rfl (pm_ret_i _) ?_
                  show pm_R _ 232 150 [.ref 41, .int a0, .long y2_5262, pm_no, .int z10, .int z16, .int x6_3517, .int x7_5262, .long r5391, pm_no, .long z5448, pm_no, pm_no] [.int z5528, .int a0, .ref 63] _ _
                  obtain ⟨f5531, e5532, b5533⟩ := T5520.2.2.2.1 63 (by decide) (by decide)
                  refine rf_R_ist pm_M232 T5520 (pc' := 151) (pm_q232_1 (Nat.le_of_ble_eq_true rfl)) e5532 (by decide) (by decide) (sf_in Ba0 (by decide) (by decide)) ⟨_, rfl, sf_upd b5533 (sf_weak B5530 (by decide) (by decide)) _⟩ rfl (fun h5534 T5535 F5536 e5537 => ?_)
                  have F5538 := F5524.trans F5536 (by decide)
                  refine pm_R_lo pm_M232 (pc' := 152) (pm_q232_1 (Nat.le_of_ble_eq_true rfl)) rfl rfl ?_
                  refine pm_R_lo pm_M232 (pc' := 153) (pm_q232_1 (Nat.le_of_ble_eq_true rfl)) rfl rfl ?_
                  refine pm_R_lo pm_M232 (pc' := 155) (pm_q232_1 (Nat.le_of_ble_eq_true rfl)) rfl rfl ?_
                  refine pm_R_op pm_M232 (pc' := 156) (st' := [.int 2, .int x7_5262, .ref 41, .ref 41]) (pm_q232_1 (Nat.le_of_ble_eq_true rfl)) rfl rfl ?_
                  refine pm_R_cv pm_M232 (pc' := 159) (a := 41) (ra := [.int 2, .int x7_5262]) (rest := [.ref 41]) (ls' := [.ref 41, .int x7_5262, .int 2]) (pm_q232_1 (Nat.le_of_ble_eq_true rfl)) rfl (Or.inl rfl) pm_M210 T5535.2.1 rfl (by decide) (Nat.lt_of_lt_of_le (by decide) T5535.1) rfl rfl (Nat.le_of_ble_eq_true rfl) rfl rfl ?_
                  refine pm_R_lo pm_M210 (pc' := 1) rfl rfl rfl ?_
                  refine rf_R_get pm_M210 T5535 (pc' := 4) (v := .ref 47) rfl rfl rfl rfl ?_
                  refine pm_R_op pm_M210 (pc' := 6) (st' := [.int 100, .ref 47]) rfl rfl rfl ?_
                  refine pm_R_lo pm_M210 (pc' := 7) rfl rfl rfl ?_
                  have B5539 : sf_B 0 1 (m5522 23) := T5535.2.2.1 23
                  refine rf_R_get pm_M210 T5535 (pc' := 10) (v := .int (m5522 23)) rfl rfl rfl rfl ?_
                  refine sf_R_imul pm_M210 (pc' := 11) rfl rfl sf_k100 B5539 (by decide) (by decide) (by decide) (fun z5540 e5541 B5542 => ?_)
                  refine pm_R_op pm_M210 (pc' := 12) (st' := [.int 2, .int z5540, .ref 47]) rfl rfl rfl ?_
                  refine sf_R_iadd pm_M210 (pc' := 13) rfl rfl B5542 sf_k2 (by decide) (by decide) (fun z5543 e5544 B5545 => ?_)
                  refine pm_R_op pm_M210 (pc' := 14) (st' := [.int 4, .int z5543, .ref 47]) rfl rfl rfl ?_
                  refine pm_R_lo pm_M210 (pc' := 15) rfl rfl rfl ?_
                  refine sf_R_imul pm_M210 (pc' := 16) rfl rfl sf_k4 B5278 (by decide) (by decide) (by decide) (fun z5546 e5547 B5548 => ?_)
                  refine sf_R_iadd pm_M210 (pc' := 17) rfl rfl B5545 B5548 (by decide) (by decide) (fun z5549 e5550 B5551 => ?_)
                  refine pm_R_lo pm_M210 (pc' := 18) rfl rfl rfl ?_
                  refine sf_R_iadd pm_M210 (pc' := 19) rfl rfl B5551 sf_k2 (by decide) (by decide) (fun z5552 e5553 B5554 => ?_)
                  have e5555 := (F5536.cell (by decide) (F5521.cell (by decide) (F5513.cell (by decide) (F5507.cell (by decide) (F5501.cell (by decide) (F5495.cell (by decide) e5482))))))
                  refine rf_R_ild pm_M210 T5535 (pc' := 20) rfl e5555 (by decide) (sf_in B5554 (by decide) (by decide)) rfl (fun z5556 ez5557 => ?_)
                  have e5558 : (z5552).toInt = 100 * ((m5522 23)).toInt + 4 * (x7_5262).toInt + 4 := by
                    have q0 := e5541
                    have q1 := e5544
                    have q2 := e5547
                    have q3 := e5550
                    have q4 := e5553
                    simp only [(show (2 : Int32).toInt = 2 from rfl), (show (4 : Int32).toInt = 4 from rfl), (show (100 : Int32).toInt = 100 from rfl)] at q0 q1 q2 q3 q4
                    omega
                  have B5559 : sf_B 0 5 z5556 := ez5557 ▸ rf_p47r b5269 e5558 B5539 B5278 (by decide) (by decide) (by decide)
                  refine pm_R_ret pm_M210 (r := some (.int z5556)) rfl (pm_ret_i _) ?_
                  show pm_R _ 232 159 [.ref 41, .int a0, .long y2_5262, pm_no, .int z10, .int z16, .int x6_3517, .int x7_5262, .long r5391, pm_no, .long z5448, pm_no, pm_no] [.int z5556, .ref 41] _ _
                  refine pm_R_lo pm_M232 (pc' := 161) (pm_q232_1 (Nat.le_of_ble_eq_true rfl)) rfl rfl ?_
                  refine pm_R_op pm_M232 (pc' := 162) (st' := [.int 1, .int x6_3517, .int z5556, .ref 41]) (pm_q232_1 (Nat.le_of_ble_eq_true rfl)) rfl rfl ?_
                  refine sf_R_iadd pm_M232 (pc' := 163) (pm_q232_1 (Nat.le_of_ble_eq_true rfl)) rfl B3519 sf_k1 (by decide) (by decide) (fun z5560 e5561 B5562 => ?_)
                  refine pm_R_lo pm_M232 (pc' := 165) (pm_q232_1 (Nat.le_of_ble_eq_true rfl)) rfl rfl ?_
                  refine pm_R_lo pm_M232 (pc' := 166) (pm_q232_1 (Nat.le_of_ble_eq_true rfl)) rfl rfl ?_
                  refine pm_R_lo pm_M232 (pc' := 168) (pm_q232_1 (Nat.le_of_ble_eq_true rfl)) rfl rfl ?_
                  have k5564 := rf_nz k5412 By2_5262 (by decide) X5399 ez5389 ez5449 (by have q0 := e5377; have q1 := e5374; have q2 := e5380; have q3 := e5383; have q4 := e5386; have q5 := e5437; have q6 := e5434; have q7 := e5440; have q8 := e5443; have q9 := e5446; (try simp only [(show (1 : Int32).toInt = 1 from rfl), (show (12 : Int32).toInt = 12 from rfl), (show (144 : Int32).toInt = 144 from rfl)] at q0 q1 q2 q3 q4 q5 q6 q7 q8 q9 ⊢); omega)
                  have B5565 : lf_B 1 1000000000000 z5448 := lf_nz B5450 (by decide) k5564
                  refine sf_R_lrem pm_M232 (pc' := 169) (pm_q232_1 (Nat.le_of_ble_eq_true rfl)) rfl By2_5262 B5565 (by decide) (by decide) (fun z5563 e5566 B5567 => ?_)
                  refine pm_R_cv pm_M232 (pc' := 172) (a := 41) (ra := [.long z5563, .int z16, .int z5560, .int z5556]) (rest := []) (ls' := [.ref 41, .int z5556, .int z5560, .int z16, .long z5563, pm_no]) (pm_q232_1 (Nat.le_of_ble_eq_true rfl)) rfl (Or.inl rfl) pm_M230 T5535.2.1 rfl (by decide) (Nat.lt_of_lt_of_le (by decide) T5535.1) rfl rfl (Nat.le_of_ble_eq_true rfl) rfl rfl ?_
                  refine pm_R_lo pm_M230 (pc' := 1) rfl rfl rfl ?_
                  refine rf_R_get pm_M230 T5535 (pc' := 4) (v := .ref 57) rfl rfl rfl rfl ?_
                  refine pm_R_lo pm_M230 (pc' := 5) rfl rfl rfl ?_
                  refine rf_R_get pm_M230 T5535 (pc' := 8) (v := .int (m5522 31)) rfl rfl rfl rfl ?_
                  refine pm_R_lo pm_M230 (pc' := 9) rfl rfl rfl ?_
                  have e5568 := (F5536.cell (by decide) (F5521.cell (by decide) (F5513.cell (by decide) (F5507.cell (by decide) (F5501.cell (by decide) e5496)))))
                  refine rf_R_ist pm_M230 T5535 (pc' := 10) rfl e5568 (by decide) (by decide) (sf_in B5525 (by decide) (by decide)) ⟨_, rfl, sf_upd sf_upd b5301 B5486 _ B5559 _⟩ rfl (fun h5569 T5570 F5571 e5572 => ?_)
                  have F5573 := F5538.trans F5571 (by decide)
                  refine pm_R_lo pm_M230 (pc' := 11) rfl rfl rfl ?_
                  refine rf_R_get pm_M230 T5570 (pc' := 14) (v := .ref 58) rfl rfl rfl rfl ?_
                  refine pm_R_lo pm_M230 (pc' := 15) rfl rfl rfl ?_
                  refine rf_R_get pm_M230 T5570 (pc' := 18) (v := .int (m5522 31)) rfl rfl rfl rfl ?_
                  refine pm_R_lo pm_M230 (pc' := 19) rfl rfl rfl ?_
                  have e5574 := (F5571.cell (by decide) (F5536.cell (by decide) (F5521.cell (by decide) (F5513.cell (by decide) (F5507.cell (by decide) e5502)))))
                  refine rf_R_ist pm_M230 T5570 (pc' := 20) rfl e5574 (by decide) (by decide) (sf_in B5525 (by decide) (by decide)) ⟨_, rfl, sf_upd sf_upd b9 (sf_weak B3520 (by decide) (by decide)) _ (sf_weak B5562 (by decide) (by decide)) _⟩ rfl (fun h5575 T5576 F5577 e5578 => ?_)
                  have F5579 := F5573.trans F5577 (by decide)
                  refine pm_R_lo pm_M230 (pc' := 21) rfl rfl rfl ?_
                  refine rf_R_get pm_M230 T5576 (pc' := 24) (v := .ref 59) rfl rfl rfl rfl ?_
                  refine pm_R_lo pm_M230 (pc' := 25) rfl rfl rfl ?_
                  refine rf_R_get pm_M230 T5576 (pc' := 28) (v := .int (m5522 31)) rfl rfl rfl rfl ?_
                  refine pm_R_lo pm_M230 (pc' := 29) rfl rfl rfl ?_
                  have e5580 := (F5577.cell (by decide) (F5571.cell (by decide) (F5536.cell (by decide) (F5521.cell (by decide) (F5513.cell (by decide) e5508)))))
                  refine rf_R_ist pm_M230 T5576 (pc' := 30) rfl e5580 (by decide) (by decide) (sf_in B5525 (by decide) (by decide)) ⟨_, rfl, sf_upd sf_upd b15 (sf_weak B3519 (by decide) (by decide)) _ (sf_weak B3521 (by decide) (by decide)) _⟩ rfl (fun h5581 T5582 F5583 e5584 => ?_)
                  have F5585 := F5579.trans F5583 (by decide)
                  refine pm_R_lo pm_M230 (pc' := 31) rfl rfl rfl ?_
                  refine rf_R_get pm_M230 T5582 (pc' := 34) (v := .ref 60) rfl rfl rfl rfl ?_
                  refine pm_R_lo pm_M230 (pc' := 35) rfl rfl rfl ?_
                  refine rf_R_get pm_M230 T5582 (pc' := 38) (v := .int (m5522 31)) rfl rfl rfl rfl ?_
                  refine pm_R_lo pm_M230 (pc' := 40) rfl rfl rfl ?_
                  have e5586 := (F5583.cell (by decide) (F5577.cell (by decide) (F5571.cell (by decide) (F5536.cell (by decide) (F5521.cell (by decide) e5514)))))
                  refine rf_R_lst pm_M230 T5582 (pc' := 41) rfl e5586 (by decide) (by decide) (sf_in B5525 (by decide) (by decide)) ⟨_, rfl, lf_upd lf_upd b3 B5491 _ (lf_weak B5567 (by decide) (by decide)) _⟩ rfl (fun h5587 T5588 F5589 e5590 => ?_)
                  have F5591 := F5585.trans F5589 (by decide)
                  refine pm_R_lo pm_M230 (pc' := 42) rfl rfl rfl ?_
                  refine pm_R_op pm_M230 (pc' := 43) (st' := [.ref 41, .ref 41]) rfl rfl rfl ?_
                  refine rf_R_get pm_M230 T5588 (pc' := 46) (v := .int (m5522 31)) rfl rfl rfl rfl ?_
                  refine pm_R_op pm_M230 (pc' := 47) (st' := [.int 1, .int (m5522 31), .ref 41]) rfl rfl rfl ?_
                  refine sf_R_iadd pm_M230 (pc' := 48) rfl rfl B5525 sf_k1 (by decide) (by decide) (fun z5592 e5593 B5594 => ?_)
                  refine rf_R_put pm_M230 T5588 (pc' := 51) rfl rfl rfl (by decide) rfl rfl (sf_weak B5594 (by decide) (by decide)) rfl rfl (fun h5595 m5598 em5599 T5596 F5597 => ?_)
                  have F5600 := F5591.trans F5597 (by decide)
                  have B5601 : sf_B 2 23 (m5598 31) := by rw [em5599]; exact B5594
                  have ek5602 : (m5598 31).toInt = (z5592).toInt := by rw [em5599]; rfl
                  have W5603 : rf_W [31] m m5598 := by rw [em5599]; exact W5527.put (by decide)
                  refine pm_R_lo pm_M230 (pc' := 52) rfl rfl rfl ?_
                  refine rf_R_get pm_M230 T5596 (pc' := 55) (v := .int (m5598 31)) rfl rfl rfl rfl ?_
                  refine pm_R_op pm_M230 (pc' := 56) (st' := [.int 1, .int (m5598 31)]) rfl rfl rfl ?_
                  refine sf_R_isub pm_M230 (pc' := 57) rfl rfl B5601 sf_k1 (by decide) (by decide) (fun z5604 e5605 B5606 => ?_)
                  refine pm_R_ret pm_M230 (r := some (.int z5604)) rfl (pm_ret_i _) ?_
                  show pm_R _ 232 172 [.ref 41, .int a0, .long y2_5262, pm_no, .int z10, .int z16, .int x6_3517, .int x7_5262, .long r5391, pm_no, .long z5448, pm_no, pm_no] [.int z5604] _ _
                  refine pm_R_lo pm_M232 (pc' := 174) (ls' := [.ref 41, .int a0, .long y2_5262, pm_no, .int z10, .int z16, .int x6_3517, .int x7_5262, .long r5391, pm_no, .long z5448, pm_no, .int z5604]) (st' := []) (pm_q232_1 (Nat.le_of_ble_eq_true rfl)) rfl rfl ?_
                  have e5607 := (F5597.cell (by decide) (F5589.cell (by decide) (F5583.cell (by decide) e5578)))
                  have e5608 := (F5597.cell (by decide) (F5589.cell (by decide) e5584))
                  have X5609 : rf_sp h h5595 (m 31) (m5598 31) a0 := by
                    intro f g ef eg
                    rw [e8] at ef
                    rw [e14] at eg
                    cases ef
                    cases eg
                    exact Or.inr ⟨x6_3517, z5560, (m 31), (m5522 31), z10, z16, ez11, ez17, R0_3517, Int32.lt_iff_toInt_lt.mp (Int32.not_le.mp c3518), (by have q0 := e5561; (try simp only [(show (1 : Int32).toInt = 1 from rfl)] at q0 ⊢); omega), (by skip; omega), (by have q0 := e5517; have q1 := ek5526; (try simp only [(show (1 : Int32).toInt = 1 from rfl)] at q0 q1 ⊢); omega), (by have q0 := e5517; have q1 := ek5526; have q2 := e5593; have q3 := ek5602; (try simp only [(show (1 : Int32).toInt = 1 from rfl)] at q0 q1 q2 q3 ⊢); omega), e5607, e5608⟩
                  exact pm_R_ret pm_M232 (r := none) (pm_q232_1 (Nat.le_of_ble_eq_true rfl)) rfl (K m5598 w h5595 T5596 F5600 W5603 X5609)
        exact L_5262 _ 0 y2_3517 (g8_3517) (g9_3517) (sf_weak sf_k0 (by decide) (by decide)) By2_3517 Cg9_3517 rfl
  exact L_3517 _ z10 z4 (pm_no) (pm_no) (pm_no) B12 B6 rfl rfl (by have q0 := B12.1; have q1 := B12.2; have q2 := B12.1; have q3 := B12.2; omega) rfl

set_option maxRecDepth 100000 in
set_option maxHeartbeats 4000000 in
/-- SilentTableModel.findTree -/
theorem rf_c229 {d : Nat} {m : Nat → Int32} {w : Int64} {h : pm_H} {Q : Option Value → pm_H → Prop} {a0 : Int64} (T : rf_T m w h) (Ba0 : lf_B 0 9223372036854775807 a0) (Bf24 : sf_B 1 12 (m 24)) (K : ∀ (m' : Nat → Int32) (w' : Int64) (h' : pm_H), rf_T m' w' h' → rf_G [41, 57, 58, 59, 60, 61, 62, 63, 64, 65] h h' → rf_W [31] m m' → Q none h') : pm_R (d + 4) 229 0 [.ref 41, .long a0, pm_no, pm_no, pm_no] [] h Q := by
  refine pm_R_lo pm_M229 (pc' := 1) rfl rfl rfl ?_
  refine pm_R_op pm_M229 (pc' := 2) (st' := [.int 0, .ref 41]) rfl rfl rfl ?_
  refine rf_R_put pm_M229 T (pc' := 5) rfl rfl rfl (by decide) rfl rfl (sf_weak sf_k0 (by decide) (by decide)) rfl rfl (fun h1 m4 em5 T2 F3 => ?_)
  have F6 := (rf_G.refl [41, 57, 58, 59, 60, 61, 62, 63, 64, 65] h).trans F3 (by decide)
  have B7 : sf_B 1 12 (m4 24) := by rw [em5]; exact Bf24
  have B8 : sf_B 0 0 (m4 31) := by rw [em5]; exact sf_k0
  have W10 : rf_W [31] m m4 := by rw [em5]; exact (rf_W.refl [31] m).put (by decide)
  refine pm_R_lo pm_M229 (pc' := 6) rfl rfl rfl ?_
  refine pm_R_op pm_M229 (pc' := 7) (st' := [.int 0, .ref 41]) rfl rfl rfl ?_
  refine pm_R_op pm_M229 (pc' := 8) (st' := [.int 0, .int 0, .ref 41]) rfl rfl rfl ?_
  refine pm_R_lo pm_M229 (pc' := 9) rfl rfl rfl ?_
  refine rf_R_get pm_M229 T2 (pc' := 12) (v := .int (m4 24)) rfl rfl rfl rfl ?_
  refine pm_R_op pm_M229 (pc' := 13) (st' := [.int 1, .int (m4 24), .int 0, .int 0, .ref 41]) rfl rfl rfl ?_
  refine sf_R_isub pm_M229 (pc' := 14) rfl rfl B7 sf_k1 (by decide) (by decide) (fun z11 e12 B13 => ?_)
  refine pm_R_lo pm_M229 (pc' := 15) rfl rfl rfl ?_
  refine pm_R_cv pm_M229 (pc' := 18) (a := 41) (ra := [.long a0, .int z11, .int 0, .int 0]) (rest := []) (ls' := [.ref 41, .int 0, .int 0, .int z11, .long a0, pm_no]) rfl rfl (Or.inl rfl) pm_M230 T2.2.1 rfl (by decide) (Nat.lt_of_lt_of_le (by decide) T2.1) rfl rfl (Nat.le_of_ble_eq_true rfl) rfl rfl ?_
  refine pm_R_lo pm_M230 (pc' := 1) rfl rfl rfl ?_
  refine rf_R_get pm_M230 T2 (pc' := 4) (v := .ref 57) rfl rfl rfl rfl ?_
  refine pm_R_lo pm_M230 (pc' := 5) rfl rfl rfl ?_
  refine rf_R_get pm_M230 T2 (pc' := 8) (v := .int (m4 31)) rfl rfl rfl rfl ?_
  refine pm_R_lo pm_M230 (pc' := 9) rfl rfl rfl ?_
  obtain ⟨f14, e15, b16⟩ := T2.2.2.2.1 57 (by decide) (by decide)
  refine rf_R_ist pm_M230 T2 (pc' := 10) rfl e15 (by decide) (by decide) (sf_in B8 (by decide) (by decide)) ⟨_, rfl, sf_upd b16 (sf_weak sf_k0 (by decide) (by decide)) _⟩ rfl (fun h17 T18 F19 e20 => ?_)
  have F21 := F6.trans F19 (by decide)
  refine pm_R_lo pm_M230 (pc' := 11) rfl rfl rfl ?_
  refine rf_R_get pm_M230 T18 (pc' := 14) (v := .ref 58) rfl rfl rfl rfl ?_
  refine pm_R_lo pm_M230 (pc' := 15) rfl rfl rfl ?_
  refine rf_R_get pm_M230 T18 (pc' := 18) (v := .int (m4 31)) rfl rfl rfl rfl ?_
  refine pm_R_lo pm_M230 (pc' := 19) rfl rfl rfl ?_
  obtain ⟨f22, e23, b24⟩ := T18.2.2.2.1 58 (by decide) (by decide)
  refine rf_R_ist pm_M230 T18 (pc' := 20) rfl e23 (by decide) (by decide) (sf_in B8 (by decide) (by decide)) ⟨_, rfl, sf_upd b24 (sf_weak sf_k0 (by decide) (by decide)) _⟩ rfl (fun h25 T26 F27 e28 => ?_)
  have F29 := F21.trans F27 (by decide)
  refine pm_R_lo pm_M230 (pc' := 21) rfl rfl rfl ?_
  refine rf_R_get pm_M230 T26 (pc' := 24) (v := .ref 59) rfl rfl rfl rfl ?_
  refine pm_R_lo pm_M230 (pc' := 25) rfl rfl rfl ?_
  refine rf_R_get pm_M230 T26 (pc' := 28) (v := .int (m4 31)) rfl rfl rfl rfl ?_
  refine pm_R_lo pm_M230 (pc' := 29) rfl rfl rfl ?_
  obtain ⟨f30, e31, b32⟩ := T26.2.2.2.1 59 (by decide) (by decide)
  refine rf_R_ist pm_M230 T26 (pc' := 30) rfl e31 (by decide) (by decide) (sf_in B8 (by decide) (by decide)) ⟨_, rfl, sf_upd b32 B13 _⟩ rfl (fun h33 T34 F35 e36 => ?_)
  have F37 := F29.trans F35 (by decide)
  refine pm_R_lo pm_M230 (pc' := 31) rfl rfl rfl ?_
  refine rf_R_get pm_M230 T34 (pc' := 34) (v := .ref 60) rfl rfl rfl rfl ?_
  refine pm_R_lo pm_M230 (pc' := 35) rfl rfl rfl ?_
  refine rf_R_get pm_M230 T34 (pc' := 38) (v := .int (m4 31)) rfl rfl rfl rfl ?_
  refine pm_R_lo pm_M230 (pc' := 40) rfl rfl rfl ?_
  obtain ⟨f38, e39, b40⟩ := T34.2.2.2.1 60 (by decide) (by decide)
  refine rf_R_lst pm_M230 T34 (pc' := 41) rfl e39 (by decide) (by decide) (sf_in B8 (by decide) (by decide)) ⟨_, rfl, lf_upd b40 Ba0 _⟩ rfl (fun h41 T42 F43 e44 => ?_)
  have F45 := F37.trans F43 (by decide)
  refine pm_R_lo pm_M230 (pc' := 42) rfl rfl rfl ?_
  refine pm_R_op pm_M230 (pc' := 43) (st' := [.ref 41, .ref 41]) rfl rfl rfl ?_
  refine rf_R_get pm_M230 T42 (pc' := 46) (v := .int (m4 31)) rfl rfl rfl rfl ?_
  refine pm_R_op pm_M230 (pc' := 47) (st' := [.int 1, .int (m4 31), .ref 41]) rfl rfl rfl ?_
  refine sf_R_iadd pm_M230 (pc' := 48) rfl rfl B8 sf_k1 (by decide) (by decide) (fun z46 e47 B48 => ?_)
  refine rf_R_put pm_M230 T42 (pc' := 51) rfl rfl rfl (by decide) rfl rfl (sf_weak B48 (by decide) (by decide)) rfl rfl (fun h49 m52 em53 T50 F51 => ?_)
  have F54 := F45.trans F51 (by decide)
  have B55 : sf_B 1 12 (m52 24) := by rw [em53]; exact B7
  have B56 : sf_B 1 1 (m52 31) := by rw [em53]; exact B48
  have ek57 : (m52 31).toInt = (z46).toInt := by rw [em53]; rfl
  have W58 : rf_W [31] m m52 := by rw [em53]; exact W10.put (by decide)
  refine pm_R_lo pm_M230 (pc' := 52) rfl rfl rfl ?_
  refine rf_R_get pm_M230 T50 (pc' := 55) (v := .int (m52 31)) rfl rfl rfl rfl ?_
  refine pm_R_op pm_M230 (pc' := 56) (st' := [.int 1, .int (m52 31)]) rfl rfl rfl ?_
  refine sf_R_isub pm_M230 (pc' := 57) rfl rfl B56 sf_k1 (by decide) (by decide) (fun z59 e60 B61 => ?_)
  refine pm_R_ret pm_M230 (r := some (.int z59)) rfl (pm_ret_i _) ?_
  show pm_R _ 229 18 [.ref 41, .long a0, pm_no, pm_no, pm_no] [.int z59] _ _
  refine pm_R_lo pm_M229 (pc' := 19) (ls' := [.ref 41, .long a0, pm_no, .int z59, pm_no]) (st' := []) rfl rfl rfl ?_
  refine pm_R_op pm_M229 (pc' := 20) (st' := [.int 0]) rfl rfl rfl ?_
  refine pm_R_lo pm_M229 (pc' := 22) (ls' := [.ref 41, .long a0, pm_no, .int z59, .int 0]) (st' := []) rfl rfl rfl ?_
  have L_1434 : ∀ (N : Nat) (h_1434 : pm_H) (m_1434 : Nat → Int32) (w_1434 : Int64) (x4_1434 : Int32), rf_T m_1434 w_1434 h_1434 → rf_G [41, 57, 58, 59, 60, 61, 62, 63, 64, 65] h h_1434 → rf_W [31] m52 m_1434 → sf_B 0 23 x4_1434 → rf_phi h_1434 (m_1434 31) x4_1434 → (23 - x4_1434.toInt).toNat = N → pm_R (d + 4) 229 22 [.ref 41, .long a0, pm_no, .int z59, .int x4_1434] [] h_1434 Q := by
    intro N
    induction N using Nat.strongRecOn with
    | ind N ih_1434 =>
      intro h_1434 m_1434 w_1434 x4_1434 T_1434 F_1434 W_1434 Bx4_1434 X_1434 hN_1434
      have B1437 : sf_B 1 12 (m_1434 24) := by rw [W_1434 24 (by decide)]; exact B55
      have W1438 : rf_W [31] m m_1434 := W58.trans W_1434 (by decide)
      have BX_1434 : sf_B 0 23 (m_1434 31) := rf_phi_B X_1434
      refine pm_R_lo pm_M229 (pc' := 24) rfl rfl rfl ?_
      refine pm_R_lo pm_M229 (pc' := 25) rfl rfl rfl ?_
      refine rf_R_get pm_M229 T_1434 (pc' := 28) (v := .int (m_1434 31)) rfl rfl rfl rfl ?_
      refine pm_R_icmp pm_M229 (t := 69) (pc' := 31) rfl rfl rfl (fun c1439 => ?_) (fun c1439 => ?_)
      · skip
        refine pm_R_lo pm_M229 (pc' := 70) rfl rfl rfl ?_
        refine rf_R_get pm_M229 T_1434 (pc' := 73) (v := .int (m_1434 31)) rfl rfl rfl rfl ?_
        refine pm_R_op pm_M229 (pc' := 74) (st' := [.int 1, .int (m_1434 31)]) rfl rfl rfl ?_
        refine sf_R_isub pm_M229 (pc' := 75) rfl rfl BX_1434 sf_k1 (by decide) (by decide) (fun z1440 e1441 B1442 => ?_)
        refine pm_R_lo pm_M229 (pc' := 77) (ls' := [.ref 41, .long a0, pm_no, .int z59, .int z1440]) (st' := []) rfl rfl rfl ?_
        have L_1719 : ∀ (N : Nat) (h_1719 : pm_H) (m_1719 : Nat → Int32) (w_1719 : Int64) (x4_1719 : Int32), rf_T m_1719 w_1719 h_1719 → rf_G [41, 57, 58, 59, 60, 61, 62, 63, 64, 65] h h_1719 → rf_W [] m_1434 m_1719 → sf_B (-1) 22 x4_1719 → (x4_1719.toInt - (-1)).toNat = N → pm_R (d + 4) 229 77 [.ref 41, .long a0, pm_no, .int z59, .int x4_1719] [] h_1719 Q := by
          intro N
          induction N using Nat.strongRecOn with
          | ind N ih_1719 =>
            intro h_1719 m_1719 w_1719 x4_1719 T_1719 F_1719 W_1719 Bx4_1719 hN_1719
            have B1722 : sf_B 1 12 (m_1719 24) := by rw [W_1719 24 (by decide)]; exact B1437
            have B1723 : sf_B 0 23 (m_1719 31) := by rw [W_1719 31 (by decide)]; exact BX_1434
            have W1724 : rf_W [31] m m_1719 := W1438.trans W_1719 (by decide)
            have W1725 : rf_W [31] m52 m_1719 := W_1434.trans W_1719 (by decide)
            refine pm_R_lo pm_M229 (pc' := 79) rfl rfl rfl ?_
            refine pm_R_ifc pm_M229 (t := 147) (pc' := 82) rfl rfl rfl (fun c1726 => ?_) (fun c1726 => ?_)
            · have B1727 : sf_B (-1) (-1) x4_1719 := sf_ltL c1726 Bx4_1719 sf_k0
              exact pm_R_ret pm_M229 (r := none) (pm_q229_1 (Nat.le_of_ble_eq_true rfl)) rfl (K m_1719 w_1719 h_1719 T_1719 F_1719 W1724)
            · have B1728 : sf_B 0 22 x4_1719 := sf_leR (Int32.not_lt.mp c1726) sf_k0 Bx4_1719
              refine pm_R_lo pm_M229 (pc' := 83) rfl rfl rfl ?_
              refine rf_R_get pm_M229 T_1719 (pc' := 86) (v := .ref 61) rfl rfl rfl rfl ?_
              refine pm_R_lo pm_M229 (pc' := 88) rfl rfl rfl ?_
              obtain ⟨f1729, e1730, b1731⟩ := T_1719.2.2.2.1 61 (by decide) (by decide)
              refine rf_R_ild pm_M229 T_1719 (pc' := 89) rfl e1730 (by decide) (sf_in B1728 (by decide) (by decide)) rfl (fun z1732 ez1733 => ?_)
              have B1734 : sf_B (-1) 9 z1732 := ez1733 ▸ b1731 _
              refine pm_R_op pm_M229 (pc' := 90) (st' := [.int (-1), .int z1732]) rfl rfl rfl ?_
              refine pm_R_icmp pm_M229 (t := 141) (pc' := 93) rfl rfl rfl (fun c1735 => ?_) (fun c1735 => ?_)
              · have B1736 : sf_B (-1) (-1) z1732 := sf_eqL c1735 sf_kn1
                refine sf_R_iinc pm_M229 (pc' := 144) (ls' := fun z => [.ref 41, .long a0, pm_no, .int z59, .int z]) (pm_q229_1 (Nat.le_of_ble_eq_true rfl)) B1728 rfl (by decide) (by decide) (by decide) (fun _ => rfl) rfl (fun z1737 e1738 B1739 => ?_)
                show pm_R _ 229 144 [.ref 41, .long a0, pm_no, .int z59, .int z1737] [] _ _
                refine pm_R_br pm_M229 (pc' := 77) (pm_q229_1 (Nat.le_of_ble_eq_true rfl)) rfl ?_
                exact ih_1719 _ (sf_dn hN_1719 e1738 B1728 (by decide) (by decide)) h_1719 m_1719 w_1719 z1737 T_1719 F_1719 W_1719 (sf_weak B1739 (by decide) (by decide)) rfl
              · have B1740 : sf_B 0 9 z1732 := sf_neL0 c1735 sf_kn1 B1734
                refine pm_R_lo pm_M229 (pc' := 94) rfl rfl rfl ?_
                refine rf_R_get pm_M229 T_1719 (pc' := 97) (v := .ref 64) rfl rfl rfl rfl ?_
                refine pm_R_lo pm_M229 (pc' := 99) rfl rfl rfl ?_
                refine pm_R_lo pm_M229 (pc' := 100) rfl rfl rfl ?_
                refine pm_R_lo pm_M229 (pc' := 101) rfl rfl rfl ?_
                refine rf_R_get pm_M229 T_1719 (pc' := 104) (v := .ref 61) rfl rfl rfl rfl ?_
                refine pm_R_lo pm_M229 (pc' := 106) rfl rfl rfl ?_
                refine rf_R_ild pm_M229 T_1719 (pc' := 107) rfl e1730 (by decide) (sf_in B1728 (by decide) (by decide)) rfl (fun z1741 ez1742 => ?_)
                have B1743 : sf_B (-1) 9 z1741 := ez1742 ▸ b1731 _
                have B1744 : sf_B 0 9 z1741 := sf_eqL (ez1742.symm.trans ez1733) B1740
                refine pm_R_op pm_M229 (pc' := 108) (st' := [.int 3, .int z1741, .ref 41, .int x4_1719, .ref 64]) rfl rfl rfl ?_
                refine pm_R_cv pm_M229 (pc' := 111) (a := 41) (ra := [.int 3, .int z1741]) (rest := [.int x4_1719, .ref 64]) (ls' := [.ref 41, .int z1741, .int 3]) rfl rfl (Or.inl rfl) pm_M210 T_1719.2.1 rfl (by decide) (Nat.lt_of_lt_of_le (by decide) T_1719.1) rfl rfl (Nat.le_of_ble_eq_true rfl) rfl rfl ?_
                refine pm_R_lo pm_M210 (pc' := 1) rfl rfl rfl ?_
                refine rf_R_get pm_M210 T_1719 (pc' := 4) (v := .ref 47) rfl rfl rfl rfl ?_
                refine pm_R_op pm_M210 (pc' := 6) (st' := [.int 100, .ref 47]) rfl rfl rfl ?_
                refine pm_R_lo pm_M210 (pc' := 7) rfl rfl rfl ?_
                have B1745 : sf_B 0 1 (m_1719 23) := T_1719.2.2.1 23
                refine rf_R_get pm_M210 T_1719 (pc' := 10) (v := .int (m_1719 23)) rfl rfl rfl rfl ?_
                refine sf_R_imul pm_M210 (pc' := 11) rfl rfl sf_k100 B1745 (by decide) (by decide) (by decide) (fun z1746 e1747 B1748 => ?_)
                refine pm_R_op pm_M210 (pc' := 12) (st' := [.int 2, .int z1746, .ref 47]) rfl rfl rfl ?_
                refine sf_R_iadd pm_M210 (pc' := 13) rfl rfl B1748 sf_k2 (by decide) (by decide) (fun z1749 e1750 B1751 => ?_)
                refine pm_R_op pm_M210 (pc' := 14) (st' := [.int 4, .int z1749, .ref 47]) rfl rfl rfl ?_
                refine pm_R_lo pm_M210 (pc' := 15) rfl rfl rfl ?_
                refine sf_R_imul pm_M210 (pc' := 16) rfl rfl sf_k4 B1744 (by decide) (by decide) (by decide) (fun z1752 e1753 B1754 => ?_)
                refine sf_R_iadd pm_M210 (pc' := 17) rfl rfl B1751 B1754 (by decide) (by decide) (fun z1755 e1756 B1757 => ?_)
                refine pm_R_lo pm_M210 (pc' := 18) rfl rfl rfl ?_
                refine sf_R_iadd pm_M210 (pc' := 19) rfl rfl B1757 sf_k3 (by decide) (by decide) (fun z1758 e1759 B1760 => ?_)
                obtain ⟨f1761, e1762, b1763⟩ := T_1719.2.2.2.1 47 (by decide) (by decide)
                refine rf_R_ild pm_M210 T_1719 (pc' := 20) rfl e1762 (by decide) (sf_in B1760 (by decide) (by decide)) rfl (fun z1764 ez1765 => ?_)
                have e1766 : (z1758).toInt = 100 * ((m_1719 23)).toInt + 4 * (z1741).toInt + 5 := by
                  have q0 := e1747
                  have q1 := e1750
                  have q2 := e1753
                  have q3 := e1756
                  have q4 := e1759
                  simp only [(show (2 : Int32).toInt = 2 from rfl), (show (3 : Int32).toInt = 3 from rfl), (show (4 : Int32).toInt = 4 from rfl), (show (100 : Int32).toInt = 100 from rfl)] at q0 q1 q2 q3 q4
                  omega
                have B1767 : sf_B 0 4 z1764 := ez1765 ▸ rf_p47t b1763 e1766 B1745 B1744 (by decide) (by decide) (by decide)
                refine pm_R_ret pm_M210 (r := some (.int z1764)) rfl (pm_ret_i _) ?_
                show pm_R _ 229 111 [.ref 41, .long a0, pm_no, .int z59, .int x4_1719] [.int z1764, .int x4_1719, .ref 64] _ _
                refine pm_R_lo pm_M229 (pc' := 112) (pm_q229_1 (Nat.le_of_ble_eq_true rfl)) rfl rfl ?_
                refine rf_R_get pm_M229 T_1719 (pc' := 115) (v := .ref 64) (pm_q229_1 (Nat.le_of_ble_eq_true rfl)) rfl rfl rfl ?_
                refine pm_R_lo pm_M229 (pc' := 116) (pm_q229_1 (Nat.le_of_ble_eq_true rfl)) rfl rfl ?_
                refine rf_R_get pm_M229 T_1719 (pc' := 119) (v := .ref 63) (pm_q229_1 (Nat.le_of_ble_eq_true rfl)) rfl rfl rfl ?_
                refine pm_R_lo pm_M229 (pc' := 121) (pm_q229_1 (Nat.le_of_ble_eq_true rfl)) rfl rfl ?_
                obtain ⟨f1768, e1769, b1770⟩ := T_1719.2.2.2.1 63 (by decide) (by decide)
                refine rf_R_ild pm_M229 T_1719 (pc' := 122) (pm_q229_1 (Nat.le_of_ble_eq_true rfl)) e1769 (by decide) (sf_in B1728 (by decide) (by decide)) rfl (fun z1771 ez1772 => ?_)
                have B1773 : sf_B 0 22 z1771 := ez1772 ▸ b1770 _
                obtain ⟨f1774, e1775⟩ := T_1719.2.2.2.1 64 (by decide) (by decide)
                refine rf_R_ild pm_M229 T_1719 (pc' := 123) (pm_q229_1 (Nat.le_of_ble_eq_true rfl)) e1775 (by decide) (sf_in B1773 (by decide) (by decide)) rfl (fun z1777 ez1778 => ?_)
                refine pm_R_lo pm_M229 (pc' := 124) (pm_q229_1 (Nat.le_of_ble_eq_true rfl)) rfl rfl ?_
                refine rf_R_get pm_M229 T_1719 (pc' := 127) (v := .ref 64) (pm_q229_1 (Nat.le_of_ble_eq_true rfl)) rfl rfl rfl ?_
                refine pm_R_lo pm_M229 (pc' := 128) (pm_q229_1 (Nat.le_of_ble_eq_true rfl)) rfl rfl ?_
                refine rf_R_get pm_M229 T_1719 (pc' := 131) (v := .ref 63) (pm_q229_1 (Nat.le_of_ble_eq_true rfl)) rfl rfl rfl ?_
                refine pm_R_lo pm_M229 (pc' := 133) (pm_q229_1 (Nat.le_of_ble_eq_true rfl)) rfl rfl ?_
                refine rf_R_ild pm_M229 T_1719 (pc' := 134) (pm_q229_1 (Nat.le_of_ble_eq_true rfl)) e1769 (by decide) (sf_in B1728 (by decide) (by decide)) rfl (fun z1779 ez1780 => ?_)
                have B1781 : sf_B 0 22 z1779 := ez1780 ▸ b1770 _
                refine pm_R_op pm_M229 (pc' := 135) (st' := [.int 1, .int z1779, .ref 64, .int z1777, .int z1764, .int x4_1719, .ref 64]) (pm_q229_1 (Nat.le_of_ble_eq_true rfl)) rfl rfl ?_
                refine sf_R_iadd pm_M229 (pc' := 136) (pm_q229_1 (Nat.le_of_ble_eq_true rfl)) rfl B1781 sf_k1 (by decide) (by decide) (fun z1782 e1783 B1784 => ?_)
                refine rf_R_ild pm_M229 T_1719 (pc' := 137) (pm_q229_1 (Nat.le_of_ble_eq_true rfl)) e1775 (by decide) (sf_in B1784 (by decide) (by decide)) rfl (fun z1785 ez1786 => ?_)
                refine pm_R_cs pm_M229 (pc' := 140) (ra := [.int z1785, .int z1777, .int z1764]) (rest := [.int x4_1719, .ref 64]) (ls' := [.int z1764, .int z1777, .int z1785]) (pm_q229_1 (Nat.le_of_ble_eq_true rfl)) rfl (Or.inl rfl) pm_M227 rfl rfl (Nat.le_of_ble_eq_true rfl) rfl rfl ?_
                refine pm_R_lo pm_M227 (pc' := 1) rfl rfl rfl ?_
                refine pm_R_ifc pm_M227 (t := 8) (pc' := 4) rfl rfl rfl (fun c1787 => ?_) (fun c1787 => ?_)
                · have B1788 : sf_B 1 4 z1764 := sf_neL0 c1787 sf_k0 B1767
                  refine pm_R_lo pm_M227 (pc' := 9) rfl rfl rfl ?_
                  refine pm_R_op pm_M227 (pc' := 10) (st' := [.int 1, .int z1764]) rfl rfl rfl ?_
                  refine pm_R_icmp pm_M227 (t := 17) (pc' := 13) rfl rfl rfl (fun c1789 => ?_) (fun c1789 => ?_)
                  · have B1790 : sf_B 2 4 z1764 := sf_neL0 c1789 sf_k1 B1788
                    refine pm_R_lo pm_M227 (pc' := 18) rfl rfl rfl ?_
                    refine pm_R_op pm_M227 (pc' := 19) (st' := [.int 2, .int z1764]) rfl rfl rfl ?_
                    refine pm_R_icmp pm_M227 (t := 31) (pc' := 22) rfl rfl rfl (fun c1791 => ?_) (fun c1791 => ?_)
                    · have B1792 : sf_B 3 4 z1764 := sf_neL0 c1791 sf_k2 B1790
                      refine pm_R_lo pm_M227 (pc' := 32) rfl rfl rfl ?_
                      refine pm_R_op pm_M227 (pc' := 33) (st' := [.int 3, .int z1764]) rfl rfl rfl ?_
                      refine pm_R_icmp pm_M227 (t := 48) (pc' := 36) rfl rfl rfl (fun c1793 => ?_) (fun c1793 => ?_)
                      · have B1794 : sf_B 4 4 z1764 := sf_neL0 c1793 sf_k3 B1792
                        refine pm_R_op pm_M227 (pc' := 50) (st' := [.int 49]) rfl rfl rfl ?_
                        refine pm_R_lo pm_M227 (pc' := 51) rfl rfl rfl ?_
                        refine sf_R_iany pm_M227 (pc' := 52) (st := []) rfl rfl rfl (fun z1798 => ?_)
                        refine pm_R_ret pm_M227 (r := some (.int z1798)) rfl (pm_ret_i _) ?_
                        show pm_R _ 229 140 [.ref 41, .long a0, pm_no, .int z59, .int x4_1719] [.int z1798, .int x4_1719, .ref 64] _ _
                        refine rf_R_ist pm_M229 T_1719 (pc' := 141) (pm_q229_1 (Nat.le_of_ble_eq_true rfl)) e1775 (by decide) (by decide) (sf_in B1728 (by decide) (by decide)) ⟨_, rfl⟩ rfl (fun h1799 T1800 F1801 e1802 => ?_)
                        have F1803 := F_1719.trans F1801 (by decide)
                        refine sf_R_iinc pm_M229 (pc' := 144) (ls' := fun z => [.ref 41, .long a0, pm_no, .int z59, .int z]) (pm_q229_1 (Nat.le_of_ble_eq_true rfl)) B1728 rfl (by decide) (by decide) (by decide) (fun _ => rfl) rfl (fun z1804 e1805 B1806 => ?_)
                        show pm_R _ 229 144 [.ref 41, .long a0, pm_no, .int z59, .int z1804] [] _ _
                        refine pm_R_br pm_M229 (pc' := 77) (pm_q229_1 (Nat.le_of_ble_eq_true rfl)) rfl ?_
                        exact ih_1719 _ (sf_dn hN_1719 e1805 B1728 (by decide) (by decide)) h1799 m_1719 w_1719 z1804 T1800 F1803 W_1719 (sf_weak B1806 (by decide) (by decide)) rfl
                      · have B1807 : sf_B 3 3 z1764 := sf_eqL (Classical.not_not.mp c1793) sf_k3
                        refine pm_R_lo pm_M227 (pc' := 37) rfl rfl rfl ?_
                        refine pm_R_lo pm_M227 (pc' := 38) rfl rfl rfl ?_
                        refine sf_R_iany pm_M227 (pc' := 39) (st := []) rfl rfl rfl (fun z1811 => ?_)
                        refine pm_R_op pm_M227 (pc' := 41) (st' := [.int 50, .int z1811]) rfl rfl rfl ?_
                        refine sf_R_iany pm_M227 (pc' := 42) (st := []) rfl rfl rfl (fun z1815 => ?_)
                        refine pm_R_op pm_M227 (pc' := 44) (st' := [.int 50, .int z1815]) rfl rfl rfl ?_
                        refine sf_R_iremA pm_M227 (pc' := 45) rfl rfl (sf_neq1 sf_k50 sf_k0 (by decide)) (fun z1816 => ?_)
                        refine pm_R_br pm_M227 (pc' := 52) rfl rfl ?_
                        refine pm_R_ret pm_M227 (r := some (.int z1816)) rfl (pm_ret_i _) ?_
                        show pm_R _ 229 140 [.ref 41, .long a0, pm_no, .int z59, .int x4_1719] [.int z1816, .int x4_1719, .ref 64] _ _
                        refine rf_R_ist pm_M229 T_1719 (pc' := 141) (pm_q229_1 (Nat.le_of_ble_eq_true rfl)) e1775 (by decide) (by decide) (sf_in B1728 (by decide) (by decide)) ⟨_, rfl⟩ rfl (fun h1819 T1820 F1821 e1822 => ?_)
                        have F1823 := F_1719.trans F1821 (by decide)
                        refine sf_R_iinc pm_M229 (pc' := 144) (ls' := fun z => [.ref 41, .long a0, pm_no, .int z59, .int z]) (pm_q229_1 (Nat.le_of_ble_eq_true rfl)) B1728 rfl (by decide) (by decide) (by decide) (fun _ => rfl) rfl (fun z1824 e1825 B1826 => ?_)
                        show pm_R _ 229 144 [.ref 41, .long a0, pm_no, .int z59, .int z1824] [] _ _
                        refine pm_R_br pm_M229 (pc' := 77) (pm_q229_1 (Nat.le_of_ble_eq_true rfl)) rfl ?_
                        exact ih_1719 _ (sf_dn hN_1719 e1825 B1728 (by decide) (by decide)) h1819 m_1719 w_1719 z1824 T1820 F1823 W_1719 (sf_weak B1826 (by decide) (by decide)) rfl
                    · have B1827 : sf_B 2 2 z1764 := sf_eqL (Classical.not_not.mp c1791) sf_k2
                      refine pm_R_lo pm_M227 (pc' := 23) rfl rfl rfl ?_
                      refine pm_R_lo pm_M227 (pc' := 24) rfl rfl rfl ?_
                      refine sf_R_iany pm_M227 (pc' := 25) (st := []) rfl rfl rfl (fun z1831 => ?_)
                      refine pm_R_op pm_M227 (pc' := 27) (st' := [.int 50, .int z1831]) rfl rfl rfl ?_
                      refine sf_R_iremA pm_M227 (pc' := 28) rfl rfl (sf_neq1 sf_k50 sf_k0 (by decide)) (fun z1832 => ?_)
                      refine pm_R_br pm_M227 (pc' := 52) rfl rfl ?_
                      refine pm_R_ret pm_M227 (r := some (.int z1832)) rfl (pm_ret_i _) ?_
                      show pm_R _ 229 140 [.ref 41, .long a0, pm_no, .int z59, .int x4_1719] [.int z1832, .int x4_1719, .ref 64] _ _
                      refine rf_R_ist pm_M229 T_1719 (pc' := 141) (pm_q229_1 (Nat.le_of_ble_eq_true rfl)) e1775 (by decide) (by decide) (sf_in B1728 (by decide) (by decide)) ⟨_, rfl⟩ rfl (fun h1835 T1836 F1837 e1838 => ?_)
                      have F1839 := F_1719.trans F1837 (by decide)
                      refine sf_R_iinc pm_M229 (pc' := 144) (ls' := fun z => [.ref 41, .long a0, pm_no, .int z59, .int z]) (pm_q229_1 (Nat.le_of_ble_eq_true rfl)) B1728 rfl (by decide) (by decide) (by decide) (fun _ => rfl) rfl (fun z1840 e1841 B1842 => ?_)
                      show pm_R _ 229 144 [.ref 41, .long a0, pm_no, .int z59, .int z1840] [] _ _
                      refine pm_R_br pm_M229 (pc' := 77) (pm_q229_1 (Nat.le_of_ble_eq_true rfl)) rfl ?_
                      exact ih_1719 _ (sf_dn hN_1719 e1841 B1728 (by decide) (by decide)) h1835 m_1719 w_1719 z1840 T1836 F1839 W_1719 (sf_weak B1842 (by decide) (by decide)) rfl
                  · have B1843 : sf_B 1 1 z1764 := sf_eqL (Classical.not_not.mp c1789) sf_k1
                    refine pm_R_lo pm_M227 (pc' := 14) rfl rfl rfl ?_
                    refine pm_R_br pm_M227 (pc' := 52) rfl rfl ?_
                    refine pm_R_ret pm_M227 (r := some (.int z1785)) rfl (pm_ret_i _) ?_
                    show pm_R _ 229 140 [.ref 41, .long a0, pm_no, .int z59, .int x4_1719] [.int z1785, .int x4_1719, .ref 64] _ _
                    refine rf_R_ist pm_M229 T_1719 (pc' := 141) (pm_q229_1 (Nat.le_of_ble_eq_true rfl)) e1775 (by decide) (by decide) (sf_in B1728 (by decide) (by decide)) ⟨_, rfl⟩ rfl (fun h1844 T1845 F1846 e1847 => ?_)
                    have F1848 := F_1719.trans F1846 (by decide)
                    refine sf_R_iinc pm_M229 (pc' := 144) (ls' := fun z => [.ref 41, .long a0, pm_no, .int z59, .int z]) (pm_q229_1 (Nat.le_of_ble_eq_true rfl)) B1728 rfl (by decide) (by decide) (by decide) (fun _ => rfl) rfl (fun z1849 e1850 B1851 => ?_)
                    show pm_R _ 229 144 [.ref 41, .long a0, pm_no, .int z59, .int z1849] [] _ _
                    refine pm_R_br pm_M229 (pc' := 77) (pm_q229_1 (Nat.le_of_ble_eq_true rfl)) rfl ?_
                    exact ih_1719 _ (sf_dn hN_1719 e1850 B1728 (by decide) (by decide)) h1844 m_1719 w_1719 z1849 T1845 F1848 W_1719 (sf_weak B1851 (by decide) (by decide)) rfl
                · have B1852 : sf_B 0 0 z1764 := sf_eqL (Classical.not_not.mp c1787) sf_k0
                  refine pm_R_lo pm_M227 (pc' := 5) rfl rfl rfl ?_
                  refine pm_R_br pm_M227 (pc' := 52) rfl rfl ?_
                  refine pm_R_ret pm_M227 (r := some (.int z1777)) rfl (pm_ret_i _) ?_
                  show pm_R _ 229 140 [.ref 41, .long a0, pm_no, .int z59, .int x4_1719] [.int z1777, .int x4_1719, .ref 64] _ _
                  refine rf_R_ist pm_M229 T_1719 (pc' := 141) (pm_q229_1 (Nat.le_of_ble_eq_true rfl)) e1775 (by decide) (by decide) (sf_in B1728 (by decide) (by decide)) ⟨_, rfl⟩ rfl (fun h1853 T1854 F1855 e1856 => ?_)
                  have F1857 := F_1719.trans F1855 (by decide)
                  refine sf_R_iinc pm_M229 (pc' := 144) (ls' := fun z => [.ref 41, .long a0, pm_no, .int z59, .int z]) (pm_q229_1 (Nat.le_of_ble_eq_true rfl)) B1728 rfl (by decide) (by decide) (by decide) (fun _ => rfl) rfl (fun z1858 e1859 B1860 => ?_)
                  show pm_R _ 229 144 [.ref 41, .long a0, pm_no, .int z59, .int z1858] [] _ _
                  refine pm_R_br pm_M229 (pc' := 77) (pm_q229_1 (Nat.le_of_ble_eq_true rfl)) rfl ?_
                  exact ih_1719 _ (sf_dn hN_1719 e1859 B1728 (by decide) (by decide)) h1853 m_1719 w_1719 z1858 T1854 F1857 W_1719 (sf_weak B1860 (by decide) (by decide)) rfl
        exact L_1719 _ h_1434 m_1434 w_1434 z1440 T_1434 F_1434 (rf_W.refl _ _) B1442 rfl
      · have B1861 : sf_B 0 22 x4_1434 := sf_ltL (Int32.not_le.mp c1439) Bx4_1434 BX_1434
        have B1862 : sf_B 1 23 (m_1434 31) := sf_ltR (Int32.not_le.mp c1439) Bx4_1434 BX_1434
        refine pm_R_lo pm_M229 (pc' := 32) rfl rfl rfl ?_
        refine rf_R_get pm_M229 T_1434 (pc' := 35) (v := .ref 58) rfl rfl rfl rfl ?_
        refine pm_R_lo pm_M229 (pc' := 37) rfl rfl rfl ?_
        obtain ⟨f1863, e1864, b1865⟩ := T_1434.2.2.2.1 58 (by decide) (by decide)
        refine rf_R_ild pm_M229 T_1434 (pc' := 38) rfl e1864 (by decide) (sf_in B1861 (by decide) (by decide)) rfl (fun z1866 ez1867 => ?_)
        have B1868 : sf_B 0 11 z1866 := ez1867 ▸ b1865 _
        refine pm_R_lo pm_M229 (pc' := 39) rfl rfl rfl ?_
        refine rf_R_get pm_M229 T_1434 (pc' := 42) (v := .ref 59) rfl rfl rfl rfl ?_
        refine pm_R_lo pm_M229 (pc' := 44) rfl rfl rfl ?_
        obtain ⟨f1869, e1870, b1871⟩ := T_1434.2.2.2.1 59 (by decide) (by decide)
        refine rf_R_ild pm_M229 T_1434 (pc' := 45) rfl e1870 (by decide) (sf_in B1861 (by decide) (by decide)) rfl (fun z1872 ez1873 => ?_)
        have B1874 : sf_B 0 11 z1872 := ez1873 ▸ b1871 _
        refine pm_R_icmp pm_M229 (t := 57) (pc' := 48) rfl rfl rfl (fun c1875 => ?_) (fun c1875 => ?_)
        · skip
          refine pm_R_lo pm_M229 (pc' := 58) rfl rfl rfl ?_
          refine pm_R_lo pm_M229 (pc' := 60) rfl rfl rfl ?_
          refine pm_R_cv pm_M229 (pc' := 63) (a := 41) (ra := [.int x4_1434]) (rest := []) (ls' := [.ref 41, .int x4_1434, pm_no, pm_no, pm_no, pm_no, pm_no, pm_no, pm_no, pm_no, pm_no, pm_no, pm_no]) rfl rfl (Or.inl rfl) pm_M232 T_1434.2.1 rfl (by decide) (Nat.lt_of_lt_of_le (by decide) T_1434.1) rfl rfl (Nat.le_of_ble_eq_true rfl) rfl rfl ?_
          have B1876 : sf_B 0 21 (m_1434 31) := rf_phi_room X_1434 (Int32.not_le.mp c1439) e1864 e1870 ez1867 ez1873 c1875
          refine rf_c232 (d := d + 0) T_1434 B1861 B1876 (fun m1879 w1880 h1881 T1882 F1883 W1884 X1885 => ?_)
          have F1886 := F_1434.trans F1883 (by decide)
          have B1887 : sf_B 1 12 (m1879 24) := by rw [W1884 24 (by decide)]; exact B1437
          have W1888 : rf_W [31] m m1879 := W1438.trans W1884 (by decide)
          have W1889 : rf_W [31] m52 m1879 := W_1434.trans W1884 (by decide)
          show pm_R _ 229 63 [.ref 41, .long a0, pm_no, .int z59, .int x4_1434] [] _ _
          refine sf_R_iinc pm_M229 (pc' := 66) (ls' := fun z => [.ref 41, .long a0, pm_no, .int z59, .int z]) rfl B1861 rfl (by decide) (by decide) (by decide) (fun _ => rfl) rfl (fun z1890 e1891 B1892 => ?_)
          show pm_R _ 229 66 [.ref 41, .long a0, pm_no, .int z59, .int z1890] [] _ _
          refine pm_R_br pm_M229 (pc' := 22) rfl rfl ?_
          exact ih_1434 _ (sf_up hN_1434 e1891 B1861 (by decide) (by decide)) h1881 m1879 w1880 z1890 T1882 F1886 W1889 (sf_weak B1892 (by decide) (by decide)) (rf_phi_split X_1434 (Int32.not_le.mp c1439) X1885 e1891) rfl
        · refine pm_R_lo pm_M229 (pc' := 49) rfl rfl rfl ?_
          refine pm_R_lo pm_M229 (pc' := 51) rfl rfl rfl ?_
          refine pm_R_cv pm_M229 (pc' := 54) (a := 41) (ra := [.int x4_1434]) (rest := []) (ls' := [.ref 41, .int x4_1434, pm_no, pm_no, pm_no, pm_no]) rfl rfl (Or.inl rfl) pm_M231 T_1434.2.1 rfl (by decide) (Nat.lt_of_lt_of_le (by decide) T_1434.1) rfl rfl (Nat.le_of_ble_eq_true rfl) rfl rfl ?_
          refine rf_c231 (d := d + 1) T_1434 (sf_weak B1861 (by decide) (by decide)) (fun m1895 w1896 h1897 T1898 F1899 W1900 => ?_)
          have F1901 := F_1434.trans F1899 (by decide)
          have B1902 : sf_B 1 12 (m1895 24) := by rw [W1900 24 (by decide)]; exact B1437
          have B1903 : sf_B 1 23 (m1895 31) := by rw [W1900 31 (by decide)]; exact B1862
          have W1904 : rf_W [31] m m1895 := W1438.trans W1900 (by decide)
          have W1905 : rf_W [31] m52 m1895 := W_1434.trans W1900 (by decide)
          show pm_R _ 229 54 [.ref 41, .long a0, pm_no, .int z59, .int x4_1434] [] _ _
          refine pm_R_br pm_M229 (pc' := 63) rfl rfl ?_
          refine sf_R_iinc pm_M229 (pc' := 66) (ls' := fun z => [.ref 41, .long a0, pm_no, .int z59, .int z]) rfl B1861 rfl (by decide) (by decide) (by decide) (fun _ => rfl) rfl (fun z1906 e1907 B1908 => ?_)
          show pm_R _ 229 66 [.ref 41, .long a0, pm_no, .int z59, .int z1906] [] _ _
          refine pm_R_br pm_M229 (pc' := 22) rfl rfl ?_
          exact ih_1434 _ (sf_up hN_1434 e1907 B1861 (by decide) (by decide)) h1897 m1895 w1896 z1906 T1898 F1901 W1905 (sf_weak B1908 (by decide) (by decide)) (rf_phi_leaf X_1434 (Int32.not_le.mp c1439) F1899 (by decide) (W1900 31 (by decide)) e1907) rfl
  have e1909 := (F51.cell (by decide) (F43.cell (by decide) (F35.cell (by decide) e28)))
  have e1910 := (F51.cell (by decide) (F43.cell (by decide) e36))
  exact L_1434 _ h49 m52 w 0 T50 F54 (rf_W.refl _ _) (sf_weak sf_k0 (by decide) (by decide)) (rf_phi_0 (n := (m52 31)) (j := (m4 31)) (x := 0) (y := z11) e1909 e1910 (by skip; omega) (by skip; (try simp only [(show (0 : Int32).toInt = 0 from rfl)]); omega) B13 (by decide) (by have q0 := e47; have q1 := ek57; (try simp only [(show (1 : Int32).toInt = 1 from rfl)] at q0 q1 ⊢); omega) (by skip; (try simp only [(show (0 : Int32).toInt = 0 from rfl)]); omega)) rfl

set_option maxRecDepth 100000 in
set_option maxHeartbeats 4000000 in
/-- SilentTableModel.tree -/
theorem rf_c228 {d : Nat} {m : Nat → Int32} {w : Int64} {h : pm_H} {Q : Option Value → pm_H → Prop} {a0 : Int32} {a1 : Int32} {a2 : Int64} {a3 : Int32} (T : rf_T m w h)  (K : ∀ (r : Int32) (m' : Nat → Int32) (w' : Int64) (h' : pm_H), rf_T m' w' h' → rf_G [41, 53, 55, 57, 58, 59, 60, 61, 62, 63, 64, 65] h h' → rf_W [0, 23, 24, 26, 31] m m' → Q (some (.int r)) h') : pm_R (d + 5) 228 0 [.ref 41, .int a0, .int a1, .long a2, pm_no, .int a3, pm_no] [] h Q := by
  refine pm_R_lo pm_M228 (pc' := 1) rfl rfl rfl ?_
  refine pm_R_op pm_M228 (pc' := 2) (st' := [.int 0, .ref 41]) rfl rfl rfl ?_
  refine rf_R_put pm_M228 T (pc' := 5) rfl rfl rfl (by decide) rfl rfl sf_k0 rfl rfl (fun h1 m4 em5 T2 F3 => ?_)
  have F6 := (rf_G.refl [41, 53, 55, 57, 58, 59, 60, 61, 62, 63, 64, 65] h).trans F3 (by decide)
  have B7 : sf_B 0 0 (m4 0) := by rw [em5]; exact sf_k0
  have W9 : rf_W [0, 23, 24, 26, 31] m m4 := by rw [em5]; exact (rf_W.refl [0, 23, 24, 26, 31] m).put (by decide)
  refine pm_R_lo pm_M228 (pc' := 6) rfl rfl rfl ?_
  refine pm_R_lo pm_M228 (pc' := 7) rfl rfl rfl ?_
  refine pm_R_lo pm_M228 (pc' := 8) rfl rfl rfl ?_
  refine pm_R_cv pm_M228 (pc' := 11) (a := 41) (ra := [.int a1, .int a0]) (rest := []) (ls' := [.ref 41, .int a0, .int a1]) rfl rfl (Or.inl rfl) pm_M200 T2.2.1 rfl (by decide) (Nat.lt_of_lt_of_le (by decide) T2.1) rfl rfl (Nat.le_of_ble_eq_true rfl) rfl rfl ?_
  refine pm_R_lo pm_M200 (pc' := 1) rfl rfl rfl ?_
  refine pm_R_op pm_M200 (pc' := 2) (st' := [.int 0, .ref 41]) rfl rfl rfl ?_
  refine pm_R_lo pm_M200 (pc' := 3) rfl rfl rfl ?_
  refine pm_R_cv pm_M200 (pc' := 6) (a := 41) (ra := [.int a0, .int 0]) (rest := []) (ls' := [.ref 41, .int 0, .int a0]) rfl rfl (Or.inl rfl) pm_M177 T2.2.1 rfl (by decide) (Nat.lt_of_lt_of_le (by decide) T2.1) rfl rfl (Nat.le_of_ble_eq_true rfl) rfl rfl ?_
  refine pm_R_lo pm_M177 (pc' := 1) rfl rfl rfl ?_
  refine pm_R_op pm_M177 (pc' := 2) (st' := [.int 0, .int a0]) rfl rfl rfl ?_
  refine pm_R_lo pm_M177 (pc' := 3) rfl rfl rfl ?_
  refine rf_R_get pm_M177 T2 (pc' := 6) (v := .ref 46) rfl rfl rfl rfl ?_
  refine pm_R_lo pm_M177 (pc' := 7) rfl rfl rfl ?_
  obtain ⟨f10, e11, b12⟩ := T2.2.2.2.1 46 (by decide) (by decide)
  refine rf_R_ild pm_M177 T2 (pc' := 8) rfl e11 (by decide) rfl rfl (fun z13 ez14 => ?_)
  have B15 : sf_B 0 2 z13 := ez14 ▸ (b12 0)
  refine pm_R_op pm_M177 (pc' := 9) (st' := [.int 1, .int z13, .int 0, .int a0]) rfl rfl rfl ?_
  refine sf_R_isub pm_M177 (pc' := 10) rfl rfl B15 sf_k1 (by decide) (by decide) (fun z16 e17 B18 => ?_)
  refine pm_R_cs pm_M177 (pc' := 13) (ra := [.int z16, .int 0, .int a0]) (rest := []) (ls' := [.int a0, .int 0, .int z16]) rfl rfl (Or.inl rfl) pm_M174 rfl rfl (Nat.le_of_ble_eq_true rfl) rfl rfl ?_
  refine pm_R_lo pm_M174 (pc' := 1) rfl rfl rfl ?_
  refine pm_R_lo pm_M174 (pc' := 2) rfl rfl rfl ?_
  refine pm_R_icmp pm_M174 (t := 14) (pc' := 5) rfl rfl rfl (fun c19 => ?_) (fun c19 => ?_)
  · have B20 : sf_B (-2147483648) (-1) a0 := sf_ltL c19 (sf_any a0) sf_k0
    refine pm_R_op pm_M174 (pc' := 15) (st' := [.int 0]) rfl rfl rfl ?_
    refine pm_R_ret pm_M174 (r := some (.int 0)) rfl rfl ?_
    show pm_R _ 177 13 [.ref 41, .int 0, .int a0] [.int 0] _ _
    refine pm_R_ret pm_M177 (r := some (.int 0)) rfl rfl ?_
    show pm_R _ 200 6 [.ref 41, .int a0, .int a1] [.int 0] _ _
    refine pm_R_br pm_M200 (pc' := 18) (st' := []) rfl rfl ?_
    refine pm_R_op pm_M200 (pc' := 19) (st' := [.int 0]) rfl rfl rfl ?_
    refine pm_R_ret pm_M200 (r := some (.int 0)) rfl rfl ?_
    show pm_R _ 228 11 [.ref 41, .int a0, .int a1, .long a2, pm_no, .int a3, pm_no] [.int 0] _ _
    refine pm_R_br pm_M228 (pc' := 14) (st' := []) rfl rfl ?_
    refine pm_R_op pm_M228 (pc' := 16) (st' := [.int (-2)]) rfl rfl rfl ?_
    exact pm_R_ret pm_M228 (r := some (.int (-2))) rfl rfl (K (-2) m4 w h1 T2 F6 W9)
  · have B21 : sf_B 0 2147483647 a0 := sf_leR (Int32.not_lt.mp c19) sf_k0 (sf_any a0)
    refine pm_R_lo pm_M174 (pc' := 6) rfl rfl rfl ?_
    refine pm_R_lo pm_M174 (pc' := 7) rfl rfl rfl ?_
    refine pm_R_icmp pm_M174 (t := 14) (pc' := 10) rfl rfl rfl (fun c22 => ?_) (fun c22 => ?_)
    · skip
      refine pm_R_op pm_M174 (pc' := 15) (st' := [.int 0]) rfl rfl rfl ?_
      refine pm_R_ret pm_M174 (r := some (.int 0)) rfl rfl ?_
      show pm_R _ 177 13 [.ref 41, .int 0, .int a0] [.int 0] _ _
      refine pm_R_ret pm_M177 (r := some (.int 0)) rfl rfl ?_
      show pm_R _ 200 6 [.ref 41, .int a0, .int a1] [.int 0] _ _
      refine pm_R_br pm_M200 (pc' := 18) (st' := []) rfl rfl ?_
      refine pm_R_op pm_M200 (pc' := 19) (st' := [.int 0]) rfl rfl rfl ?_
      refine pm_R_ret pm_M200 (r := some (.int 0)) rfl rfl ?_
      show pm_R _ 228 11 [.ref 41, .int a0, .int a1, .long a2, pm_no, .int a3, pm_no] [.int 0] _ _
      refine pm_R_br pm_M228 (pc' := 14) (st' := []) rfl rfl ?_
      refine pm_R_op pm_M228 (pc' := 16) (st' := [.int (-2)]) rfl rfl rfl ?_
      exact pm_R_ret pm_M228 (r := some (.int (-2))) rfl rfl (K (-2) m4 w h1 T2 F6 W9)
    · have B23 : sf_B 0 1 a0 := sf_leL (Int32.not_lt.mp c22) B21 B18
      have B24 : sf_B 0 1 z16 := sf_leR (Int32.not_lt.mp c22) B21 B18
      refine pm_R_op pm_M174 (pc' := 11) (st' := [.int 1]) rfl rfl rfl ?_
      refine pm_R_br pm_M174 (pc' := 15) rfl rfl ?_
      refine pm_R_ret pm_M174 (r := some (.int 1)) rfl rfl ?_
      show pm_R _ 177 13 [.ref 41, .int 0, .int a0] [.int 1] _ _
      refine pm_R_ret pm_M177 (r := some (.int 1)) rfl rfl ?_
      show pm_R _ 200 6 [.ref 41, .int a0, .int a1] [.int 1] _ _
      refine pm_R_br pm_M200 (pc' := 9) (st' := []) rfl rfl ?_
      refine pm_R_lo pm_M200 (pc' := 10) rfl rfl rfl ?_
      refine pm_R_op pm_M200 (pc' := 11) (st' := [.int 1, .ref 41]) rfl rfl rfl ?_
      refine pm_R_lo pm_M200 (pc' := 12) rfl rfl rfl ?_
      refine pm_R_cv pm_M200 (pc' := 15) (a := 41) (ra := [.int a1, .int 1]) (rest := []) (ls' := [.ref 41, .int 1, .int a1]) rfl rfl (Or.inl rfl) pm_M177 T2.2.1 rfl (by decide) (Nat.lt_of_lt_of_le (by decide) T2.1) rfl rfl (Nat.le_of_ble_eq_true rfl) rfl rfl ?_
      refine pm_R_lo pm_M177 (pc' := 1) rfl rfl rfl ?_
      refine pm_R_op pm_M177 (pc' := 2) (st' := [.int 0, .int a1]) rfl rfl rfl ?_
      refine pm_R_lo pm_M177 (pc' := 3) rfl rfl rfl ?_
      refine rf_R_get pm_M177 T2 (pc' := 6) (v := .ref 46) rfl rfl rfl rfl ?_
      refine pm_R_lo pm_M177 (pc' := 7) rfl rfl rfl ?_
      refine rf_R_ild pm_M177 T2 (pc' := 8) rfl e11 (by decide) rfl rfl (fun z25 ez26 => ?_)
      have B27 : sf_B 0 3 z25 := ez26 ▸ (b12 1)
      refine pm_R_op pm_M177 (pc' := 9) (st' := [.int 1, .int z25, .int 0, .int a1]) rfl rfl rfl ?_
      refine sf_R_isub pm_M177 (pc' := 10) rfl rfl B27 sf_k1 (by decide) (by decide) (fun z28 e29 B30 => ?_)
      refine pm_R_cs pm_M177 (pc' := 13) (ra := [.int z28, .int 0, .int a1]) (rest := []) (ls' := [.int a1, .int 0, .int z28]) rfl rfl (Or.inl rfl) pm_M174 rfl rfl (Nat.le_of_ble_eq_true rfl) rfl rfl ?_
      refine pm_R_lo pm_M174 (pc' := 1) rfl rfl rfl ?_
      refine pm_R_lo pm_M174 (pc' := 2) rfl rfl rfl ?_
      refine pm_R_icmp pm_M174 (t := 14) (pc' := 5) rfl rfl rfl (fun c31 => ?_) (fun c31 => ?_)
      · have B32 : sf_B (-2147483648) (-1) a1 := sf_ltL c31 (sf_any a1) sf_k0
        refine pm_R_op pm_M174 (pc' := 15) (st' := [.int 0]) rfl rfl rfl ?_
        refine pm_R_ret pm_M174 (r := some (.int 0)) rfl rfl ?_
        show pm_R _ 177 13 [.ref 41, .int 1, .int a1] [.int 0] _ _
        refine pm_R_ret pm_M177 (r := some (.int 0)) rfl rfl ?_
        show pm_R _ 200 15 [.ref 41, .int a0, .int a1] [.int 0] _ _
        refine pm_R_br pm_M200 (pc' := 18) (st' := []) rfl rfl ?_
        refine pm_R_op pm_M200 (pc' := 19) (st' := [.int 0]) rfl rfl rfl ?_
        refine pm_R_ret pm_M200 (r := some (.int 0)) rfl rfl ?_
        show pm_R _ 228 11 [.ref 41, .int a0, .int a1, .long a2, pm_no, .int a3, pm_no] [.int 0] _ _
        refine pm_R_br pm_M228 (pc' := 14) (st' := []) rfl rfl ?_
        refine pm_R_op pm_M228 (pc' := 16) (st' := [.int (-2)]) rfl rfl rfl ?_
        exact pm_R_ret pm_M228 (r := some (.int (-2))) rfl rfl (K (-2) m4 w h1 T2 F6 W9)
      · have B33 : sf_B 0 2147483647 a1 := sf_leR (Int32.not_lt.mp c31) sf_k0 (sf_any a1)
        refine pm_R_lo pm_M174 (pc' := 6) rfl rfl rfl ?_
        refine pm_R_lo pm_M174 (pc' := 7) rfl rfl rfl ?_
        refine pm_R_icmp pm_M174 (t := 14) (pc' := 10) rfl rfl rfl (fun c34 => ?_) (fun c34 => ?_)
        · skip
          refine pm_R_op pm_M174 (pc' := 15) (st' := [.int 0]) rfl rfl rfl ?_
          refine pm_R_ret pm_M174 (r := some (.int 0)) rfl rfl ?_
          show pm_R _ 177 13 [.ref 41, .int 1, .int a1] [.int 0] _ _
          refine pm_R_ret pm_M177 (r := some (.int 0)) rfl rfl ?_
          show pm_R _ 200 15 [.ref 41, .int a0, .int a1] [.int 0] _ _
          refine pm_R_br pm_M200 (pc' := 18) (st' := []) rfl rfl ?_
          refine pm_R_op pm_M200 (pc' := 19) (st' := [.int 0]) rfl rfl rfl ?_
          refine pm_R_ret pm_M200 (r := some (.int 0)) rfl rfl ?_
          show pm_R _ 228 11 [.ref 41, .int a0, .int a1, .long a2, pm_no, .int a3, pm_no] [.int 0] _ _
          refine pm_R_br pm_M228 (pc' := 14) (st' := []) rfl rfl ?_
          refine pm_R_op pm_M228 (pc' := 16) (st' := [.int (-2)]) rfl rfl rfl ?_
          exact pm_R_ret pm_M228 (r := some (.int (-2))) rfl rfl (K (-2) m4 w h1 T2 F6 W9)
        · have V35 := rf_V.mk e11 ez26 e29 (Int32.not_lt.mp c34) B33 (by decide)
          have V35 := V35.back F6 (by decide)
          have B36 : sf_B 0 2 a1 := sf_leL (Int32.not_lt.mp c34) B33 B30
          have B37 : sf_B 0 2 z28 := sf_leR (Int32.not_lt.mp c34) B33 B30
          refine pm_R_op pm_M174 (pc' := 11) (st' := [.int 1]) rfl rfl rfl ?_
          refine pm_R_br pm_M174 (pc' := 15) rfl rfl ?_
          refine pm_R_ret pm_M174 (r := some (.int 1)) rfl rfl ?_
          show pm_R _ 177 13 [.ref 41, .int 1, .int a1] [.int 1] _ _
          refine pm_R_ret pm_M177 (r := some (.int 1)) rfl rfl ?_
          show pm_R _ 200 15 [.ref 41, .int a0, .int a1] [.int 1] _ _
          refine pm_R_br pm_M200 (pc' := 20) (st' := []) rfl rfl ?_
          refine pm_R_lo pm_M200 (pc' := 21) rfl rfl rfl ?_
          refine pm_R_lo pm_M200 (pc' := 22) rfl rfl rfl ?_
          refine pm_R_lo pm_M200 (pc' := 23) rfl rfl rfl ?_
          refine pm_R_cv pm_M200 (pc' := 26) (a := 41) (ra := [.int a1, .int a0]) (rest := []) (ls' := [.ref 41, .int a0, .int a1, pm_no]) rfl rfl (Or.inl rfl) pm_M201 T2.2.1 rfl (by decide) (Nat.lt_of_lt_of_le (by decide) T2.1) rfl rfl (Nat.le_of_ble_eq_true rfl) rfl rfl ?_
          refine rf_c201 (d := d + 3) T2 B23 B36 (V35.F F6 (by decide)) (fun m40 w41 h42 T43 F44 W45 X46 B47 => ?_)
          have F48 := F6.trans F44 (by decide)
          have W49 : rf_W [0, 23, 24, 26, 31] m m40 := W9.trans W45 (by decide)
          show pm_R _ 200 26 [.ref 41, .int a0, .int a1] [] _ _
          refine pm_R_op pm_M200 (pc' := 27) (st' := [.int 1]) rfl rfl rfl ?_
          refine pm_R_ret pm_M200 (r := some (.int 1)) rfl rfl ?_
          show pm_R _ 228 11 [.ref 41, .int a0, .int a1, .long a2, pm_no, .int a3, pm_no] [.int 1] _ _
          refine pm_R_br pm_M228 (pc' := 17) (st' := []) rfl rfl ?_
          refine pm_R_lo pm_M228 (pc' := 18) rfl rfl rfl ?_
          refine pm_R_cv pm_M228 (pc' := 21) (a := 41) (ra := []) (rest := []) (ls' := [.ref 41, pm_no, pm_no, pm_no, pm_no, pm_no]) rfl rfl (Or.inl rfl) pm_M202 T43.2.1 rfl (by decide) (Nat.lt_of_lt_of_le (by decide) T43.1) rfl rfl (Nat.le_of_ble_eq_true rfl) rfl rfl ?_
          refine rf_c202 (d := d + 0) T43  (fun m52 w53 h54 T55 F56 W57 => ?_)
          have F58 := F48.trans F56 (by decide)
          have B59 : sf_B 1 12 (m52 24) := by rw [W57 24 (by decide)]; exact B47
          have W60 : rf_W [0, 23, 24, 26, 31] m m52 := W49.trans W57 (by decide)
          show pm_R _ 228 21 [.ref 41, .int a0, .int a1, .long a2, pm_no, .int a3, pm_no] [] _ _
          refine pm_R_lo pm_M228 (pc' := 22) rfl rfl rfl ?_
          refine pm_R_op pm_M228 (pc' := 23) (st' := [.long 0, .long a2]) rfl rfl rfl ?_
          refine sf_R_lcmp pm_M228 (pc' := 24) rfl rfl (fun z61 e62 => ?_)
          refine pm_R_ifc pm_M228 (t := 48) (pc' := 27) rfl rfl rfl (fun c63 => ?_) (fun c63 => ?_)
          · have B64 : sf_B (-2147483648) (-1) z61 := sf_ltL c63 (sf_any z61) sf_k0
            have k65 := lf_lt e62 B64 (by decide)
            have k66 := sf_lneB e62 B64 (by decide)
            refine pm_R_op pm_M228 (pc' := 50) (st' := [.int (-2)]) rfl rfl rfl ?_
            exact pm_R_ret pm_M228 (r := some (.int (-2))) rfl rfl (K (-2) m52 w53 h54 T55 F58 W60)
          · have B67 : sf_B 0 2147483647 z61 := sf_leR (Int32.not_lt.mp c63) sf_k0 (sf_any z61)
            have k68 := lf_ge e62 B67 (by decide)
            have B69 : lf_B 0 9223372036854775807 a2 := lf_geB k68 (⟨by decide, by decide⟩ : lf_B 0 0 0) (lf_any _)
            refine pm_R_lo pm_M228 (pc' := 28) rfl rfl rfl ?_
            refine pm_R_lo pm_M228 (pc' := 29) rfl rfl rfl ?_
            refine rf_R_get pm_M228 T55 (pc' := 32) (v := .ref 55) rfl rfl rfl rfl ?_
            refine pm_R_op pm_M228 (pc' := 33) (st' := [.int 0, .ref 55, .long a2]) rfl rfl rfl ?_
            refine pm_R_op pm_M228 (pc' := 34) (st' := [.int 0, .int 0, .ref 55, .long a2]) rfl rfl rfl ?_
            refine pm_R_lo pm_M228 (pc' := 35) rfl rfl rfl ?_
            refine rf_R_get pm_M228 T55 (pc' := 38) (v := .int (m52 24)) rfl rfl rfl rfl ?_
            refine pm_R_op pm_M228 (pc' := 39) (st' := [.int 1, .int (m52 24), .int 0, .int 0, .ref 55, .long a2]) rfl rfl rfl ?_
            refine sf_R_isub pm_M228 (pc' := 40) rfl rfl B59 sf_k1 (by decide) (by decide) (fun z70 e71 B72 => ?_)
            refine pm_R_cs pm_M228 (pc' := 43) (ra := [.int z70, .int 0, .int 0]) (rest := [.ref 55, .long a2]) (ls' := [.int 0, .int 0, .int z70]) rfl rfl (Or.inl rfl) pm_M207 rfl rfl (Nat.le_of_ble_eq_true rfl) rfl rfl ?_
            refine pm_R_op pm_M207 (pc' := 3) (st' := [.int 144]) rfl rfl rfl ?_
            refine pm_R_lo pm_M207 (pc' := 4) rfl rfl rfl ?_
            refine pm_R_op pm_M207 (pc' := 5) (st' := [.int 0]) rfl rfl rfl ?_
            refine pm_R_op pm_M207 (pc' := 7) (st' := [.int 12, .int 0]) rfl rfl rfl ?_
            refine pm_R_lo pm_M207 (pc' := 8) rfl rfl rfl ?_
            refine pm_R_op pm_M207 (pc' := 9) (st' := [.int 0, .int 0]) rfl rfl rfl ?_
            refine pm_R_op pm_M207 (pc' := 10) (st' := [.int 0]) rfl rfl rfl ?_
            refine pm_R_lo pm_M207 (pc' := 11) rfl rfl rfl ?_
            refine sf_R_iadd pm_M207 (pc' := 12) rfl rfl sf_k0 B72 (by decide) (by decide) (fun z73 e74 B75 => ?_)
            refine pm_R_ret pm_M207 (r := some (.int z73)) rfl (pm_ret_i _) ?_
            show pm_R _ 228 43 [.ref 41, .int a0, .int a1, .long a2, pm_no, .int a3, pm_no] [.int z73, .ref 55, .long a2] _ _
            obtain ⟨f76, e77, b78⟩ := T55.2.2.2.1 55 (by decide) (by decide)
            refine rf_R_lld pm_M228 T55 (pc' := 44) rfl e77 (by decide) (by decide) (sf_in B75 (by decide) (by decide)) rfl (fun z79 ez80 => ?_)
            have B81 : lf_B 0 1000000000000 z79 := ez80 ▸ b78 _
            refine sf_R_lcmp pm_M228 (pc' := 45) rfl rfl (fun z82 e83 => ?_)
            refine pm_R_ifc pm_M228 (t := 51) (pc' := 48) rfl rfl rfl (fun c84 => ?_) (fun c84 => ?_)
            · have B85 : sf_B (-2147483648) (-1) z82 := sf_ltL c84 (sf_any z82) sf_k0
              have k86 := lf_lt e83 B85 (by decide)
              have k87 := sf_lneB e83 B85 (by decide)
              refine pm_R_lo pm_M228 (pc' := 52) rfl rfl rfl ?_
              refine pm_R_lo pm_M228 (pc' := 53) rfl rfl rfl ?_
              refine pm_R_cv pm_M228 (pc' := 56) (a := 41) (ra := [.long a2]) (rest := []) (ls' := [.ref 41, .long a2, pm_no, pm_no, pm_no]) rfl rfl (Or.inl rfl) pm_M229 T55.2.1 rfl (by decide) (Nat.lt_of_lt_of_le (by decide) T55.1) rfl rfl (Nat.le_of_ble_eq_true rfl) rfl rfl ?_
              refine rf_c229 (d := d + 0) T55 B69 B59 (fun m90 w91 h92 T93 F94 W95 => ?_)
              have F96 := F58.trans F94 (by decide)
              have B97 : sf_B 1 12 (m90 24) := by rw [W95 24 (by decide)]; exact B59
              have W98 : rf_W [0, 23, 24, 26, 31] m m90 := W60.trans W95 (by decide)
              show pm_R _ 228 56 [.ref 41, .int a0, .int a1, .long a2, pm_no, .int a3, pm_no] [] _ _
              refine pm_R_lo pm_M228 (pc' := 57) rfl rfl rfl ?_
              refine rf_R_get pm_M228 T93 (pc' := 60) (v := .int (m90 24)) rfl rfl rfl rfl ?_
              refine pm_R_op pm_M228 (pc' := 61) (st' := [.int 1, .int (m90 24)]) rfl rfl rfl ?_
              refine pm_R_icmp pm_M228 (t := 68) (pc' := 64) rfl rfl rfl (fun c99 => ?_) (fun c99 => ?_)
              · have B100 : sf_B 2 12 (m90 24) := sf_neL0 c99 sf_k1 B97
                refine pm_R_op pm_M228 (pc' := 69) (st' := [.int 0]) rfl rfl rfl ?_
                refine pm_R_lo pm_M228 (pc' := 71) (ls' := [.ref 41, .int a0, .int a1, .long a2, pm_no, .int a3, .int 0]) (st' := []) rfl rfl rfl ?_
                refine pm_R_lo pm_M228 (pc' := 73) rfl rfl rfl ?_
                refine pm_R_ifc pm_M228 (t := 85) (pc' := 76) rfl rfl rfl (fun c101 => ?_) (fun c101 => ?_)
                · skip
                  refine pm_R_lo pm_M228 (pc' := 87) rfl rfl rfl ?_
                  refine pm_R_op pm_M228 (pc' := 88) (st' := [.int 1, .int a3]) rfl rfl rfl ?_
                  refine pm_R_icmp pm_M228 (t := 109) (pc' := 91) rfl rfl rfl (fun c102 => ?_) (fun c102 => ?_)
                  · skip
                    refine pm_R_lo pm_M228 (pc' := 111) (pm_q228_1 (Nat.le_of_ble_eq_true rfl)) rfl rfl ?_
                    refine pm_R_op pm_M228 (pc' := 112) (st' := [.int 2, .int a3]) (pm_q228_1 (Nat.le_of_ble_eq_true rfl)) rfl rfl ?_
                    refine pm_R_icmp pm_M228 (t := 135) (pc' := 115) (pm_q228_1 (Nat.le_of_ble_eq_true rfl)) rfl rfl (fun c103 => ?_) (fun c103 => ?_)
                    · skip
                      refine pm_R_lo pm_M228 (pc' := 137) (pm_q228_1 (Nat.le_of_ble_eq_true rfl)) rfl rfl ?_
                      refine pm_R_op pm_M228 (pc' := 139) (st' := [.int 10, .int a3]) (pm_q228_1 (Nat.le_of_ble_eq_true rfl)) rfl rfl ?_
                      refine pm_R_op pm_M228 (pc' := 141) (st' := [.int 9, .int 10, .int a3]) (pm_q228_1 (Nat.le_of_ble_eq_true rfl)) rfl rfl ?_
                      refine pm_R_lo pm_M228 (pc' := 142) (pm_q228_1 (Nat.le_of_ble_eq_true rfl)) rfl rfl ?_
                      refine rf_R_get pm_M228 T93 (pc' := 145) (v := .int (m90 24)) (pm_q228_1 (Nat.le_of_ble_eq_true rfl)) rfl rfl rfl ?_
                      refine sf_R_iadd pm_M228 (pc' := 146) (pm_q228_1 (Nat.le_of_ble_eq_true rfl)) rfl sf_k9 B100 (by decide) (by decide) (fun z104 e105 B106 => ?_)
                      refine pm_R_cs pm_M228 (pc' := 149) (ra := [.int z104, .int 10, .int a3]) (rest := []) (ls' := [.int a3, .int 10, .int z104]) (pm_q228_1 (Nat.le_of_ble_eq_true rfl)) rfl (Or.inl rfl) pm_M174 rfl rfl (Nat.le_of_ble_eq_true rfl) rfl rfl ?_
                      refine pm_R_lo pm_M174 (pc' := 1) rfl rfl rfl ?_
                      refine pm_R_lo pm_M174 (pc' := 2) rfl rfl rfl ?_
                      refine pm_R_icmp pm_M174 (t := 14) (pc' := 5) rfl rfl rfl (fun c107 => ?_) (fun c107 => ?_)
                      · have B108 : sf_B (-2147483648) 9 a3 := sf_ltL c107 (sf_any a3) sf_k10
                        refine pm_R_op pm_M174 (pc' := 15) (st' := [.int 0]) rfl rfl rfl ?_
                        refine pm_R_ret pm_M174 (r := some (.int 0)) rfl rfl ?_
                        show pm_R _ 228 149 [.ref 41, .int a0, .int a1, .long a2, pm_no, .int a3, .int 0] [.int 0] _ _
                        refine pm_R_br pm_M228 (pc' := 165) (st' := []) (pm_q228_1 (Nat.le_of_ble_eq_true rfl)) rfl ?_
                        refine pm_R_op pm_M228 (pc' := 167) (st' := [.int (-2)]) (pm_q228_1 (Nat.le_of_ble_eq_true rfl)) rfl rfl ?_
                        exact pm_R_ret pm_M228 (r := some (.int (-2))) (pm_q228_1 (Nat.le_of_ble_eq_true rfl)) rfl (K (-2) m90 w91 h92 T93 F96 W98)
                      · have B109 : sf_B 10 2147483647 a3 := sf_leR (Int32.not_lt.mp c107) sf_k10 (sf_any a3)
                        refine pm_R_lo pm_M174 (pc' := 6) rfl rfl rfl ?_
                        refine pm_R_lo pm_M174 (pc' := 7) rfl rfl rfl ?_
                        refine pm_R_icmp pm_M174 (t := 14) (pc' := 10) rfl rfl rfl (fun c110 => ?_) (fun c110 => ?_)
                        · have B111 : sf_B 12 2147483647 a3 := sf_ltR c110 B106 B109
                          refine pm_R_op pm_M174 (pc' := 15) (st' := [.int 0]) rfl rfl rfl ?_
                          refine pm_R_ret pm_M174 (r := some (.int 0)) rfl rfl ?_
                          show pm_R _ 228 149 [.ref 41, .int a0, .int a1, .long a2, pm_no, .int a3, .int 0] [.int 0] _ _
                          refine pm_R_br pm_M228 (pc' := 165) (st' := []) (pm_q228_1 (Nat.le_of_ble_eq_true rfl)) rfl ?_
                          refine pm_R_op pm_M228 (pc' := 167) (st' := [.int (-2)]) (pm_q228_1 (Nat.le_of_ble_eq_true rfl)) rfl rfl ?_
                          exact pm_R_ret pm_M228 (r := some (.int (-2))) (pm_q228_1 (Nat.le_of_ble_eq_true rfl)) rfl (K (-2) m90 w91 h92 T93 F96 W98)
                        · have B112 : sf_B 10 21 a3 := sf_leL (Int32.not_lt.mp c110) B109 B106
                          refine pm_R_op pm_M174 (pc' := 11) (st' := [.int 1]) rfl rfl rfl ?_
                          refine pm_R_br pm_M174 (pc' := 15) rfl rfl ?_
                          refine pm_R_ret pm_M174 (r := some (.int 1)) rfl rfl ?_
                          show pm_R _ 228 149 [.ref 41, .int a0, .int a1, .long a2, pm_no, .int a3, .int 0] [.int 1] _ _
                          refine pm_R_br pm_M228 (pc' := 152) (st' := []) (pm_q228_1 (Nat.le_of_ble_eq_true rfl)) rfl ?_
                          refine pm_R_lo pm_M228 (pc' := 153) (pm_q228_1 (Nat.le_of_ble_eq_true rfl)) rfl rfl ?_
                          refine rf_R_get pm_M228 T93 (pc' := 156) (v := .ref 65) (pm_q228_1 (Nat.le_of_ble_eq_true rfl)) rfl rfl rfl ?_
                          refine pm_R_lo pm_M228 (pc' := 158) (pm_q228_1 (Nat.le_of_ble_eq_true rfl)) rfl rfl ?_
                          refine pm_R_op pm_M228 (pc' := 160) (st' := [.int 10, .int a3, .ref 65]) (pm_q228_1 (Nat.le_of_ble_eq_true rfl)) rfl rfl ?_
                          refine sf_R_isub pm_M228 (pc' := 161) (pm_q228_1 (Nat.le_of_ble_eq_true rfl)) rfl B112 sf_k10 (by decide) (by decide) (fun z113 e114 B115 => ?_)
                          obtain ⟨f116, e117, b118⟩ := T93.2.2.2.1 65 (by decide) (by decide)
                          refine rf_R_ild pm_M228 T93 (pc' := 162) (pm_q228_1 (Nat.le_of_ble_eq_true rfl)) e117 (by decide) (sf_in B115 (by decide) (by decide)) rfl (fun z119 ez120 => ?_)
                          have B121 : sf_B 0 15 z119 := ez120 ▸ b118 _
                          refine pm_R_br pm_M228 (pc' := 167) (pm_q228_1 (Nat.le_of_ble_eq_true rfl)) rfl ?_
                          exact pm_R_ret pm_M228 (r := some (.int z119)) (pm_q228_1 (Nat.le_of_ble_eq_true rfl)) (pm_ret_i _) (K z119 m90 w91 h92 T93 F96 W98)
                    · have B122 : sf_B 2 2 a3 := sf_eqL (Classical.not_not.mp c103) sf_k2
                      refine pm_R_lo pm_M228 (pc' := 117) (pm_q228_1 (Nat.le_of_ble_eq_true rfl)) rfl rfl ?_
                      refine pm_R_br pm_M228 (pc' := 124) (st' := []) (pm_q228_1 (Nat.le_of_ble_eq_true rfl)) rfl ?_
                      refine pm_R_lo pm_M228 (pc' := 125) (pm_q228_1 (Nat.le_of_ble_eq_true rfl)) rfl rfl ?_
                      refine rf_R_get pm_M228 T93 (pc' := 128) (v := .ref 62) (pm_q228_1 (Nat.le_of_ble_eq_true rfl)) rfl rfl rfl ?_
                      refine pm_R_op pm_M228 (pc' := 129) (st' := [.int 0, .ref 62]) (pm_q228_1 (Nat.le_of_ble_eq_true rfl)) rfl rfl ?_
                      obtain ⟨f123, e124, b125⟩ := T93.2.2.2.1 62 (by decide) (by decide)
                      refine rf_R_ild pm_M228 T93 (pc' := 130) (pm_q228_1 (Nat.le_of_ble_eq_true rfl)) e124 (by decide) rfl rfl (fun z126 ez127 => ?_)
                      have B128 : sf_B 0 11 z126 := ez127 ▸ b125 _
                      refine pm_R_op pm_M228 (pc' := 131) (st' := [.int 1, .int z126]) (pm_q228_1 (Nat.le_of_ble_eq_true rfl)) rfl rfl ?_
                      refine sf_R_iadd pm_M228 (pc' := 132) (pm_q228_1 (Nat.le_of_ble_eq_true rfl)) rfl B128 sf_k1 (by decide) (by decide) (fun z129 e130 B131 => ?_)
                      refine pm_R_br pm_M228 (pc' := 167) (pm_q228_1 (Nat.le_of_ble_eq_true rfl)) rfl ?_
                      exact pm_R_ret pm_M228 (r := some (.int z129)) (pm_q228_1 (Nat.le_of_ble_eq_true rfl)) (pm_ret_i _) (K z129 m90 w91 h92 T93 F96 W98)
                  · have B132 : sf_B 1 1 a3 := sf_eqL (Classical.not_not.mp c102) sf_k1
                    refine pm_R_lo pm_M228 (pc' := 93) rfl rfl rfl ?_
                    refine pm_R_br pm_M228 (pc' := 100) (st' := []) rfl rfl ?_
                    refine pm_R_lo pm_M228 (pc' := 101) rfl rfl rfl ?_
                    refine rf_R_get pm_M228 T93 (pc' := 104) (v := .ref 61) rfl rfl rfl rfl ?_
                    refine pm_R_op pm_M228 (pc' := 105) (st' := [.int 0, .ref 61]) rfl rfl rfl ?_
                    obtain ⟨f133, e134, b135⟩ := T93.2.2.2.1 61 (by decide) (by decide)
                    refine rf_R_ild pm_M228 T93 (pc' := 106) rfl e134 (by decide) rfl rfl (fun z136 ez137 => ?_)
                    have B138 : sf_B (-1) 9 z136 := ez137 ▸ b135 _
                    refine pm_R_br pm_M228 (pc' := 167) (pm_q228_1 (Nat.le_of_ble_eq_true rfl)) rfl ?_
                    exact pm_R_ret pm_M228 (r := some (.int z136)) (pm_q228_1 (Nat.le_of_ble_eq_true rfl)) (pm_ret_i _) (K z136 m90 w91 h92 T93 F96 W98)
                · have B139 : sf_B 0 0 a3 := sf_eqL (Classical.not_not.mp c101) sf_k0
                  refine pm_R_lo pm_M228 (pc' := 77) rfl rfl rfl ?_
                  refine rf_R_get pm_M228 T93 (pc' := 80) (v := .ref 64) rfl rfl rfl rfl ?_
                  refine pm_R_op pm_M228 (pc' := 81) (st' := [.int 0, .ref 64]) rfl rfl rfl ?_
                  obtain ⟨f140, e141⟩ := T93.2.2.2.1 64 (by decide) (by decide)
                  refine rf_R_ild pm_M228 T93 (pc' := 82) rfl e141 (by decide) rfl rfl (fun z143 ez144 => ?_)
                  refine pm_R_br pm_M228 (pc' := 167) rfl rfl ?_
                  exact pm_R_ret pm_M228 (r := some (.int z143)) (pm_q228_1 (Nat.le_of_ble_eq_true rfl)) (pm_ret_i _) (K z143 m90 w91 h92 T93 F96 W98)
              · have B145 : sf_B 1 1 (m90 24) := sf_eqL (Classical.not_not.mp c99) sf_k1
                refine pm_R_op pm_M228 (pc' := 65) (st' := [.int 1]) rfl rfl rfl ?_
                refine pm_R_br pm_M228 (pc' := 69) rfl rfl ?_
                refine pm_R_lo pm_M228 (pc' := 71) (ls' := [.ref 41, .int a0, .int a1, .long a2, pm_no, .int a3, .int 1]) (st' := []) rfl rfl rfl ?_
                refine pm_R_lo pm_M228 (pc' := 73) rfl rfl rfl ?_
                refine pm_R_ifc pm_M228 (t := 85) (pc' := 76) rfl rfl rfl (fun c146 => ?_) (fun c146 => ?_)
                · skip
                  refine pm_R_lo pm_M228 (pc' := 87) rfl rfl rfl ?_
                  refine pm_R_op pm_M228 (pc' := 88) (st' := [.int 1, .int a3]) rfl rfl rfl ?_
                  refine pm_R_icmp pm_M228 (t := 109) (pc' := 91) rfl rfl rfl (fun c147 => ?_) (fun c147 => ?_)
                  · skip
                    refine pm_R_lo pm_M228 (pc' := 111) (pm_q228_1 (Nat.le_of_ble_eq_true rfl)) rfl rfl ?_
                    refine pm_R_op pm_M228 (pc' := 112) (st' := [.int 2, .int a3]) (pm_q228_1 (Nat.le_of_ble_eq_true rfl)) rfl rfl ?_
                    refine pm_R_icmp pm_M228 (t := 135) (pc' := 115) (pm_q228_1 (Nat.le_of_ble_eq_true rfl)) rfl rfl (fun c148 => ?_) (fun c148 => ?_)
                    · skip
                      refine pm_R_lo pm_M228 (pc' := 137) (pm_q228_1 (Nat.le_of_ble_eq_true rfl)) rfl rfl ?_
                      refine pm_R_op pm_M228 (pc' := 139) (st' := [.int 10, .int a3]) (pm_q228_1 (Nat.le_of_ble_eq_true rfl)) rfl rfl ?_
                      refine pm_R_op pm_M228 (pc' := 141) (st' := [.int 9, .int 10, .int a3]) (pm_q228_1 (Nat.le_of_ble_eq_true rfl)) rfl rfl ?_
                      refine pm_R_lo pm_M228 (pc' := 142) (pm_q228_1 (Nat.le_of_ble_eq_true rfl)) rfl rfl ?_
                      refine rf_R_get pm_M228 T93 (pc' := 145) (v := .int (m90 24)) (pm_q228_1 (Nat.le_of_ble_eq_true rfl)) rfl rfl rfl ?_
                      refine sf_R_iadd pm_M228 (pc' := 146) (pm_q228_1 (Nat.le_of_ble_eq_true rfl)) rfl sf_k9 B145 (by decide) (by decide) (fun z149 e150 B151 => ?_)
                      refine pm_R_cs pm_M228 (pc' := 149) (ra := [.int z149, .int 10, .int a3]) (rest := []) (ls' := [.int a3, .int 10, .int z149]) (pm_q228_1 (Nat.le_of_ble_eq_true rfl)) rfl (Or.inl rfl) pm_M174 rfl rfl (Nat.le_of_ble_eq_true rfl) rfl rfl ?_
                      refine pm_R_lo pm_M174 (pc' := 1) rfl rfl rfl ?_
                      refine pm_R_lo pm_M174 (pc' := 2) rfl rfl rfl ?_
                      refine pm_R_icmp pm_M174 (t := 14) (pc' := 5) rfl rfl rfl (fun c152 => ?_) (fun c152 => ?_)
                      · have B153 : sf_B (-2147483648) 9 a3 := sf_ltL c152 (sf_any a3) sf_k10
                        refine pm_R_op pm_M174 (pc' := 15) (st' := [.int 0]) rfl rfl rfl ?_
                        refine pm_R_ret pm_M174 (r := some (.int 0)) rfl rfl ?_
                        show pm_R _ 228 149 [.ref 41, .int a0, .int a1, .long a2, pm_no, .int a3, .int 1] [.int 0] _ _
                        refine pm_R_br pm_M228 (pc' := 165) (st' := []) (pm_q228_1 (Nat.le_of_ble_eq_true rfl)) rfl ?_
                        refine pm_R_op pm_M228 (pc' := 167) (st' := [.int (-2)]) (pm_q228_1 (Nat.le_of_ble_eq_true rfl)) rfl rfl ?_
                        exact pm_R_ret pm_M228 (r := some (.int (-2))) (pm_q228_1 (Nat.le_of_ble_eq_true rfl)) rfl (K (-2) m90 w91 h92 T93 F96 W98)
                      · have B154 : sf_B 10 2147483647 a3 := sf_leR (Int32.not_lt.mp c152) sf_k10 (sf_any a3)
                        refine pm_R_lo pm_M174 (pc' := 6) rfl rfl rfl ?_
                        refine pm_R_lo pm_M174 (pc' := 7) rfl rfl rfl ?_
                        refine pm_R_icmp pm_M174 (t := 14) (pc' := 10) rfl rfl rfl (fun c155 => ?_) (fun c155 => ?_)
                        · have B156 : sf_B 11 2147483647 a3 := sf_ltR c155 B151 B154
                          refine pm_R_op pm_M174 (pc' := 15) (st' := [.int 0]) rfl rfl rfl ?_
                          refine pm_R_ret pm_M174 (r := some (.int 0)) rfl rfl ?_
                          show pm_R _ 228 149 [.ref 41, .int a0, .int a1, .long a2, pm_no, .int a3, .int 1] [.int 0] _ _
                          refine pm_R_br pm_M228 (pc' := 165) (st' := []) (pm_q228_1 (Nat.le_of_ble_eq_true rfl)) rfl ?_
                          refine pm_R_op pm_M228 (pc' := 167) (st' := [.int (-2)]) (pm_q228_1 (Nat.le_of_ble_eq_true rfl)) rfl rfl ?_
                          exact pm_R_ret pm_M228 (r := some (.int (-2))) (pm_q228_1 (Nat.le_of_ble_eq_true rfl)) rfl (K (-2) m90 w91 h92 T93 F96 W98)
                        · have B157 : sf_B 10 10 a3 := sf_leL (Int32.not_lt.mp c155) B154 B151
                          refine pm_R_op pm_M174 (pc' := 11) (st' := [.int 1]) rfl rfl rfl ?_
                          refine pm_R_br pm_M174 (pc' := 15) rfl rfl ?_
                          refine pm_R_ret pm_M174 (r := some (.int 1)) rfl rfl ?_
                          show pm_R _ 228 149 [.ref 41, .int a0, .int a1, .long a2, pm_no, .int a3, .int 1] [.int 1] _ _
                          refine pm_R_br pm_M228 (pc' := 152) (st' := []) (pm_q228_1 (Nat.le_of_ble_eq_true rfl)) rfl ?_
                          refine pm_R_lo pm_M228 (pc' := 153) (pm_q228_1 (Nat.le_of_ble_eq_true rfl)) rfl rfl ?_
                          refine rf_R_get pm_M228 T93 (pc' := 156) (v := .ref 65) (pm_q228_1 (Nat.le_of_ble_eq_true rfl)) rfl rfl rfl ?_
                          refine pm_R_lo pm_M228 (pc' := 158) (pm_q228_1 (Nat.le_of_ble_eq_true rfl)) rfl rfl ?_
                          refine pm_R_op pm_M228 (pc' := 160) (st' := [.int 10, .int a3, .ref 65]) (pm_q228_1 (Nat.le_of_ble_eq_true rfl)) rfl rfl ?_
                          refine sf_R_isub pm_M228 (pc' := 161) (pm_q228_1 (Nat.le_of_ble_eq_true rfl)) rfl B157 sf_k10 (by decide) (by decide) (fun z158 e159 B160 => ?_)
                          obtain ⟨f161, e162, b163⟩ := T93.2.2.2.1 65 (by decide) (by decide)
                          refine rf_R_ild pm_M228 T93 (pc' := 162) (pm_q228_1 (Nat.le_of_ble_eq_true rfl)) e162 (by decide) (sf_in B160 (by decide) (by decide)) rfl (fun z164 ez165 => ?_)
                          have B166 : sf_B 0 15 z164 := ez165 ▸ b163 _
                          refine pm_R_br pm_M228 (pc' := 167) (pm_q228_1 (Nat.le_of_ble_eq_true rfl)) rfl ?_
                          exact pm_R_ret pm_M228 (r := some (.int z164)) (pm_q228_1 (Nat.le_of_ble_eq_true rfl)) (pm_ret_i _) (K z164 m90 w91 h92 T93 F96 W98)
                    · have B167 : sf_B 2 2 a3 := sf_eqL (Classical.not_not.mp c148) sf_k2
                      refine pm_R_lo pm_M228 (pc' := 117) (pm_q228_1 (Nat.le_of_ble_eq_true rfl)) rfl rfl ?_
                      refine pm_R_br pm_M228 (pc' := 120) (st' := []) (pm_q228_1 (Nat.le_of_ble_eq_true rfl)) rfl ?_
                      refine pm_R_op pm_M228 (pc' := 121) (st' := [.int (-1)]) (pm_q228_1 (Nat.le_of_ble_eq_true rfl)) rfl rfl ?_
                      refine pm_R_br pm_M228 (pc' := 167) (pm_q228_1 (Nat.le_of_ble_eq_true rfl)) rfl ?_
                      exact pm_R_ret pm_M228 (r := some (.int (-1))) (pm_q228_1 (Nat.le_of_ble_eq_true rfl)) rfl (K (-1) m90 w91 h92 T93 F96 W98)
                  · have B168 : sf_B 1 1 a3 := sf_eqL (Classical.not_not.mp c147) sf_k1
                    refine pm_R_lo pm_M228 (pc' := 93) rfl rfl rfl ?_
                    refine pm_R_br pm_M228 (pc' := 96) (st' := []) rfl rfl ?_
                    refine pm_R_op pm_M228 (pc' := 97) (st' := [.int (-1)]) rfl rfl rfl ?_
                    refine pm_R_br pm_M228 (pc' := 167) rfl rfl ?_
                    exact pm_R_ret pm_M228 (r := some (.int (-1))) (pm_q228_1 (Nat.le_of_ble_eq_true rfl)) rfl (K (-1) m90 w91 h92 T93 F96 W98)
                · have B169 : sf_B 0 0 a3 := sf_eqL (Classical.not_not.mp c146) sf_k0
                  refine pm_R_lo pm_M228 (pc' := 77) rfl rfl rfl ?_
                  refine rf_R_get pm_M228 T93 (pc' := 80) (v := .ref 64) rfl rfl rfl rfl ?_
                  refine pm_R_op pm_M228 (pc' := 81) (st' := [.int 0, .ref 64]) rfl rfl rfl ?_
                  obtain ⟨f170, e171⟩ := T93.2.2.2.1 64 (by decide) (by decide)
                  refine rf_R_ild pm_M228 T93 (pc' := 82) rfl e171 (by decide) rfl rfl (fun z173 ez174 => ?_)
                  refine pm_R_br pm_M228 (pc' := 167) rfl rfl ?_
                  exact pm_R_ret pm_M228 (r := some (.int z173)) (pm_q228_1 (Nat.le_of_ble_eq_true rfl)) (pm_ret_i _) (K z173 m90 w91 h92 T93 F96 W98)
            · have B175 : sf_B 0 2147483647 z82 := sf_leR (Int32.not_lt.mp c84) sf_k0 (sf_any z82)
              have k176 := lf_ge e83 B175 (by decide)
              refine pm_R_op pm_M228 (pc' := 50) (st' := [.int (-2)]) rfl rfl rfl ?_
              exact pm_R_ret pm_M228 (r := some (.int (-2))) rfl rfl (K (-2) m52 w53 h54 T55 F58 W60)
