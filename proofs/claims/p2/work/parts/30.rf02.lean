set_option maxRecDepth 100000 in
set_option maxHeartbeats 4000000 in
/-- SilentTableModel.saidBy -/
theorem rf_c270 {d : Nat} {m : Nat → Int32} {w : Int64} {h : pm_H} {Q : Option Value → pm_H → Prop} {a0 : Int32} (T : rf_T m w h)  (K : ∀ (r : Int32), Q (some (.int r)) h) : pm_R (d + 2) 270 0 [.ref 41, .int a0, pm_no, pm_no] [] h Q := by
  refine pm_R_op pm_M270 (pc' := 1) (st' := [.int 0]) rfl rfl rfl ?_
  refine pm_R_lo pm_M270 (pc' := 2) (ls' := [.ref 41, .int a0, .int 0, pm_no]) (st' := []) rfl rfl rfl ?_
  refine pm_R_op pm_M270 (pc' := 3) (st' := [.int 0]) rfl rfl rfl ?_
  refine pm_R_lo pm_M270 (pc' := 4) (ls' := [.ref 41, .int a0, .int 0, .int 0]) (st' := []) rfl rfl rfl ?_
  have L_359 : ∀ (N : Nat) (x2_359 : Int32) (x3_359 : Int32), sf_B (-2147483648) 2147483647 x2_359 → sf_B 0 50 x3_359 → (50 - x3_359.toInt).toNat = N → pm_R (d + 2) 270 4 [.ref 41, .int a0, .int x2_359, .int x3_359] [] h Q := by
    intro N
    induction N using Nat.strongRecOn with
    | ind N ih_359 =>
      intro x2_359 x3_359 Bx2_359 Bx3_359 hN_359
      refine pm_R_lo pm_M270 (pc' := 5) rfl rfl rfl ?_
      refine pm_R_lo pm_M270 (pc' := 6) rfl rfl rfl ?_
      have B360 : sf_B 0 50 (m 43) := T.2.2.1 43
      refine rf_R_get pm_M270 T (pc' := 9) (v := .int (m 43)) rfl rfl rfl rfl ?_
      refine pm_R_icmp pm_M270 (t := 44) (pc' := 12) rfl rfl rfl (fun c361 => ?_) (fun c361 => ?_)
      · skip
        refine pm_R_lo pm_M270 (pc' := 45) rfl rfl rfl ?_
        exact pm_R_ret pm_M270 (r := some (.int x2_359)) rfl (pm_ret_i _) (K x2_359)
      · have B362 : sf_B 0 49 x3_359 := sf_ltL (Int32.not_le.mp c361) Bx3_359 B360
        have B363 : sf_B 1 50 (m 43) := sf_ltR (Int32.not_le.mp c361) Bx3_359 B360
        refine pm_R_lo pm_M270 (pc' := 13) rfl rfl rfl ?_
        refine pm_R_lo pm_M270 (pc' := 14) rfl rfl rfl ?_
        refine pm_R_lo pm_M270 (pc' := 15) rfl rfl rfl ?_
        refine pm_R_cv pm_M270 (pc' := 18) (a := 41) (ra := [.int x3_359]) (rest := [.int x2_359]) (ls' := [.ref 41, .int x3_359]) rfl rfl (Or.inl rfl) pm_M256 T.2.1 rfl (by decide) (Nat.lt_of_lt_of_le (by decide) T.1) rfl rfl (Nat.le_of_ble_eq_true rfl) rfl rfl ?_
        refine pm_R_lo pm_M256 (pc' := 1) rfl rfl rfl ?_
        refine pm_R_lo pm_M256 (pc' := 2) rfl rfl rfl ?_
        refine pm_R_op pm_M256 (pc' := 3) (st' := [.int 0, .int x3_359, .ref 41]) rfl rfl rfl ?_
        refine pm_R_cv pm_M256 (pc' := 6) (a := 41) (ra := [.int 0, .int x3_359]) (rest := []) (ls' := [.ref 41, .int x3_359, .int 0]) rfl rfl (Or.inl rfl) pm_M255 T.2.1 rfl (by decide) (Nat.lt_of_lt_of_le (by decide) T.1) rfl rfl (Nat.le_of_ble_eq_true rfl) rfl rfl ?_
        refine pm_R_lo pm_M255 (pc' := 1) rfl rfl rfl ?_
        refine rf_R_get pm_M255 T (pc' := 4) (v := .ref 49) rfl rfl rfl rfl ?_
        refine pm_R_op pm_M255 (pc' := 7) (st' := [.int 152, .ref 49]) rfl rfl rfl ?_
        refine pm_R_lo pm_M255 (pc' := 8) rfl rfl rfl ?_
        have B364 : sf_B 0 1 (m 44) := T.2.2.1 44
        refine rf_R_get pm_M255 T (pc' := 11) (v := .int (m 44)) rfl rfl rfl rfl ?_
        refine sf_R_imul pm_M255 (pc' := 12) rfl rfl sf_k152 B364 (by decide) (by decide) (by decide) (fun z365 e366 B367 => ?_)
        refine pm_R_op pm_M255 (pc' := 13) (st' := [.int 2, .int z365, .ref 49]) rfl rfl rfl ?_
        refine sf_R_iadd pm_M255 (pc' := 14) rfl rfl B367 sf_k2 (by decide) (by decide) (fun z368 e369 B370 => ?_)
        refine pm_R_op pm_M255 (pc' := 15) (st' := [.int 3, .int z368, .ref 49]) rfl rfl rfl ?_
        refine pm_R_lo pm_M255 (pc' := 16) rfl rfl rfl ?_
        refine sf_R_imul pm_M255 (pc' := 17) rfl rfl sf_k3 B362 (by decide) (by decide) (by decide) (fun z371 e372 B373 => ?_)
        refine sf_R_iadd pm_M255 (pc' := 18) rfl rfl B370 B373 (by decide) (by decide) (fun z374 e375 B376 => ?_)
        refine pm_R_lo pm_M255 (pc' := 19) rfl rfl rfl ?_
        refine sf_R_iadd pm_M255 (pc' := 20) rfl rfl B376 sf_k0 (by decide) (by decide) (fun z377 e378 B379 => ?_)
        obtain ⟨f380, e381, b382⟩ := T.2.2.2.1 49 (by decide) (by decide)
        refine rf_R_ild pm_M255 T (pc' := 21) rfl e381 (by decide) (sf_in B379 (by decide) (by decide)) rfl (fun z383 ez384 => ?_)
        have e385 : (z377).toInt = 152 * ((m 44)).toInt + 3 * (x3_359).toInt + 2 := by
          have q0 := e366
          have q1 := e369
          have q2 := e372
          have q3 := e375
          have q4 := e378
          simp only [(show (0 : Int32).toInt = 0 from rfl), (show (2 : Int32).toInt = 2 from rfl), (show (3 : Int32).toInt = 3 from rfl), (show (152 : Int32).toInt = 152 from rfl)] at q0 q1 q2 q3 q4
          omega
        have B386 : sf_B 0 2 z383 := ez384 ▸ rf_p49s b382 e385 B364 B362 (by decide) (by decide) (by decide)
        refine pm_R_ret pm_M255 (r := some (.int z383)) rfl (pm_ret_i _) ?_
        show pm_R _ 256 6 [.ref 41, .int x3_359] [.int z383] _ _
        refine pm_R_op pm_M256 (pc' := 7) (st' := [.int 2, .int z383]) rfl rfl rfl ?_
        refine pm_R_icmp pm_M256 (t := 14) (pc' := 10) rfl rfl rfl (fun c387 => ?_) (fun c387 => ?_)
        · have B388 : sf_B 0 1 z383 := sf_neH0 c387 sf_k2 B386
          refine pm_R_op pm_M256 (pc' := 15) (st' := [.int 0]) rfl rfl rfl ?_
          refine pm_R_ret pm_M256 (r := some (.int 0)) rfl rfl ?_
          show pm_R _ 270 18 [.ref 41, .int a0, .int x2_359, .int x3_359] [.int 0, .int x2_359] _ _
          refine pm_R_br pm_M270 (pc' := 35) (st' := [.int x2_359]) rfl rfl ?_
          refine pm_R_op pm_M270 (pc' := 36) (st' := [.int 0, .int x2_359]) rfl rfl rfl ?_
          refine sf_R_iadd pm_M270 (pc' := 37) rfl rfl Bx2_359 sf_k0 (by decide) (by decide) (fun z389 e390 B391 => ?_)
          refine pm_R_lo pm_M270 (pc' := 38) (ls' := [.ref 41, .int a0, .int z389, .int x3_359]) (st' := []) rfl rfl rfl ?_
          refine sf_R_iinc pm_M270 (pc' := 41) (ls' := fun z => [.ref 41, .int a0, .int z389, .int z]) rfl B362 rfl (by decide) (by decide) (by decide) (fun _ => rfl) rfl (fun z392 e393 B394 => ?_)
          show pm_R _ 270 41 [.ref 41, .int a0, .int z389, .int z392] [] _ _
          refine pm_R_br pm_M270 (pc' := 4) rfl rfl ?_
          exact ih_359 _ (sf_up hN_359 e393 B362 (by decide) (by decide)) z389 z392 B391 (sf_weak B394 (by decide) (by decide)) rfl
        · have B395 : sf_B 2 2 z383 := sf_eqL (Classical.not_not.mp c387) sf_k2
          refine pm_R_op pm_M256 (pc' := 11) (st' := [.int 1]) rfl rfl rfl ?_
          refine pm_R_br pm_M256 (pc' := 15) rfl rfl ?_
          refine pm_R_ret pm_M256 (r := some (.int 1)) rfl rfl ?_
          show pm_R _ 270 18 [.ref 41, .int a0, .int x2_359, .int x3_359] [.int 1, .int x2_359] _ _
          refine pm_R_br pm_M270 (pc' := 21) (st' := [.int x2_359]) rfl rfl ?_
          refine pm_R_lo pm_M270 (pc' := 22) rfl rfl rfl ?_
          refine pm_R_lo pm_M270 (pc' := 23) rfl rfl rfl ?_
          refine pm_R_op pm_M270 (pc' := 24) (st' := [.int 1, .int x3_359, .ref 41, .int x2_359]) rfl rfl rfl ?_
          refine pm_R_cv pm_M270 (pc' := 27) (a := 41) (ra := [.int 1, .int x3_359]) (rest := [.int x2_359]) (ls' := [.ref 41, .int x3_359, .int 1]) rfl rfl (Or.inl rfl) pm_M255 T.2.1 rfl (by decide) (Nat.lt_of_lt_of_le (by decide) T.1) rfl rfl (Nat.le_of_ble_eq_true rfl) rfl rfl ?_
          refine pm_R_lo pm_M255 (pc' := 1) rfl rfl rfl ?_
          refine rf_R_get pm_M255 T (pc' := 4) (v := .ref 49) rfl rfl rfl rfl ?_
          refine pm_R_op pm_M255 (pc' := 7) (st' := [.int 152, .ref 49]) rfl rfl rfl ?_
          refine pm_R_lo pm_M255 (pc' := 8) rfl rfl rfl ?_
          refine rf_R_get pm_M255 T (pc' := 11) (v := .int (m 44)) rfl rfl rfl rfl ?_
          refine sf_R_imul pm_M255 (pc' := 12) rfl rfl sf_k152 B364 (by decide) (by decide) (by decide) (fun z396 e397 B398 => ?_)
          refine pm_R_op pm_M255 (pc' := 13) (st' := [.int 2, .int z396, .ref 49]) rfl rfl rfl ?_
          refine sf_R_iadd pm_M255 (pc' := 14) rfl rfl B398 sf_k2 (by decide) (by decide) (fun z399 e400 B401 => ?_)
          refine pm_R_op pm_M255 (pc' := 15) (st' := [.int 3, .int z399, .ref 49]) rfl rfl rfl ?_
          refine pm_R_lo pm_M255 (pc' := 16) rfl rfl rfl ?_
          refine sf_R_imul pm_M255 (pc' := 17) rfl rfl sf_k3 B362 (by decide) (by decide) (by decide) (fun z402 e403 B404 => ?_)
          refine sf_R_iadd pm_M255 (pc' := 18) rfl rfl B401 B404 (by decide) (by decide) (fun z405 e406 B407 => ?_)
          refine pm_R_lo pm_M255 (pc' := 19) rfl rfl rfl ?_
          refine sf_R_iadd pm_M255 (pc' := 20) rfl rfl B407 sf_k1 (by decide) (by decide) (fun z408 e409 B410 => ?_)
          refine rf_R_ild pm_M255 T (pc' := 21) rfl e381 (by decide) (sf_in B410 (by decide) (by decide)) rfl (fun z411 ez412 => ?_)
          have e413 : (z408).toInt = 152 * ((m 44)).toInt + 3 * (x3_359).toInt + 3 := by
            have q0 := e397
            have q1 := e400
            have q2 := e403
            have q3 := e406
            have q4 := e409
            simp only [(show (1 : Int32).toInt = 1 from rfl), (show (2 : Int32).toInt = 2 from rfl), (show (3 : Int32).toInt = 3 from rfl), (show (152 : Int32).toInt = 152 from rfl)] at q0 q1 q2 q3 q4
            omega
          have B414 : sf_B 0 5 z411 := ez412 ▸ rf_p49w b382 e413 B364 B362 (by decide) (by decide) (by decide)
          refine pm_R_ret pm_M255 (r := some (.int z411)) rfl (pm_ret_i _) ?_
          show pm_R _ 270 27 [.ref 41, .int a0, .int x2_359, .int x3_359] [.int z411, .int x2_359] _ _
          refine pm_R_lo pm_M270 (pc' := 28) rfl rfl rfl ?_
          refine pm_R_icmp pm_M270 (t := 35) (pc' := 31) rfl rfl rfl (fun c415 => ?_) (fun c415 => ?_)
          · skip
            refine pm_R_op pm_M270 (pc' := 36) (st' := [.int 0, .int x2_359]) rfl rfl rfl ?_
            refine sf_R_iadd pm_M270 (pc' := 37) rfl rfl Bx2_359 sf_k0 (by decide) (by decide) (fun z416 e417 B418 => ?_)
            refine pm_R_lo pm_M270 (pc' := 38) (ls' := [.ref 41, .int a0, .int z416, .int x3_359]) (st' := []) rfl rfl rfl ?_
            refine sf_R_iinc pm_M270 (pc' := 41) (ls' := fun z => [.ref 41, .int a0, .int z416, .int z]) rfl B362 rfl (by decide) (by decide) (by decide) (fun _ => rfl) rfl (fun z419 e420 B421 => ?_)
            show pm_R _ 270 41 [.ref 41, .int a0, .int z416, .int z419] [] _ _
            refine pm_R_br pm_M270 (pc' := 4) rfl rfl ?_
            exact ih_359 _ (sf_up hN_359 e420 B362 (by decide) (by decide)) z416 z419 B418 (sf_weak B421 (by decide) (by decide)) rfl
          · have B422 : sf_B 0 5 a0 := sf_eqR (Classical.not_not.mp c415) B414
            refine pm_R_op pm_M270 (pc' := 32) (st' := [.int 1, .int x2_359]) rfl rfl rfl ?_
            refine pm_R_br pm_M270 (pc' := 36) rfl rfl ?_
            refine sf_R_iany pm_M270 (pc' := 37) (st := []) rfl rfl rfl (fun z426 => ?_)
            refine pm_R_lo pm_M270 (pc' := 38) (ls' := [.ref 41, .int a0, .int z426, .int x3_359]) (st' := []) rfl rfl rfl ?_
            refine sf_R_iinc pm_M270 (pc' := 41) (ls' := fun z => [.ref 41, .int a0, .int z426, .int z]) rfl B362 rfl (by decide) (by decide) (by decide) (fun _ => rfl) rfl (fun z427 e428 B429 => ?_)
            show pm_R _ 270 41 [.ref 41, .int a0, .int z426, .int z427] [] _ _
            refine pm_R_br pm_M270 (pc' := 4) rfl rfl ?_
            exact ih_359 _ (sf_up hN_359 e428 B362 (by decide) (by decide)) z426 z427 (sf_any z426) (sf_weak B429 (by decide) (by decide)) rfl
  exact L_359 _ 0 0 (sf_weak sf_k0 (by decide) (by decide)) (sf_weak sf_k0 (by decide) (by decide)) rfl

set_option maxRecDepth 100000 in
set_option maxHeartbeats 4000000 in
/-- SilentTableModel.before -/
theorem rf_c278 {d : Nat} {m : Nat → Int32} {w : Int64} {h : pm_H} {Q : Option Value → pm_H → Prop} {a0 : Int32} {a1 : Int32} (T : rf_T m w h) (Ba0 : sf_B 0 50 a0) (K : ∀ (r : Int32), Q (some (.int r)) h) : pm_R (d + 2) 278 0 [.ref 41, .int a0, .int a1, pm_no, pm_no] [] h Q := by
  refine pm_R_op pm_M278 (pc' := 1) (st' := [.int 0]) rfl rfl rfl ?_
  refine pm_R_lo pm_M278 (pc' := 2) (ls' := [.ref 41, .int a0, .int a1, .int 0, pm_no]) (st' := []) rfl rfl rfl ?_
  refine pm_R_op pm_M278 (pc' := 3) (st' := [.int 0]) rfl rfl rfl ?_
  refine pm_R_lo pm_M278 (pc' := 5) (ls' := [.ref 41, .int a0, .int a1, .int 0, .int 0]) (st' := []) rfl rfl rfl ?_
  have L_354 : ∀ (N : Nat) (x3_354 : Int32) (x4_354 : Int32), sf_B (-2147483648) 2147483647 x3_354 → sf_B 0 50 x4_354 → (50 - x4_354.toInt).toNat = N → pm_R (d + 2) 278 5 [.ref 41, .int a0, .int a1, .int x3_354, .int x4_354] [] h Q := by
    intro N
    induction N using Nat.strongRecOn with
    | ind N ih_354 =>
      intro x3_354 x4_354 Bx3_354 Bx4_354 hN_354
      refine pm_R_lo pm_M278 (pc' := 7) rfl rfl rfl ?_
      refine pm_R_lo pm_M278 (pc' := 8) rfl rfl rfl ?_
      refine pm_R_icmp pm_M278 (t := 45) (pc' := 11) rfl rfl rfl (fun c355 => ?_) (fun c355 => ?_)
      · skip
        refine pm_R_lo pm_M278 (pc' := 46) rfl rfl rfl ?_
        exact pm_R_ret pm_M278 (r := some (.int x3_354)) rfl (pm_ret_i _) (K x3_354)
      · have B356 : sf_B 0 49 x4_354 := sf_ltL (Int32.not_le.mp c355) Bx4_354 Ba0
        have B357 : sf_B 1 50 a0 := sf_ltR (Int32.not_le.mp c355) Bx4_354 Ba0
        refine pm_R_lo pm_M278 (pc' := 12) rfl rfl rfl ?_
        refine pm_R_lo pm_M278 (pc' := 13) rfl rfl rfl ?_
        refine pm_R_lo pm_M278 (pc' := 15) rfl rfl rfl ?_
        refine pm_R_cv pm_M278 (pc' := 18) (a := 41) (ra := [.int x4_354]) (rest := [.int x3_354]) (ls' := [.ref 41, .int x4_354]) rfl rfl (Or.inl rfl) pm_M256 T.2.1 rfl (by decide) (Nat.lt_of_lt_of_le (by decide) T.1) rfl rfl (Nat.le_of_ble_eq_true rfl) rfl rfl ?_
        refine pm_R_lo pm_M256 (pc' := 1) rfl rfl rfl ?_
        refine pm_R_lo pm_M256 (pc' := 2) rfl rfl rfl ?_
        refine pm_R_op pm_M256 (pc' := 3) (st' := [.int 0, .int x4_354, .ref 41]) rfl rfl rfl ?_
        refine pm_R_cv pm_M256 (pc' := 6) (a := 41) (ra := [.int 0, .int x4_354]) (rest := []) (ls' := [.ref 41, .int x4_354, .int 0]) rfl rfl (Or.inl rfl) pm_M255 T.2.1 rfl (by decide) (Nat.lt_of_lt_of_le (by decide) T.1) rfl rfl (Nat.le_of_ble_eq_true rfl) rfl rfl ?_
        refine pm_R_lo pm_M255 (pc' := 1) rfl rfl rfl ?_
        refine rf_R_get pm_M255 T (pc' := 4) (v := .ref 49) rfl rfl rfl rfl ?_
        refine pm_R_op pm_M255 (pc' := 7) (st' := [.int 152, .ref 49]) rfl rfl rfl ?_
        refine pm_R_lo pm_M255 (pc' := 8) rfl rfl rfl ?_
        have B358 : sf_B 0 1 (m 44) := T.2.2.1 44
        refine rf_R_get pm_M255 T (pc' := 11) (v := .int (m 44)) rfl rfl rfl rfl ?_
        refine sf_R_imul pm_M255 (pc' := 12) rfl rfl sf_k152 B358 (by decide) (by decide) (by decide) (fun z359 e360 B361 => ?_)
        refine pm_R_op pm_M255 (pc' := 13) (st' := [.int 2, .int z359, .ref 49]) rfl rfl rfl ?_
        refine sf_R_iadd pm_M255 (pc' := 14) rfl rfl B361 sf_k2 (by decide) (by decide) (fun z362 e363 B364 => ?_)
        refine pm_R_op pm_M255 (pc' := 15) (st' := [.int 3, .int z362, .ref 49]) rfl rfl rfl ?_
        refine pm_R_lo pm_M255 (pc' := 16) rfl rfl rfl ?_
        refine sf_R_imul pm_M255 (pc' := 17) rfl rfl sf_k3 B356 (by decide) (by decide) (by decide) (fun z365 e366 B367 => ?_)
        refine sf_R_iadd pm_M255 (pc' := 18) rfl rfl B364 B367 (by decide) (by decide) (fun z368 e369 B370 => ?_)
        refine pm_R_lo pm_M255 (pc' := 19) rfl rfl rfl ?_
        refine sf_R_iadd pm_M255 (pc' := 20) rfl rfl B370 sf_k0 (by decide) (by decide) (fun z371 e372 B373 => ?_)
        obtain ⟨f374, e375, b376⟩ := T.2.2.2.1 49 (by decide) (by decide)
        refine rf_R_ild pm_M255 T (pc' := 21) rfl e375 (by decide) (sf_in B373 (by decide) (by decide)) rfl (fun z377 ez378 => ?_)
        have e379 : (z371).toInt = 152 * ((m 44)).toInt + 3 * (x4_354).toInt + 2 := by
          have q0 := e360
          have q1 := e363
          have q2 := e366
          have q3 := e369
          have q4 := e372
          simp only [(show (0 : Int32).toInt = 0 from rfl), (show (2 : Int32).toInt = 2 from rfl), (show (3 : Int32).toInt = 3 from rfl), (show (152 : Int32).toInt = 152 from rfl)] at q0 q1 q2 q3 q4
          omega
        have B380 : sf_B 0 2 z377 := ez378 ▸ rf_p49s b376 e379 B358 B356 (by decide) (by decide) (by decide)
        refine pm_R_ret pm_M255 (r := some (.int z377)) rfl (pm_ret_i _) ?_
        show pm_R _ 256 6 [.ref 41, .int x4_354] [.int z377] _ _
        refine pm_R_op pm_M256 (pc' := 7) (st' := [.int 2, .int z377]) rfl rfl rfl ?_
        refine pm_R_icmp pm_M256 (t := 14) (pc' := 10) rfl rfl rfl (fun c381 => ?_) (fun c381 => ?_)
        · have B382 : sf_B 0 1 z377 := sf_neH0 c381 sf_k2 B380
          refine pm_R_op pm_M256 (pc' := 15) (st' := [.int 0]) rfl rfl rfl ?_
          refine pm_R_ret pm_M256 (r := some (.int 0)) rfl rfl ?_
          show pm_R _ 278 18 [.ref 41, .int a0, .int a1, .int x3_354, .int x4_354] [.int 0, .int x3_354] _ _
          refine pm_R_br pm_M278 (pc' := 36) (st' := [.int x3_354]) rfl rfl ?_
          refine pm_R_op pm_M278 (pc' := 37) (st' := [.int 0, .int x3_354]) rfl rfl rfl ?_
          refine sf_R_iadd pm_M278 (pc' := 38) rfl rfl Bx3_354 sf_k0 (by decide) (by decide) (fun z383 e384 B385 => ?_)
          refine pm_R_lo pm_M278 (pc' := 39) (ls' := [.ref 41, .int a0, .int a1, .int z383, .int x4_354]) (st' := []) rfl rfl rfl ?_
          refine sf_R_iinc pm_M278 (pc' := 42) (ls' := fun z => [.ref 41, .int a0, .int a1, .int z383, .int z]) rfl B356 rfl (by decide) (by decide) (by decide) (fun _ => rfl) rfl (fun z386 e387 B388 => ?_)
          show pm_R _ 278 42 [.ref 41, .int a0, .int a1, .int z383, .int z386] [] _ _
          refine pm_R_br pm_M278 (pc' := 5) rfl rfl ?_
          exact ih_354 _ (sf_up hN_354 e387 B356 (by decide) (by decide)) z383 z386 B385 (sf_weak B388 (by decide) (by decide)) rfl
        · have B389 : sf_B 2 2 z377 := sf_eqL (Classical.not_not.mp c381) sf_k2
          refine pm_R_op pm_M256 (pc' := 11) (st' := [.int 1]) rfl rfl rfl ?_
          refine pm_R_br pm_M256 (pc' := 15) rfl rfl ?_
          refine pm_R_ret pm_M256 (r := some (.int 1)) rfl rfl ?_
          show pm_R _ 278 18 [.ref 41, .int a0, .int a1, .int x3_354, .int x4_354] [.int 1, .int x3_354] _ _
          refine pm_R_br pm_M278 (pc' := 21) (st' := [.int x3_354]) rfl rfl ?_
          refine pm_R_lo pm_M278 (pc' := 22) rfl rfl rfl ?_
          refine pm_R_lo pm_M278 (pc' := 24) rfl rfl rfl ?_
          refine pm_R_op pm_M278 (pc' := 25) (st' := [.int 2, .int x4_354, .ref 41, .int x3_354]) rfl rfl rfl ?_
          refine pm_R_cv pm_M278 (pc' := 28) (a := 41) (ra := [.int 2, .int x4_354]) (rest := [.int x3_354]) (ls' := [.ref 41, .int x4_354, .int 2]) rfl rfl (Or.inl rfl) pm_M255 T.2.1 rfl (by decide) (Nat.lt_of_lt_of_le (by decide) T.1) rfl rfl (Nat.le_of_ble_eq_true rfl) rfl rfl ?_
          refine pm_R_lo pm_M255 (pc' := 1) rfl rfl rfl ?_
          refine rf_R_get pm_M255 T (pc' := 4) (v := .ref 49) rfl rfl rfl rfl ?_
          refine pm_R_op pm_M255 (pc' := 7) (st' := [.int 152, .ref 49]) rfl rfl rfl ?_
          refine pm_R_lo pm_M255 (pc' := 8) rfl rfl rfl ?_
          refine rf_R_get pm_M255 T (pc' := 11) (v := .int (m 44)) rfl rfl rfl rfl ?_
          refine sf_R_imul pm_M255 (pc' := 12) rfl rfl sf_k152 B358 (by decide) (by decide) (by decide) (fun z390 e391 B392 => ?_)
          refine pm_R_op pm_M255 (pc' := 13) (st' := [.int 2, .int z390, .ref 49]) rfl rfl rfl ?_
          refine sf_R_iadd pm_M255 (pc' := 14) rfl rfl B392 sf_k2 (by decide) (by decide) (fun z393 e394 B395 => ?_)
          refine pm_R_op pm_M255 (pc' := 15) (st' := [.int 3, .int z393, .ref 49]) rfl rfl rfl ?_
          refine pm_R_lo pm_M255 (pc' := 16) rfl rfl rfl ?_
          refine sf_R_imul pm_M255 (pc' := 17) rfl rfl sf_k3 B356 (by decide) (by decide) (by decide) (fun z396 e397 B398 => ?_)
          refine sf_R_iadd pm_M255 (pc' := 18) rfl rfl B395 B398 (by decide) (by decide) (fun z399 e400 B401 => ?_)
          refine pm_R_lo pm_M255 (pc' := 19) rfl rfl rfl ?_
          refine sf_R_iadd pm_M255 (pc' := 20) rfl rfl B401 sf_k2 (by decide) (by decide) (fun z402 e403 B404 => ?_)
          refine rf_R_ild pm_M255 T (pc' := 21) rfl e375 (by decide) (sf_in B404 (by decide) (by decide)) rfl (fun z405 ez406 => ?_)
          have e407 : (z402).toInt = 152 * ((m 44)).toInt + 3 * (x4_354).toInt + 4 := by
            have q0 := e391
            have q1 := e394
            have q2 := e397
            have q3 := e400
            have q4 := e403
            simp only [(show (2 : Int32).toInt = 2 from rfl), (show (3 : Int32).toInt = 3 from rfl), (show (152 : Int32).toInt = 152 from rfl)] at q0 q1 q2 q3 q4
            omega
          have B408 : sf_B (-1) 9 z405 := ez406 ▸ rf_p49o b376 e407 B358 B356 (by decide) (by decide) (by decide)
          refine pm_R_ret pm_M255 (r := some (.int z405)) rfl (pm_ret_i _) ?_
          show pm_R _ 278 28 [.ref 41, .int a0, .int a1, .int x3_354, .int x4_354] [.int z405, .int x3_354] _ _
          refine pm_R_lo pm_M278 (pc' := 29) rfl rfl rfl ?_
          refine pm_R_icmp pm_M278 (t := 36) (pc' := 32) rfl rfl rfl (fun c409 => ?_) (fun c409 => ?_)
          · skip
            refine pm_R_op pm_M278 (pc' := 37) (st' := [.int 0, .int x3_354]) rfl rfl rfl ?_
            refine sf_R_iadd pm_M278 (pc' := 38) rfl rfl Bx3_354 sf_k0 (by decide) (by decide) (fun z410 e411 B412 => ?_)
            refine pm_R_lo pm_M278 (pc' := 39) (ls' := [.ref 41, .int a0, .int a1, .int z410, .int x4_354]) (st' := []) rfl rfl rfl ?_
            refine sf_R_iinc pm_M278 (pc' := 42) (ls' := fun z => [.ref 41, .int a0, .int a1, .int z410, .int z]) rfl B356 rfl (by decide) (by decide) (by decide) (fun _ => rfl) rfl (fun z413 e414 B415 => ?_)
            show pm_R _ 278 42 [.ref 41, .int a0, .int a1, .int z410, .int z413] [] _ _
            refine pm_R_br pm_M278 (pc' := 5) rfl rfl ?_
            exact ih_354 _ (sf_up hN_354 e414 B356 (by decide) (by decide)) z410 z413 B412 (sf_weak B415 (by decide) (by decide)) rfl
          · have B416 : sf_B (-1) 9 a1 := sf_eqR (Classical.not_not.mp c409) B408
            refine pm_R_op pm_M278 (pc' := 33) (st' := [.int 1, .int x3_354]) rfl rfl rfl ?_
            refine pm_R_br pm_M278 (pc' := 37) rfl rfl ?_
            refine sf_R_iany pm_M278 (pc' := 38) (st := []) rfl rfl rfl (fun z420 => ?_)
            refine pm_R_lo pm_M278 (pc' := 39) (ls' := [.ref 41, .int a0, .int a1, .int z420, .int x4_354]) (st' := []) rfl rfl rfl ?_
            refine sf_R_iinc pm_M278 (pc' := 42) (ls' := fun z => [.ref 41, .int a0, .int a1, .int z420, .int z]) rfl B356 rfl (by decide) (by decide) (by decide) (fun _ => rfl) rfl (fun z421 e422 B423 => ?_)
            show pm_R _ 278 42 [.ref 41, .int a0, .int a1, .int z420, .int z421] [] _ _
            refine pm_R_br pm_M278 (pc' := 5) rfl rfl ?_
            exact ih_354 _ (sf_up hN_354 e422 B356 (by decide) (by decide)) z420 z421 (sf_any z420) (sf_weak B423 (by decide) (by decide)) rfl
  exact L_354 _ 0 0 (sf_weak sf_k0 (by decide) (by decide)) (sf_weak sf_k0 (by decide) (by decide)) rfl

set_option maxRecDepth 100000 in
set_option maxHeartbeats 4000000 in
/-- SilentTableModel.ownLast -/
theorem rf_c279 {d : Nat} {m : Nat → Int32} {w : Int64} {h : pm_H} {Q : Option Value → pm_H → Prop} {a0 : Int32} (T : rf_T m w h) (Ba0 : sf_B 0 49 a0) (K : ∀ (r : Int32), sf_B (-1) 9 r → Q (some (.int r)) h) : pm_R (d + 2) 279 0 [.ref 41, .int a0, pm_no] [] h Q := by
  refine pm_R_lo pm_M279 (pc' := 1) rfl rfl rfl ?_
  refine pm_R_op pm_M279 (pc' := 2) (st' := [.int 1, .int a0]) rfl rfl rfl ?_
  refine sf_R_isub pm_M279 (pc' := 3) rfl rfl Ba0 sf_k1 (by decide) (by decide) (fun z1 e2 B3 => ?_)
  refine pm_R_lo pm_M279 (pc' := 4) (ls' := [.ref 41, .int a0, .int z1]) (st' := []) rfl rfl rfl ?_
  have L_192 : ∀ (N : Nat) (x2_192 : Int32), sf_B (-1) 48 x2_192 → (x2_192.toInt - (-1)).toNat = N → pm_R (d + 2) 279 4 [.ref 41, .int a0, .int x2_192] [] h Q := by
    intro N
    induction N using Nat.strongRecOn with
    | ind N ih_192 =>
      intro x2_192 Bx2_192 hN_192
      refine pm_R_lo pm_M279 (pc' := 5) rfl rfl rfl ?_
      refine pm_R_ifc pm_M279 (t := 44) (pc' := 8) rfl rfl rfl (fun c193 => ?_) (fun c193 => ?_)
      · have B194 : sf_B (-1) (-1) x2_192 := sf_ltL c193 Bx2_192 sf_k0
        refine pm_R_op pm_M279 (pc' := 45) (st' := [.int (-1)]) rfl rfl rfl ?_
        exact pm_R_ret pm_M279 (r := some (.int (-1))) rfl rfl (K (-1) (sf_weak sf_kn1 (by decide) (by decide)))
      · have B195 : sf_B 0 48 x2_192 := sf_leR (Int32.not_lt.mp c193) sf_k0 Bx2_192
        refine pm_R_lo pm_M279 (pc' := 9) rfl rfl rfl ?_
        refine pm_R_lo pm_M279 (pc' := 10) rfl rfl rfl ?_
        refine pm_R_cv pm_M279 (pc' := 13) (a := 41) (ra := [.int x2_192]) (rest := []) (ls' := [.ref 41, .int x2_192]) rfl rfl (Or.inl rfl) pm_M256 T.2.1 rfl (by decide) (Nat.lt_of_lt_of_le (by decide) T.1) rfl rfl (Nat.le_of_ble_eq_true rfl) rfl rfl ?_
        refine pm_R_lo pm_M256 (pc' := 1) rfl rfl rfl ?_
        refine pm_R_lo pm_M256 (pc' := 2) rfl rfl rfl ?_
        refine pm_R_op pm_M256 (pc' := 3) (st' := [.int 0, .int x2_192, .ref 41]) rfl rfl rfl ?_
        refine pm_R_cv pm_M256 (pc' := 6) (a := 41) (ra := [.int 0, .int x2_192]) (rest := []) (ls' := [.ref 41, .int x2_192, .int 0]) rfl rfl (Or.inl rfl) pm_M255 T.2.1 rfl (by decide) (Nat.lt_of_lt_of_le (by decide) T.1) rfl rfl (Nat.le_of_ble_eq_true rfl) rfl rfl ?_
        refine pm_R_lo pm_M255 (pc' := 1) rfl rfl rfl ?_
        refine rf_R_get pm_M255 T (pc' := 4) (v := .ref 49) rfl rfl rfl rfl ?_
        refine pm_R_op pm_M255 (pc' := 7) (st' := [.int 152, .ref 49]) rfl rfl rfl ?_
        refine pm_R_lo pm_M255 (pc' := 8) rfl rfl rfl ?_
        have B196 : sf_B 0 1 (m 44) := T.2.2.1 44
        refine rf_R_get pm_M255 T (pc' := 11) (v := .int (m 44)) rfl rfl rfl rfl ?_
        refine sf_R_imul pm_M255 (pc' := 12) rfl rfl sf_k152 B196 (by decide) (by decide) (by decide) (fun z197 e198 B199 => ?_)
        refine pm_R_op pm_M255 (pc' := 13) (st' := [.int 2, .int z197, .ref 49]) rfl rfl rfl ?_
        refine sf_R_iadd pm_M255 (pc' := 14) rfl rfl B199 sf_k2 (by decide) (by decide) (fun z200 e201 B202 => ?_)
        refine pm_R_op pm_M255 (pc' := 15) (st' := [.int 3, .int z200, .ref 49]) rfl rfl rfl ?_
        refine pm_R_lo pm_M255 (pc' := 16) rfl rfl rfl ?_
        refine sf_R_imul pm_M255 (pc' := 17) rfl rfl sf_k3 B195 (by decide) (by decide) (by decide) (fun z203 e204 B205 => ?_)
        refine sf_R_iadd pm_M255 (pc' := 18) rfl rfl B202 B205 (by decide) (by decide) (fun z206 e207 B208 => ?_)
        refine pm_R_lo pm_M255 (pc' := 19) rfl rfl rfl ?_
        refine sf_R_iadd pm_M255 (pc' := 20) rfl rfl B208 sf_k0 (by decide) (by decide) (fun z209 e210 B211 => ?_)
        obtain ⟨f212, e213, b214⟩ := T.2.2.2.1 49 (by decide) (by decide)
        refine rf_R_ild pm_M255 T (pc' := 21) rfl e213 (by decide) (sf_in B211 (by decide) (by decide)) rfl (fun z215 ez216 => ?_)
        have e217 : (z209).toInt = 152 * ((m 44)).toInt + 3 * (x2_192).toInt + 2 := by
          have q0 := e198
          have q1 := e201
          have q2 := e204
          have q3 := e207
          have q4 := e210
          simp only [(show (0 : Int32).toInt = 0 from rfl), (show (2 : Int32).toInt = 2 from rfl), (show (3 : Int32).toInt = 3 from rfl), (show (152 : Int32).toInt = 152 from rfl)] at q0 q1 q2 q3 q4
          omega
        have B218 : sf_B 0 2 z215 := ez216 ▸ rf_p49s b214 e217 B196 B195 (by decide) (by decide) (by decide)
        refine pm_R_ret pm_M255 (r := some (.int z215)) rfl (pm_ret_i _) ?_
        show pm_R _ 256 6 [.ref 41, .int x2_192] [.int z215] _ _
        refine pm_R_op pm_M256 (pc' := 7) (st' := [.int 2, .int z215]) rfl rfl rfl ?_
        refine pm_R_icmp pm_M256 (t := 14) (pc' := 10) rfl rfl rfl (fun c219 => ?_) (fun c219 => ?_)
        · have B220 : sf_B 0 1 z215 := sf_neH0 c219 sf_k2 B218
          refine pm_R_op pm_M256 (pc' := 15) (st' := [.int 0]) rfl rfl rfl ?_
          refine pm_R_ret pm_M256 (r := some (.int 0)) rfl rfl ?_
          show pm_R _ 279 13 [.ref 41, .int a0, .int x2_192] [.int 0] _ _
          refine pm_R_br pm_M279 (pc' := 38) (st' := []) rfl rfl ?_
          refine sf_R_iinc pm_M279 (pc' := 41) (ls' := fun z => [.ref 41, .int a0, .int z]) rfl B195 rfl (by decide) (by decide) (by decide) (fun _ => rfl) rfl (fun z221 e222 B223 => ?_)
          show pm_R _ 279 41 [.ref 41, .int a0, .int z221] [] _ _
          refine pm_R_br pm_M279 (pc' := 4) rfl rfl ?_
          exact ih_192 _ (sf_dn hN_192 e222 B195 (by decide) (by decide)) z221 (sf_weak B223 (by decide) (by decide)) rfl
        · have B224 : sf_B 2 2 z215 := sf_eqL (Classical.not_not.mp c219) sf_k2
          refine pm_R_op pm_M256 (pc' := 11) (st' := [.int 1]) rfl rfl rfl ?_
          refine pm_R_br pm_M256 (pc' := 15) rfl rfl ?_
          refine pm_R_ret pm_M256 (r := some (.int 1)) rfl rfl ?_
          show pm_R _ 279 13 [.ref 41, .int a0, .int x2_192] [.int 1] _ _
          refine pm_R_br pm_M279 (pc' := 16) (st' := []) rfl rfl ?_
          refine pm_R_lo pm_M279 (pc' := 17) rfl rfl rfl ?_
          refine pm_R_lo pm_M279 (pc' := 18) rfl rfl rfl ?_
          refine pm_R_op pm_M279 (pc' := 19) (st' := [.int 1, .int x2_192, .ref 41]) rfl rfl rfl ?_
          refine pm_R_cv pm_M279 (pc' := 22) (a := 41) (ra := [.int 1, .int x2_192]) (rest := []) (ls' := [.ref 41, .int x2_192, .int 1]) rfl rfl (Or.inl rfl) pm_M255 T.2.1 rfl (by decide) (Nat.lt_of_lt_of_le (by decide) T.1) rfl rfl (Nat.le_of_ble_eq_true rfl) rfl rfl ?_
          refine pm_R_lo pm_M255 (pc' := 1) rfl rfl rfl ?_
          refine rf_R_get pm_M255 T (pc' := 4) (v := .ref 49) rfl rfl rfl rfl ?_
          refine pm_R_op pm_M255 (pc' := 7) (st' := [.int 152, .ref 49]) rfl rfl rfl ?_
          refine pm_R_lo pm_M255 (pc' := 8) rfl rfl rfl ?_
          refine rf_R_get pm_M255 T (pc' := 11) (v := .int (m 44)) rfl rfl rfl rfl ?_
          refine sf_R_imul pm_M255 (pc' := 12) rfl rfl sf_k152 B196 (by decide) (by decide) (by decide) (fun z225 e226 B227 => ?_)
          refine pm_R_op pm_M255 (pc' := 13) (st' := [.int 2, .int z225, .ref 49]) rfl rfl rfl ?_
          refine sf_R_iadd pm_M255 (pc' := 14) rfl rfl B227 sf_k2 (by decide) (by decide) (fun z228 e229 B230 => ?_)
          refine pm_R_op pm_M255 (pc' := 15) (st' := [.int 3, .int z228, .ref 49]) rfl rfl rfl ?_
          refine pm_R_lo pm_M255 (pc' := 16) rfl rfl rfl ?_
          refine sf_R_imul pm_M255 (pc' := 17) rfl rfl sf_k3 B195 (by decide) (by decide) (by decide) (fun z231 e232 B233 => ?_)
          refine sf_R_iadd pm_M255 (pc' := 18) rfl rfl B230 B233 (by decide) (by decide) (fun z234 e235 B236 => ?_)
          refine pm_R_lo pm_M255 (pc' := 19) rfl rfl rfl ?_
          refine sf_R_iadd pm_M255 (pc' := 20) rfl rfl B236 sf_k1 (by decide) (by decide) (fun z237 e238 B239 => ?_)
          refine rf_R_ild pm_M255 T (pc' := 21) rfl e213 (by decide) (sf_in B239 (by decide) (by decide)) rfl (fun z240 ez241 => ?_)
          have e242 : (z237).toInt = 152 * ((m 44)).toInt + 3 * (x2_192).toInt + 3 := by
            have q0 := e226
            have q1 := e229
            have q2 := e232
            have q3 := e235
            have q4 := e238
            simp only [(show (1 : Int32).toInt = 1 from rfl), (show (2 : Int32).toInt = 2 from rfl), (show (3 : Int32).toInt = 3 from rfl), (show (152 : Int32).toInt = 152 from rfl)] at q0 q1 q2 q3 q4
            omega
          have B243 : sf_B 0 5 z240 := ez241 ▸ rf_p49w b214 e242 B196 B195 (by decide) (by decide) (by decide)
          refine pm_R_ret pm_M255 (r := some (.int z240)) rfl (pm_ret_i _) ?_
          show pm_R _ 279 22 [.ref 41, .int a0, .int x2_192] [.int z240] _ _
          refine pm_R_lo pm_M279 (pc' := 23) rfl rfl rfl ?_
          refine pm_R_lo pm_M279 (pc' := 24) rfl rfl rfl ?_
          refine pm_R_op pm_M279 (pc' := 25) (st' := [.int 1, .int a0, .ref 41, .int z240]) rfl rfl rfl ?_
          refine pm_R_cv pm_M279 (pc' := 28) (a := 41) (ra := [.int 1, .int a0]) (rest := [.int z240]) (ls' := [.ref 41, .int a0, .int 1]) rfl rfl (Or.inl rfl) pm_M255 T.2.1 rfl (by decide) (Nat.lt_of_lt_of_le (by decide) T.1) rfl rfl (Nat.le_of_ble_eq_true rfl) rfl rfl ?_
          refine pm_R_lo pm_M255 (pc' := 1) rfl rfl rfl ?_
          refine rf_R_get pm_M255 T (pc' := 4) (v := .ref 49) rfl rfl rfl rfl ?_
          refine pm_R_op pm_M255 (pc' := 7) (st' := [.int 152, .ref 49]) rfl rfl rfl ?_
          refine pm_R_lo pm_M255 (pc' := 8) rfl rfl rfl ?_
          refine rf_R_get pm_M255 T (pc' := 11) (v := .int (m 44)) rfl rfl rfl rfl ?_
          refine sf_R_imul pm_M255 (pc' := 12) rfl rfl sf_k152 B196 (by decide) (by decide) (by decide) (fun z244 e245 B246 => ?_)
          refine pm_R_op pm_M255 (pc' := 13) (st' := [.int 2, .int z244, .ref 49]) rfl rfl rfl ?_
          refine sf_R_iadd pm_M255 (pc' := 14) rfl rfl B246 sf_k2 (by decide) (by decide) (fun z247 e248 B249 => ?_)
          refine pm_R_op pm_M255 (pc' := 15) (st' := [.int 3, .int z247, .ref 49]) rfl rfl rfl ?_
          refine pm_R_lo pm_M255 (pc' := 16) rfl rfl rfl ?_
          refine sf_R_imul pm_M255 (pc' := 17) rfl rfl sf_k3 Ba0 (by decide) (by decide) (by decide) (fun z250 e251 B252 => ?_)
          refine sf_R_iadd pm_M255 (pc' := 18) rfl rfl B249 B252 (by decide) (by decide) (fun z253 e254 B255 => ?_)
          refine pm_R_lo pm_M255 (pc' := 19) rfl rfl rfl ?_
          refine sf_R_iadd pm_M255 (pc' := 20) rfl rfl B255 sf_k1 (by decide) (by decide) (fun z256 e257 B258 => ?_)
          refine rf_R_ild pm_M255 T (pc' := 21) rfl e213 (by decide) (sf_in B258 (by decide) (by decide)) rfl (fun z259 ez260 => ?_)
          have e261 : (z256).toInt = 152 * ((m 44)).toInt + 3 * (a0).toInt + 3 := by
            have q0 := e245
            have q1 := e248
            have q2 := e251
            have q3 := e254
            have q4 := e257
            simp only [(show (1 : Int32).toInt = 1 from rfl), (show (2 : Int32).toInt = 2 from rfl), (show (3 : Int32).toInt = 3 from rfl), (show (152 : Int32).toInt = 152 from rfl)] at q0 q1 q2 q3 q4
            omega
          have B262 : sf_B 0 5 z259 := ez260 ▸ rf_p49w b214 e261 B196 Ba0 (by decide) (by decide) (by decide)
          refine pm_R_ret pm_M255 (r := some (.int z259)) rfl (pm_ret_i _) ?_
          show pm_R _ 279 28 [.ref 41, .int a0, .int x2_192] [.int z259, .int z240] _ _
          refine pm_R_icmp pm_M279 (t := 38) (pc' := 31) rfl rfl rfl (fun c263 => ?_) (fun c263 => ?_)
          · skip
            refine sf_R_iinc pm_M279 (pc' := 41) (ls' := fun z => [.ref 41, .int a0, .int z]) rfl B195 rfl (by decide) (by decide) (by decide) (fun _ => rfl) rfl (fun z264 e265 B266 => ?_)
            show pm_R _ 279 41 [.ref 41, .int a0, .int z264] [] _ _
            refine pm_R_br pm_M279 (pc' := 4) rfl rfl ?_
            exact ih_192 _ (sf_dn hN_192 e265 B195 (by decide) (by decide)) z264 (sf_weak B266 (by decide) (by decide)) rfl
          · refine pm_R_lo pm_M279 (pc' := 32) rfl rfl rfl ?_
            refine pm_R_lo pm_M279 (pc' := 33) rfl rfl rfl ?_
            refine pm_R_op pm_M279 (pc' := 34) (st' := [.int 2, .int x2_192, .ref 41]) rfl rfl rfl ?_
            refine pm_R_cv pm_M279 (pc' := 37) (a := 41) (ra := [.int 2, .int x2_192]) (rest := []) (ls' := [.ref 41, .int x2_192, .int 2]) rfl rfl (Or.inl rfl) pm_M255 T.2.1 rfl (by decide) (Nat.lt_of_lt_of_le (by decide) T.1) rfl rfl (Nat.le_of_ble_eq_true rfl) rfl rfl ?_
            refine pm_R_lo pm_M255 (pc' := 1) rfl rfl rfl ?_
            refine rf_R_get pm_M255 T (pc' := 4) (v := .ref 49) rfl rfl rfl rfl ?_
            refine pm_R_op pm_M255 (pc' := 7) (st' := [.int 152, .ref 49]) rfl rfl rfl ?_
            refine pm_R_lo pm_M255 (pc' := 8) rfl rfl rfl ?_
            refine rf_R_get pm_M255 T (pc' := 11) (v := .int (m 44)) rfl rfl rfl rfl ?_
            refine sf_R_imul pm_M255 (pc' := 12) rfl rfl sf_k152 B196 (by decide) (by decide) (by decide) (fun z267 e268 B269 => ?_)
            refine pm_R_op pm_M255 (pc' := 13) (st' := [.int 2, .int z267, .ref 49]) rfl rfl rfl ?_
            refine sf_R_iadd pm_M255 (pc' := 14) rfl rfl B269 sf_k2 (by decide) (by decide) (fun z270 e271 B272 => ?_)
            refine pm_R_op pm_M255 (pc' := 15) (st' := [.int 3, .int z270, .ref 49]) rfl rfl rfl ?_
            refine pm_R_lo pm_M255 (pc' := 16) rfl rfl rfl ?_
            refine sf_R_imul pm_M255 (pc' := 17) rfl rfl sf_k3 B195 (by decide) (by decide) (by decide) (fun z273 e274 B275 => ?_)
            refine sf_R_iadd pm_M255 (pc' := 18) rfl rfl B272 B275 (by decide) (by decide) (fun z276 e277 B278 => ?_)
            refine pm_R_lo pm_M255 (pc' := 19) rfl rfl rfl ?_
            refine sf_R_iadd pm_M255 (pc' := 20) rfl rfl B278 sf_k2 (by decide) (by decide) (fun z279 e280 B281 => ?_)
            refine rf_R_ild pm_M255 T (pc' := 21) rfl e213 (by decide) (sf_in B281 (by decide) (by decide)) rfl (fun z282 ez283 => ?_)
            have e284 : (z279).toInt = 152 * ((m 44)).toInt + 3 * (x2_192).toInt + 4 := by
              have q0 := e268
              have q1 := e271
              have q2 := e274
              have q3 := e277
              have q4 := e280
              simp only [(show (2 : Int32).toInt = 2 from rfl), (show (3 : Int32).toInt = 3 from rfl), (show (152 : Int32).toInt = 152 from rfl)] at q0 q1 q2 q3 q4
              omega
            have B285 : sf_B (-1) 9 z282 := ez283 ▸ rf_p49o b214 e284 B196 B195 (by decide) (by decide) (by decide)
            refine pm_R_ret pm_M255 (r := some (.int z282)) rfl (pm_ret_i _) ?_
            show pm_R _ 279 37 [.ref 41, .int a0, .int x2_192] [.int z282] _ _
            exact pm_R_ret pm_M279 (r := some (.int z282)) rfl (pm_ret_i _) (K z282 B285)
  exact L_192 _ z1 B3 rfl

set_option maxRecDepth 100000 in
set_option maxHeartbeats 4000000 in
/-- SilentTableModel.broken -/
theorem rf_c276 {d : Nat} {m : Nat → Int32} {w : Int64} {h : pm_H} {Q : Option Value → pm_H → Prop} {a0 : Int32} {a1 : Int32} (T : rf_T m w h) (Ba0 : sf_B 0 49 a0) (K : ∀ (r : Int32), sf_B (-1) 7 r → Q (some (.int r)) h) : pm_R (d + 4) 276 0 [.ref 41, .int a0, .int a1, pm_no] [] h Q := by
  refine pm_R_op pm_M276 (pc' := 1) (st' := [.int 0]) rfl rfl rfl ?_
  refine pm_R_lo pm_M276 (pc' := 2) (ls' := [.ref 41, .int a0, .int a1, .int 0]) (st' := []) rfl rfl rfl ?_
  have L_1146 : ∀ (N : Nat) (x3_1146 : Int32), sf_B 0 8 x3_1146 → (8 - x3_1146.toInt).toNat = N → pm_R (d + 4) 276 2 [.ref 41, .int a0, .int a1, .int x3_1146] [] h Q := by
    intro N
    induction N using Nat.strongRecOn with
    | ind N ih_1146 =>
      intro x3_1146 Bx3_1146 hN_1146
      refine pm_R_lo pm_M276 (pc' := 3) rfl rfl rfl ?_
      refine pm_R_lo pm_M276 (pc' := 4) rfl rfl rfl ?_
      refine pm_R_cv pm_M276 (pc' := 7) (a := 41) (ra := []) (rest := [.int x3_1146]) (ls' := [.ref 41]) rfl rfl (Or.inl rfl) pm_M272 T.2.1 rfl (by decide) (Nat.lt_of_lt_of_le (by decide) T.1) rfl rfl (Nat.le_of_ble_eq_true rfl) rfl rfl ?_
      refine pm_R_lo pm_M272 (pc' := 1) rfl rfl rfl ?_
      refine rf_R_get pm_M272 T (pc' := 4) (v := .ref 50) rfl rfl rfl rfl ?_
      refine pm_R_op pm_M272 (pc' := 6) (st' := [.int 25, .ref 50]) rfl rfl rfl ?_
      refine pm_R_lo pm_M272 (pc' := 7) rfl rfl rfl ?_
      have B1147 : sf_B 0 1 (m 49) := T.2.2.1 49
      refine rf_R_get pm_M272 T (pc' := 10) (v := .int (m 49)) rfl rfl rfl rfl ?_
      refine sf_R_imul pm_M272 (pc' := 11) rfl rfl sf_k25 B1147 (by decide) (by decide) (by decide) (fun z1148 e1149 B1150 => ?_)
      obtain ⟨f1151, e1152, b1153⟩ := T.2.2.2.1 50 (by decide) (by decide)
      refine rf_R_ild pm_M272 T (pc' := 12) rfl e1152 (by decide) (sf_in B1150 (by decide) (by decide)) rfl (fun z1154 ez1155 => ?_)
      have e1156 : (z1148).toInt = 25 * ((m 49)).toInt + 0 := by
        have q0 := e1149
        simp only [(show (25 : Int32).toInt = 25 from rfl)] at q0
        omega
      have B1157 : sf_B 0 8 z1154 := ez1155 ▸ rf_p50a b1153 e1156 B1147 (by decide)
      refine pm_R_ret pm_M272 (r := some (.int z1154)) rfl (pm_ret_i _) ?_
      show pm_R _ 276 7 [.ref 41, .int a0, .int a1, .int x3_1146] [.int z1154, .int x3_1146] _ _
      refine pm_R_icmp pm_M276 (t := 32) (pc' := 10) rfl rfl rfl (fun c1158 => ?_) (fun c1158 => ?_)
      · skip
        refine pm_R_op pm_M276 (pc' := 33) (st' := [.int (-1)]) rfl rfl rfl ?_
        exact pm_R_ret pm_M276 (r := some (.int (-1))) rfl rfl (K (-1) (sf_weak sf_kn1 (by decide) (by decide)))
      · have B1159 : sf_B 0 7 x3_1146 := sf_ltL (Int32.not_le.mp c1158) Bx3_1146 B1157
        have B1160 : sf_B 1 8 z1154 := sf_ltR (Int32.not_le.mp c1158) Bx3_1146 B1157
        refine pm_R_lo pm_M276 (pc' := 11) rfl rfl rfl ?_
        refine pm_R_lo pm_M276 (pc' := 12) rfl rfl rfl ?_
        refine pm_R_icmp pm_M276 (t := 26) (pc' := 15) rfl rfl rfl (fun c1161 => ?_) (fun c1161 => ?_)
        · have B1162 : sf_B 0 7 a1 := sf_eqR c1161 B1159
          refine sf_R_iinc pm_M276 (pc' := 29) (ls' := fun z => [.ref 41, .int a0, .int a1, .int z]) rfl B1159 rfl (by decide) (by decide) (by decide) (fun _ => rfl) rfl (fun z1163 e1164 B1165 => ?_)
          show pm_R _ 276 29 [.ref 41, .int a0, .int a1, .int z1163] [] _ _
          refine pm_R_br pm_M276 (pc' := 2) rfl rfl ?_
          exact ih_1146 _ (sf_up hN_1146 e1164 B1159 (by decide) (by decide)) z1163 (sf_weak B1165 (by decide) (by decide)) rfl
        · skip
          refine pm_R_lo pm_M276 (pc' := 16) rfl rfl rfl ?_
          refine pm_R_lo pm_M276 (pc' := 17) rfl rfl rfl ?_
          refine pm_R_lo pm_M276 (pc' := 18) rfl rfl rfl ?_
          refine pm_R_cv pm_M276 (pc' := 21) (a := 41) (ra := [.int x3_1146, .int a0]) (rest := []) (ls' := [.ref 41, .int a0, .int x3_1146, pm_no, pm_no, pm_no]) rfl rfl (Or.inl rfl) pm_M277 T.2.1 rfl (by decide) (Nat.lt_of_lt_of_le (by decide) T.1) rfl rfl (Nat.le_of_ble_eq_true rfl) rfl rfl ?_
          refine pm_R_lo pm_M277 (pc' := 1) rfl rfl rfl ?_
          refine pm_R_lo pm_M277 (pc' := 2) rfl rfl rfl ?_
          refine pm_R_cv pm_M277 (pc' := 5) (a := 41) (ra := [.int a0]) (rest := []) (ls' := [.ref 41, .int a0]) rfl rfl (Or.inl rfl) pm_M256 T.2.1 rfl (by decide) (Nat.lt_of_lt_of_le (by decide) T.1) rfl rfl (Nat.le_of_ble_eq_true rfl) rfl rfl ?_
          refine pm_R_lo pm_M256 (pc' := 1) rfl rfl rfl ?_
          refine pm_R_lo pm_M256 (pc' := 2) rfl rfl rfl ?_
          refine pm_R_op pm_M256 (pc' := 3) (st' := [.int 0, .int a0, .ref 41]) rfl rfl rfl ?_
          refine pm_R_cv pm_M256 (pc' := 6) (a := 41) (ra := [.int 0, .int a0]) (rest := []) (ls' := [.ref 41, .int a0, .int 0]) rfl rfl (Or.inl rfl) pm_M255 T.2.1 rfl (by decide) (Nat.lt_of_lt_of_le (by decide) T.1) rfl rfl (Nat.le_of_ble_eq_true rfl) rfl rfl ?_
          refine pm_R_lo pm_M255 (pc' := 1) rfl rfl rfl ?_
          refine rf_R_get pm_M255 T (pc' := 4) (v := .ref 49) rfl rfl rfl rfl ?_
          refine pm_R_op pm_M255 (pc' := 7) (st' := [.int 152, .ref 49]) rfl rfl rfl ?_
          refine pm_R_lo pm_M255 (pc' := 8) rfl rfl rfl ?_
          have B1166 : sf_B 0 1 (m 44) := T.2.2.1 44
          refine rf_R_get pm_M255 T (pc' := 11) (v := .int (m 44)) rfl rfl rfl rfl ?_
          refine sf_R_imul pm_M255 (pc' := 12) rfl rfl sf_k152 B1166 (by decide) (by decide) (by decide) (fun z1167 e1168 B1169 => ?_)
          refine pm_R_op pm_M255 (pc' := 13) (st' := [.int 2, .int z1167, .ref 49]) rfl rfl rfl ?_
          refine sf_R_iadd pm_M255 (pc' := 14) rfl rfl B1169 sf_k2 (by decide) (by decide) (fun z1170 e1171 B1172 => ?_)
          refine pm_R_op pm_M255 (pc' := 15) (st' := [.int 3, .int z1170, .ref 49]) rfl rfl rfl ?_
          refine pm_R_lo pm_M255 (pc' := 16) rfl rfl rfl ?_
          refine sf_R_imul pm_M255 (pc' := 17) rfl rfl sf_k3 Ba0 (by decide) (by decide) (by decide) (fun z1173 e1174 B1175 => ?_)
          refine sf_R_iadd pm_M255 (pc' := 18) rfl rfl B1172 B1175 (by decide) (by decide) (fun z1176 e1177 B1178 => ?_)
          refine pm_R_lo pm_M255 (pc' := 19) rfl rfl rfl ?_
          refine sf_R_iadd pm_M255 (pc' := 20) rfl rfl B1178 sf_k0 (by decide) (by decide) (fun z1179 e1180 B1181 => ?_)
          obtain ⟨f1182, e1183, b1184⟩ := T.2.2.2.1 49 (by decide) (by decide)
          refine rf_R_ild pm_M255 T (pc' := 21) rfl e1183 (by decide) (sf_in B1181 (by decide) (by decide)) rfl (fun z1185 ez1186 => ?_)
          have e1187 : (z1179).toInt = 152 * ((m 44)).toInt + 3 * (a0).toInt + 2 := by
            have q0 := e1168
            have q1 := e1171
            have q2 := e1174
            have q3 := e1177
            have q4 := e1180
            simp only [(show (0 : Int32).toInt = 0 from rfl), (show (2 : Int32).toInt = 2 from rfl), (show (3 : Int32).toInt = 3 from rfl), (show (152 : Int32).toInt = 152 from rfl)] at q0 q1 q2 q3 q4
            omega
          have B1188 : sf_B 0 2 z1185 := ez1186 ▸ rf_p49s b1184 e1187 B1166 Ba0 (by decide) (by decide) (by decide)
          refine pm_R_ret pm_M255 (r := some (.int z1185)) rfl (pm_ret_i _) ?_
          show pm_R _ 256 6 [.ref 41, .int a0] [.int z1185] _ _
          refine pm_R_op pm_M256 (pc' := 7) (st' := [.int 2, .int z1185]) rfl rfl rfl ?_
          refine pm_R_icmp pm_M256 (t := 14) (pc' := 10) rfl rfl rfl (fun c1189 => ?_) (fun c1189 => ?_)
          · have B1190 : sf_B 0 1 z1185 := sf_neH0 c1189 sf_k2 B1188
            refine pm_R_op pm_M256 (pc' := 15) (st' := [.int 0]) rfl rfl rfl ?_
            refine pm_R_ret pm_M256 (r := some (.int 0)) rfl rfl ?_
            show pm_R _ 277 5 [.ref 41, .int a0, .int x3_1146, pm_no, pm_no, pm_no] [.int 0] _ _
            refine pm_R_br pm_M277 (pc' := 8) (st' := []) rfl rfl ?_
            refine pm_R_op pm_M277 (pc' := 9) (st' := [.int 0]) rfl rfl rfl ?_
            refine pm_R_ret pm_M277 (r := some (.int 0)) rfl rfl ?_
            show pm_R _ 276 21 [.ref 41, .int a0, .int a1, .int x3_1146] [.int 0] _ _
            refine pm_R_br pm_M276 (pc' := 26) (st' := []) rfl rfl ?_
            refine sf_R_iinc pm_M276 (pc' := 29) (ls' := fun z => [.ref 41, .int a0, .int a1, .int z]) rfl B1159 rfl (by decide) (by decide) (by decide) (fun _ => rfl) rfl (fun z1191 e1192 B1193 => ?_)
            show pm_R _ 276 29 [.ref 41, .int a0, .int a1, .int z1191] [] _ _
            refine pm_R_br pm_M276 (pc' := 2) rfl rfl ?_
            exact ih_1146 _ (sf_up hN_1146 e1192 B1159 (by decide) (by decide)) z1191 (sf_weak B1193 (by decide) (by decide)) rfl
          · have B1194 : sf_B 2 2 z1185 := sf_eqL (Classical.not_not.mp c1189) sf_k2
            refine pm_R_op pm_M256 (pc' := 11) (st' := [.int 1]) rfl rfl rfl ?_
            refine pm_R_br pm_M256 (pc' := 15) rfl rfl ?_
            refine pm_R_ret pm_M256 (r := some (.int 1)) rfl rfl ?_
            show pm_R _ 277 5 [.ref 41, .int a0, .int x3_1146, pm_no, pm_no, pm_no] [.int 1] _ _
            refine pm_R_br pm_M277 (pc' := 10) (st' := []) rfl rfl ?_
            refine pm_R_lo pm_M277 (pc' := 11) rfl rfl rfl ?_
            refine pm_R_lo pm_M277 (pc' := 12) rfl rfl rfl ?_
            refine pm_R_op pm_M277 (pc' := 13) (st' := [.int 2, .int a0, .ref 41]) rfl rfl rfl ?_
            refine pm_R_cv pm_M277 (pc' := 16) (a := 41) (ra := [.int 2, .int a0]) (rest := []) (ls' := [.ref 41, .int a0, .int 2]) rfl rfl (Or.inl rfl) pm_M255 T.2.1 rfl (by decide) (Nat.lt_of_lt_of_le (by decide) T.1) rfl rfl (Nat.le_of_ble_eq_true rfl) rfl rfl ?_
            refine pm_R_lo pm_M255 (pc' := 1) rfl rfl rfl ?_
            refine rf_R_get pm_M255 T (pc' := 4) (v := .ref 49) rfl rfl rfl rfl ?_
            refine pm_R_op pm_M255 (pc' := 7) (st' := [.int 152, .ref 49]) rfl rfl rfl ?_
            refine pm_R_lo pm_M255 (pc' := 8) rfl rfl rfl ?_
            refine rf_R_get pm_M255 T (pc' := 11) (v := .int (m 44)) rfl rfl rfl rfl ?_
            refine sf_R_imul pm_M255 (pc' := 12) rfl rfl sf_k152 B1166 (by decide) (by decide) (by decide) (fun z1195 e1196 B1197 => ?_)
            refine pm_R_op pm_M255 (pc' := 13) (st' := [.int 2, .int z1195, .ref 49]) rfl rfl rfl ?_
            refine sf_R_iadd pm_M255 (pc' := 14) rfl rfl B1197 sf_k2 (by decide) (by decide) (fun z1198 e1199 B1200 => ?_)
            refine pm_R_op pm_M255 (pc' := 15) (st' := [.int 3, .int z1198, .ref 49]) rfl rfl rfl ?_
            refine pm_R_lo pm_M255 (pc' := 16) rfl rfl rfl ?_
            refine sf_R_imul pm_M255 (pc' := 17) rfl rfl sf_k3 Ba0 (by decide) (by decide) (by decide) (fun z1201 e1202 B1203 => ?_)
            refine sf_R_iadd pm_M255 (pc' := 18) rfl rfl B1200 B1203 (by decide) (by decide) (fun z1204 e1205 B1206 => ?_)
            refine pm_R_lo pm_M255 (pc' := 19) rfl rfl rfl ?_
            refine sf_R_iadd pm_M255 (pc' := 20) rfl rfl B1206 sf_k2 (by decide) (by decide) (fun z1207 e1208 B1209 => ?_)
            refine rf_R_ild pm_M255 T (pc' := 21) rfl e1183 (by decide) (sf_in B1209 (by decide) (by decide)) rfl (fun z1210 ez1211 => ?_)
            have e1212 : (z1207).toInt = 152 * ((m 44)).toInt + 3 * (a0).toInt + 4 := by
              have q0 := e1196
              have q1 := e1199
              have q2 := e1202
              have q3 := e1205
              have q4 := e1208
              simp only [(show (2 : Int32).toInt = 2 from rfl), (show (3 : Int32).toInt = 3 from rfl), (show (152 : Int32).toInt = 152 from rfl)] at q0 q1 q2 q3 q4
              omega
            have B1213 : sf_B (-1) 9 z1210 := ez1211 ▸ rf_p49o b1184 e1212 B1166 Ba0 (by decide) (by decide) (by decide)
            refine pm_R_ret pm_M255 (r := some (.int z1210)) rfl (pm_ret_i _) ?_
            show pm_R _ 277 16 [.ref 41, .int a0, .int x3_1146, pm_no, pm_no, pm_no] [.int z1210] _ _
            refine pm_R_lo pm_M277 (pc' := 17) (ls' := [.ref 41, .int a0, .int x3_1146, .int z1210, pm_no, pm_no]) (st' := []) rfl rfl rfl ?_
            refine pm_R_lo pm_M277 (pc' := 18) rfl rfl rfl ?_
            refine pm_R_lo pm_M277 (pc' := 19) rfl rfl rfl ?_
            refine pm_R_op pm_M277 (pc' := 20) (st' := [.int 1, .int x3_1146, .ref 41]) rfl rfl rfl ?_
            refine pm_R_cv pm_M277 (pc' := 23) (a := 41) (ra := [.int 1, .int x3_1146]) (rest := []) (ls' := [.ref 41, .int x3_1146, .int 1]) rfl rfl (Or.inl rfl) pm_M273 T.2.1 rfl (by decide) (Nat.lt_of_lt_of_le (by decide) T.1) rfl rfl (Nat.le_of_ble_eq_true rfl) rfl rfl ?_
            refine pm_R_lo pm_M273 (pc' := 1) rfl rfl rfl ?_
            refine rf_R_get pm_M273 T (pc' := 4) (v := .ref 50) rfl rfl rfl rfl ?_
            refine pm_R_op pm_M273 (pc' := 6) (st' := [.int 25, .ref 50]) rfl rfl rfl ?_
            refine pm_R_lo pm_M273 (pc' := 7) rfl rfl rfl ?_
            refine rf_R_get pm_M273 T (pc' := 10) (v := .int (m 49)) rfl rfl rfl rfl ?_
            refine sf_R_imul pm_M273 (pc' := 11) rfl rfl sf_k25 B1147 (by decide) (by decide) (by decide) (fun z1214 e1215 B1216 => ?_)
            refine pm_R_op pm_M273 (pc' := 12) (st' := [.int 1, .int z1214, .ref 50]) rfl rfl rfl ?_
            refine sf_R_iadd pm_M273 (pc' := 13) rfl rfl B1216 sf_k1 (by decide) (by decide) (fun z1217 e1218 B1219 => ?_)
            refine pm_R_op pm_M273 (pc' := 14) (st' := [.int 3, .int z1217, .ref 50]) rfl rfl rfl ?_
            refine pm_R_lo pm_M273 (pc' := 15) rfl rfl rfl ?_
            refine sf_R_imul pm_M273 (pc' := 16) rfl rfl sf_k3 B1159 (by decide) (by decide) (by decide) (fun z1220 e1221 B1222 => ?_)
            refine sf_R_iadd pm_M273 (pc' := 17) rfl rfl B1219 B1222 (by decide) (by decide) (fun z1223 e1224 B1225 => ?_)
            refine pm_R_lo pm_M273 (pc' := 18) rfl rfl rfl ?_
            refine sf_R_iadd pm_M273 (pc' := 19) rfl rfl B1225 sf_k1 (by decide) (by decide) (fun z1226 e1227 B1228 => ?_)
            refine rf_R_ild pm_M273 T (pc' := 20) rfl e1152 (by decide) (sf_in B1228 (by decide) (by decide)) rfl (fun z1229 ez1230 => ?_)
            have e1231 : (z1226).toInt = 25 * ((m 49)).toInt + 3 * (x3_1146).toInt + 2 := by
              have q0 := e1215
              have q1 := e1218
              have q2 := e1221
              have q3 := e1224
              have q4 := e1227
              simp only [(show (1 : Int32).toInt = 1 from rfl), (show (3 : Int32).toInt = 3 from rfl), (show (25 : Int32).toInt = 25 from rfl)] at q0 q1 q2 q3 q4
              omega
            have B1232 : sf_B 0 9 z1229 := ez1230 ▸ rf_p50f b1153 e1231 B1147 B1159 (by decide) (by decide) (by decide)
            refine pm_R_ret pm_M273 (r := some (.int z1229)) rfl (pm_ret_i _) ?_
            show pm_R _ 277 23 [.ref 41, .int a0, .int x3_1146, .int z1210, pm_no, pm_no] [.int z1229] _ _
            refine pm_R_lo pm_M277 (pc' := 25) (ls' := [.ref 41, .int a0, .int x3_1146, .int z1210, .int z1229, pm_no]) (st' := []) rfl rfl rfl ?_
            refine pm_R_lo pm_M277 (pc' := 26) rfl rfl rfl ?_
            refine pm_R_lo pm_M277 (pc' := 27) rfl rfl rfl ?_
            refine pm_R_op pm_M277 (pc' := 28) (st' := [.int 2, .int x3_1146, .ref 41]) rfl rfl rfl ?_
            refine pm_R_cv pm_M277 (pc' := 31) (a := 41) (ra := [.int 2, .int x3_1146]) (rest := []) (ls' := [.ref 41, .int x3_1146, .int 2]) rfl rfl (Or.inl rfl) pm_M273 T.2.1 rfl (by decide) (Nat.lt_of_lt_of_le (by decide) T.1) rfl rfl (Nat.le_of_ble_eq_true rfl) rfl rfl ?_
            refine pm_R_lo pm_M273 (pc' := 1) rfl rfl rfl ?_
            refine rf_R_get pm_M273 T (pc' := 4) (v := .ref 50) rfl rfl rfl rfl ?_
            refine pm_R_op pm_M273 (pc' := 6) (st' := [.int 25, .ref 50]) rfl rfl rfl ?_
            refine pm_R_lo pm_M273 (pc' := 7) rfl rfl rfl ?_
            refine rf_R_get pm_M273 T (pc' := 10) (v := .int (m 49)) rfl rfl rfl rfl ?_
            refine sf_R_imul pm_M273 (pc' := 11) rfl rfl sf_k25 B1147 (by decide) (by decide) (by decide) (fun z1233 e1234 B1235 => ?_)
            refine pm_R_op pm_M273 (pc' := 12) (st' := [.int 1, .int z1233, .ref 50]) rfl rfl rfl ?_
            refine sf_R_iadd pm_M273 (pc' := 13) rfl rfl B1235 sf_k1 (by decide) (by decide) (fun z1236 e1237 B1238 => ?_)
            refine pm_R_op pm_M273 (pc' := 14) (st' := [.int 3, .int z1236, .ref 50]) rfl rfl rfl ?_
            refine pm_R_lo pm_M273 (pc' := 15) rfl rfl rfl ?_
            refine sf_R_imul pm_M273 (pc' := 16) rfl rfl sf_k3 B1159 (by decide) (by decide) (by decide) (fun z1239 e1240 B1241 => ?_)
            refine sf_R_iadd pm_M273 (pc' := 17) rfl rfl B1238 B1241 (by decide) (by decide) (fun z1242 e1243 B1244 => ?_)
            refine pm_R_lo pm_M273 (pc' := 18) rfl rfl rfl ?_
            refine sf_R_iadd pm_M273 (pc' := 19) rfl rfl B1244 sf_k2 (by decide) (by decide) (fun z1245 e1246 B1247 => ?_)
            refine rf_R_ild pm_M273 T (pc' := 20) rfl e1152 (by decide) (sf_in B1247 (by decide) (by decide)) rfl (fun z1248 ez1249 => ?_)
            have e1250 : (z1245).toInt = 25 * ((m 49)).toInt + 3 * (x3_1146).toInt + 3 := by
              have q0 := e1234
              have q1 := e1237
              have q2 := e1240
              have q3 := e1243
              have q4 := e1246
              simp only [(show (1 : Int32).toInt = 1 from rfl), (show (2 : Int32).toInt = 2 from rfl), (show (3 : Int32).toInt = 3 from rfl), (show (25 : Int32).toInt = 25 from rfl)] at q0 q1 q2 q3 q4
              omega
            have B1251 : sf_B (-1) 9 z1248 := ez1249 ▸ rf_p50o b1153 e1250 B1147 B1159 (by decide) (by decide) (by decide)
            refine pm_R_ret pm_M273 (r := some (.int z1248)) rfl (pm_ret_i _) ?_
            show pm_R _ 277 31 [.ref 41, .int a0, .int x3_1146, .int z1210, .int z1229, pm_no] [.int z1248] _ _
            refine pm_R_lo pm_M277 (pc' := 33) (ls' := [.ref 41, .int a0, .int x3_1146, .int z1210, .int z1229, .int z1248]) (st' := []) rfl rfl rfl ?_
            refine pm_R_lo pm_M277 (pc' := 34) rfl rfl rfl ?_
            refine pm_R_lo pm_M277 (pc' := 35) rfl rfl rfl ?_
            refine pm_R_op pm_M277 (pc' := 36) (st' := [.int 0, .int x3_1146, .ref 41]) rfl rfl rfl ?_
            refine pm_R_cv pm_M277 (pc' := 39) (a := 41) (ra := [.int 0, .int x3_1146]) (rest := []) (ls' := [.ref 41, .int x3_1146, .int 0]) rfl rfl (Or.inl rfl) pm_M273 T.2.1 rfl (by decide) (Nat.lt_of_lt_of_le (by decide) T.1) rfl rfl (Nat.le_of_ble_eq_true rfl) rfl rfl ?_
            refine pm_R_lo pm_M273 (pc' := 1) rfl rfl rfl ?_
            refine rf_R_get pm_M273 T (pc' := 4) (v := .ref 50) rfl rfl rfl rfl ?_
            refine pm_R_op pm_M273 (pc' := 6) (st' := [.int 25, .ref 50]) rfl rfl rfl ?_
            refine pm_R_lo pm_M273 (pc' := 7) rfl rfl rfl ?_
            refine rf_R_get pm_M273 T (pc' := 10) (v := .int (m 49)) rfl rfl rfl rfl ?_
            refine sf_R_imul pm_M273 (pc' := 11) rfl rfl sf_k25 B1147 (by decide) (by decide) (by decide) (fun z1252 e1253 B1254 => ?_)
            refine pm_R_op pm_M273 (pc' := 12) (st' := [.int 1, .int z1252, .ref 50]) rfl rfl rfl ?_
            refine sf_R_iadd pm_M273 (pc' := 13) rfl rfl B1254 sf_k1 (by decide) (by decide) (fun z1255 e1256 B1257 => ?_)
            refine pm_R_op pm_M273 (pc' := 14) (st' := [.int 3, .int z1255, .ref 50]) rfl rfl rfl ?_
            refine pm_R_lo pm_M273 (pc' := 15) rfl rfl rfl ?_
            refine sf_R_imul pm_M273 (pc' := 16) rfl rfl sf_k3 B1159 (by decide) (by decide) (by decide) (fun z1258 e1259 B1260 => ?_)
            refine sf_R_iadd pm_M273 (pc' := 17) rfl rfl B1257 B1260 (by decide) (by decide) (fun z1261 e1262 B1263 => ?_)
            refine pm_R_lo pm_M273 (pc' := 18) rfl rfl rfl ?_
            refine sf_R_iadd pm_M273 (pc' := 19) rfl rfl B1263 sf_k0 (by decide) (by decide) (fun z1264 e1265 B1266 => ?_)
            refine rf_R_ild pm_M273 T (pc' := 20) rfl e1152 (by decide) (sf_in B1266 (by decide) (by decide)) rfl (fun z1267 ez1268 => ?_)
            have e1269 : (z1264).toInt = 25 * ((m 49)).toInt + 3 * (x3_1146).toInt + 1 := by
              have q0 := e1253
              have q1 := e1256
              have q2 := e1259
              have q3 := e1262
              have q4 := e1265
              simp only [(show (0 : Int32).toInt = 0 from rfl), (show (1 : Int32).toInt = 1 from rfl), (show (3 : Int32).toInt = 3 from rfl), (show (25 : Int32).toInt = 25 from rfl)] at q0 q1 q2 q3 q4
              omega
            have B1270 : sf_B 0 5 z1267 := ez1268 ▸ rf_p50s b1153 e1269 B1147 B1159 (by decide) (by decide) (by decide)
            refine pm_R_ret pm_M273 (r := some (.int z1267)) rfl (pm_ret_i _) ?_
            show pm_R _ 277 39 [.ref 41, .int a0, .int x3_1146, .int z1210, .int z1229, .int z1248] [.int z1267] _ _
            by_cases c1271 : z1267 = 0
            · rw [c1271]
              refine pm_R_br pm_M277 (pc' := 72) (st' := []) rfl rfl ?_
              refine pm_R_lo pm_M277 (pc' := 73) rfl rfl rfl ?_
              refine pm_R_lo pm_M277 (pc' := 75) rfl rfl rfl ?_
              refine pm_R_icmp pm_M277 (t := 82) (pc' := 78) rfl rfl rfl (fun c1272 => ?_) (fun c1272 => ?_)
              · skip
                refine pm_R_op pm_M277 (pc' := 83) (st' := [.int 0]) rfl rfl rfl ?_
                refine pm_R_ret pm_M277 (r := some (.int 0)) rfl rfl ?_
                show pm_R _ 276 21 [.ref 41, .int a0, .int a1, .int x3_1146] [.int 0] _ _
                refine pm_R_br pm_M276 (pc' := 26) (st' := []) rfl rfl ?_
                refine sf_R_iinc pm_M276 (pc' := 29) (ls' := fun z => [.ref 41, .int a0, .int a1, .int z]) rfl B1159 rfl (by decide) (by decide) (by decide) (fun _ => rfl) rfl (fun z1273 e1274 B1275 => ?_)
                show pm_R _ 276 29 [.ref 41, .int a0, .int a1, .int z1273] [] _ _
                refine pm_R_br pm_M276 (pc' := 2) rfl rfl ?_
                exact ih_1146 _ (sf_up hN_1146 e1274 B1159 (by decide) (by decide)) z1273 (sf_weak B1275 (by decide) (by decide)) rfl
              · have B1276 : sf_B 0 9 z1210 := sf_eqL (Classical.not_not.mp c1272) B1232
                refine pm_R_op pm_M277 (pc' := 79) (st' := [.int 1]) rfl rfl rfl ?_
                refine pm_R_br pm_M277 (pc' := 83) rfl rfl ?_
                refine pm_R_ret pm_M277 (r := some (.int 1)) rfl rfl ?_
                show pm_R _ 276 21 [.ref 41, .int a0, .int a1, .int x3_1146] [.int 1] _ _
                refine pm_R_br pm_M276 (pc' := 24) (st' := []) rfl rfl ?_
                refine pm_R_lo pm_M276 (pc' := 25) rfl rfl rfl ?_
                exact pm_R_ret pm_M276 (r := some (.int x3_1146)) rfl (pm_ret_i _) (K x3_1146 (sf_weak B1159 (by decide) (by decide)))
            have B1277 : sf_B 1 5 z1267 := sf_neL0 c1271 sf_k0 B1270
            by_cases c1278 : z1267 = 1
            · rw [c1278]
              refine pm_R_br pm_M277 (pc' := 84) (st' := []) rfl rfl ?_
              refine pm_R_lo pm_M277 (pc' := 85) rfl rfl rfl ?_
              refine pm_R_lo pm_M277 (pc' := 87) rfl rfl rfl ?_
              refine pm_R_icmp pm_M277 (t := 105) (pc' := 90) rfl rfl rfl (fun c1279 => ?_) (fun c1279 => ?_)
              · skip
                refine pm_R_op pm_M277 (pc' := 106) (st' := [.int 0]) rfl rfl rfl ?_
                refine pm_R_ret pm_M277 (r := some (.int 0)) rfl rfl ?_
                show pm_R _ 276 21 [.ref 41, .int a0, .int a1, .int x3_1146] [.int 0] _ _
                refine pm_R_br pm_M276 (pc' := 26) (st' := []) rfl rfl ?_
                refine sf_R_iinc pm_M276 (pc' := 29) (ls' := fun z => [.ref 41, .int a0, .int a1, .int z]) rfl B1159 rfl (by decide) (by decide) (by decide) (fun _ => rfl) rfl (fun z1280 e1281 B1282 => ?_)
                show pm_R _ 276 29 [.ref 41, .int a0, .int a1, .int z1280] [] _ _
                refine pm_R_br pm_M276 (pc' := 2) rfl rfl ?_
                exact ih_1146 _ (sf_up hN_1146 e1281 B1159 (by decide) (by decide)) z1280 (sf_weak B1282 (by decide) (by decide)) rfl
              · have B1283 : sf_B 0 9 z1210 := sf_eqL (Classical.not_not.mp c1279) B1232
                refine pm_R_lo pm_M277 (pc' := 91) rfl rfl rfl ?_
                refine pm_R_lo pm_M277 (pc' := 92) rfl rfl rfl ?_
                refine pm_R_lo pm_M277 (pc' := 93) rfl rfl rfl ?_
                refine pm_R_cv pm_M277 (pc' := 96) (a := 41) (ra := [.int z1210, .int a0]) (rest := []) (ls' := [.ref 41, .int a0, .int z1210, pm_no, pm_no]) rfl rfl (Or.inl rfl) pm_M278 T.2.1 rfl (by decide) (Nat.lt_of_lt_of_le (by decide) T.1) rfl rfl (Nat.le_of_ble_eq_true rfl) rfl rfl ?_
                refine rf_c278 (d := d + 0) T (sf_weak Ba0 (by decide) (by decide)) (fun r1284 => ?_)
                show pm_R _ 277 96 [.ref 41, .int a0, .int x3_1146, .int z1210, .int z1229, .int z1248] [.int r1284] _ _
                refine pm_R_lo pm_M277 (pc' := 98) rfl rfl rfl ?_
                refine pm_R_icmp pm_M277 (t := 105) (pc' := 101) rfl rfl rfl (fun c1292 => ?_) (fun c1292 => ?_)
                · have B1293 : sf_B (-2147483648) 8 r1284 := sf_ltL c1292 (sf_any r1284) B1251
                  refine pm_R_op pm_M277 (pc' := 106) (st' := [.int 0]) rfl rfl rfl ?_
                  refine pm_R_ret pm_M277 (r := some (.int 0)) rfl rfl ?_
                  show pm_R _ 276 21 [.ref 41, .int a0, .int a1, .int x3_1146] [.int 0] _ _
                  refine pm_R_br pm_M276 (pc' := 26) (st' := []) rfl rfl ?_
                  refine sf_R_iinc pm_M276 (pc' := 29) (ls' := fun z => [.ref 41, .int a0, .int a1, .int z]) rfl B1159 rfl (by decide) (by decide) (by decide) (fun _ => rfl) rfl (fun z1294 e1295 B1296 => ?_)
                  show pm_R _ 276 29 [.ref 41, .int a0, .int a1, .int z1294] [] _ _
                  refine pm_R_br pm_M276 (pc' := 2) rfl rfl ?_
                  exact ih_1146 _ (sf_up hN_1146 e1295 B1159 (by decide) (by decide)) z1294 (sf_weak B1296 (by decide) (by decide)) rfl
                · have B1297 : sf_B (-1) 2147483647 r1284 := sf_leR (Int32.not_lt.mp c1292) B1251 (sf_any r1284)
                  refine pm_R_op pm_M277 (pc' := 102) (st' := [.int 1]) rfl rfl rfl ?_
                  refine pm_R_br pm_M277 (pc' := 106) rfl rfl ?_
                  refine pm_R_ret pm_M277 (r := some (.int 1)) rfl rfl ?_
                  show pm_R _ 276 21 [.ref 41, .int a0, .int a1, .int x3_1146] [.int 1] _ _
                  refine pm_R_br pm_M276 (pc' := 24) (st' := []) rfl rfl ?_
                  refine pm_R_lo pm_M276 (pc' := 25) rfl rfl rfl ?_
                  exact pm_R_ret pm_M276 (r := some (.int x3_1146)) rfl (pm_ret_i _) (K x3_1146 (sf_weak B1159 (by decide) (by decide)))
            have B1298 : sf_B 2 5 z1267 := sf_neL0 c1278 sf_k1 B1277
            by_cases c1299 : z1267 = 2
            · rw [c1299]
              refine pm_R_br pm_M277 (pc' := 107) (st' := []) rfl rfl ?_
              refine pm_R_lo pm_M277 (pc' := 108) rfl rfl rfl ?_
              refine pm_R_lo pm_M277 (pc' := 110) rfl rfl rfl ?_
              refine pm_R_icmp pm_M277 (t := 127) (pc' := 113) rfl rfl rfl (fun c1300 => ?_) (fun c1300 => ?_)
              · skip
                refine pm_R_op pm_M277 (pc' := 128) (st' := [.int 0]) rfl rfl rfl ?_
                refine pm_R_ret pm_M277 (r := some (.int 0)) rfl rfl ?_
                show pm_R _ 276 21 [.ref 41, .int a0, .int a1, .int x3_1146] [.int 0] _ _
                refine pm_R_br pm_M276 (pc' := 26) (st' := []) rfl rfl ?_
                refine sf_R_iinc pm_M276 (pc' := 29) (ls' := fun z => [.ref 41, .int a0, .int a1, .int z]) rfl B1159 rfl (by decide) (by decide) (by decide) (fun _ => rfl) rfl (fun z1301 e1302 B1303 => ?_)
                show pm_R _ 276 29 [.ref 41, .int a0, .int a1, .int z1301] [] _ _
                refine pm_R_br pm_M276 (pc' := 2) rfl rfl ?_
                exact ih_1146 _ (sf_up hN_1146 e1302 B1159 (by decide) (by decide)) z1301 (sf_weak B1303 (by decide) (by decide)) rfl
              · refine pm_R_lo pm_M277 (pc' := 114) rfl rfl rfl ?_
                refine pm_R_lo pm_M277 (pc' := 115) rfl rfl rfl ?_
                refine pm_R_lo pm_M277 (pc' := 117) rfl rfl rfl ?_
                refine pm_R_cv pm_M277 (pc' := 120) (a := 41) (ra := [.int z1229, .int a0]) (rest := []) (ls' := [.ref 41, .int a0, .int z1229, pm_no, pm_no]) rfl rfl (Or.inl rfl) pm_M278 T.2.1 rfl (by decide) (Nat.lt_of_lt_of_le (by decide) T.1) rfl rfl (Nat.le_of_ble_eq_true rfl) rfl rfl ?_
                refine rf_c278 (d := d + 0) T (sf_weak Ba0 (by decide) (by decide)) (fun r1304 => ?_)
                show pm_R _ 277 120 [.ref 41, .int a0, .int x3_1146, .int z1210, .int z1229, .int z1248] [.int r1304] _ _
                refine pm_R_ifc pm_M277 (t := 127) (pc' := 123) rfl rfl rfl (fun c1312 => ?_) (fun c1312 => ?_)
                · skip
                  refine pm_R_op pm_M277 (pc' := 128) (st' := [.int 0]) rfl rfl rfl ?_
                  refine pm_R_ret pm_M277 (r := some (.int 0)) rfl rfl ?_
                  show pm_R _ 276 21 [.ref 41, .int a0, .int a1, .int x3_1146] [.int 0] _ _
                  refine pm_R_br pm_M276 (pc' := 26) (st' := []) rfl rfl ?_
                  refine sf_R_iinc pm_M276 (pc' := 29) (ls' := fun z => [.ref 41, .int a0, .int a1, .int z]) rfl B1159 rfl (by decide) (by decide) (by decide) (fun _ => rfl) rfl (fun z1313 e1314 B1315 => ?_)
                  show pm_R _ 276 29 [.ref 41, .int a0, .int a1, .int z1313] [] _ _
                  refine pm_R_br pm_M276 (pc' := 2) rfl rfl ?_
                  exact ih_1146 _ (sf_up hN_1146 e1314 B1159 (by decide) (by decide)) z1313 (sf_weak B1315 (by decide) (by decide)) rfl
                · have B1316 : sf_B 0 0 r1304 := sf_eqL (Classical.not_not.mp c1312) sf_k0
                  refine pm_R_op pm_M277 (pc' := 124) (st' := [.int 1]) rfl rfl rfl ?_
                  refine pm_R_br pm_M277 (pc' := 128) rfl rfl ?_
                  refine pm_R_ret pm_M277 (r := some (.int 1)) rfl rfl ?_
                  show pm_R _ 276 21 [.ref 41, .int a0, .int a1, .int x3_1146] [.int 1] _ _
                  refine pm_R_br pm_M276 (pc' := 24) (st' := []) rfl rfl ?_
                  refine pm_R_lo pm_M276 (pc' := 25) rfl rfl rfl ?_
                  exact pm_R_ret pm_M276 (r := some (.int x3_1146)) rfl (pm_ret_i _) (K x3_1146 (sf_weak B1159 (by decide) (by decide)))
            have B1317 : sf_B 3 5 z1267 := sf_neL0 c1299 sf_k2 B1298
            by_cases c1318 : z1267 = 3
            · rw [c1318]
              refine pm_R_br pm_M277 (pc' := 129) (st' := []) rfl rfl ?_
              refine pm_R_lo pm_M277 (pc' := 130) rfl rfl rfl ?_
              refine pm_R_lo pm_M277 (pc' := 132) rfl rfl rfl ?_
              refine pm_R_icmp pm_M277 (t := 149) (pc' := 135) (pm_q277_1 (Nat.le_of_ble_eq_true rfl)) rfl rfl (fun c1319 => ?_) (fun c1319 => ?_)
              · skip
                refine pm_R_op pm_M277 (pc' := 150) (st' := [.int 0]) (pm_q277_1 (Nat.le_of_ble_eq_true rfl)) rfl rfl ?_
                refine pm_R_ret pm_M277 (r := some (.int 0)) (pm_q277_1 (Nat.le_of_ble_eq_true rfl)) rfl ?_
                show pm_R _ 276 21 [.ref 41, .int a0, .int a1, .int x3_1146] [.int 0] _ _
                refine pm_R_br pm_M276 (pc' := 26) (st' := []) rfl rfl ?_
                refine sf_R_iinc pm_M276 (pc' := 29) (ls' := fun z => [.ref 41, .int a0, .int a1, .int z]) rfl B1159 rfl (by decide) (by decide) (by decide) (fun _ => rfl) rfl (fun z1320 e1321 B1322 => ?_)
                show pm_R _ 276 29 [.ref 41, .int a0, .int a1, .int z1320] [] _ _
                refine pm_R_br pm_M276 (pc' := 2) rfl rfl ?_
                exact ih_1146 _ (sf_up hN_1146 e1321 B1159 (by decide) (by decide)) z1320 (sf_weak B1322 (by decide) (by decide)) rfl
              · refine pm_R_lo pm_M277 (pc' := 136) (pm_q277_1 (Nat.le_of_ble_eq_true rfl)) rfl rfl ?_
                refine pm_R_lo pm_M277 (pc' := 137) (pm_q277_1 (Nat.le_of_ble_eq_true rfl)) rfl rfl ?_
                refine pm_R_cv pm_M277 (pc' := 140) (a := 41) (ra := [.int a0]) (rest := []) (ls' := [.ref 41, .int a0, pm_no]) (pm_q277_1 (Nat.le_of_ble_eq_true rfl)) rfl (Or.inl rfl) pm_M279 T.2.1 rfl (by decide) (Nat.lt_of_lt_of_le (by decide) T.1) rfl rfl (Nat.le_of_ble_eq_true rfl) rfl rfl ?_
                refine rf_c279 (d := d + 0) T Ba0 (fun r1323 B1324 => ?_)
                show pm_R _ 277 140 [.ref 41, .int a0, .int x3_1146, .int z1210, .int z1229, .int z1248] [.int r1323] _ _
                refine pm_R_lo pm_M277 (pc' := 142) (pm_q277_1 (Nat.le_of_ble_eq_true rfl)) rfl rfl ?_
                refine pm_R_icmp pm_M277 (t := 149) (pc' := 145) (pm_q277_1 (Nat.le_of_ble_eq_true rfl)) rfl rfl (fun c1331 => ?_) (fun c1331 => ?_)
                · skip
                  refine pm_R_op pm_M277 (pc' := 150) (st' := [.int 0]) (pm_q277_1 (Nat.le_of_ble_eq_true rfl)) rfl rfl ?_
                  refine pm_R_ret pm_M277 (r := some (.int 0)) (pm_q277_1 (Nat.le_of_ble_eq_true rfl)) rfl ?_
                  show pm_R _ 276 21 [.ref 41, .int a0, .int a1, .int x3_1146] [.int 0] _ _
                  refine pm_R_br pm_M276 (pc' := 26) (st' := []) rfl rfl ?_
                  refine sf_R_iinc pm_M276 (pc' := 29) (ls' := fun z => [.ref 41, .int a0, .int a1, .int z]) rfl B1159 rfl (by decide) (by decide) (by decide) (fun _ => rfl) rfl (fun z1332 e1333 B1334 => ?_)
                  show pm_R _ 276 29 [.ref 41, .int a0, .int a1, .int z1332] [] _ _
                  refine pm_R_br pm_M276 (pc' := 2) rfl rfl ?_
                  exact ih_1146 _ (sf_up hN_1146 e1333 B1159 (by decide) (by decide)) z1332 (sf_weak B1334 (by decide) (by decide)) rfl
                · have B1335 : sf_B 0 9 r1323 := sf_eqL (Classical.not_not.mp c1331) B1232
                  refine pm_R_op pm_M277 (pc' := 146) (st' := [.int 1]) (pm_q277_1 (Nat.le_of_ble_eq_true rfl)) rfl rfl ?_
                  refine pm_R_br pm_M277 (pc' := 150) (pm_q277_1 (Nat.le_of_ble_eq_true rfl)) rfl ?_
                  refine pm_R_ret pm_M277 (r := some (.int 1)) (pm_q277_1 (Nat.le_of_ble_eq_true rfl)) rfl ?_
                  show pm_R _ 276 21 [.ref 41, .int a0, .int a1, .int x3_1146] [.int 1] _ _
                  refine pm_R_br pm_M276 (pc' := 24) (st' := []) rfl rfl ?_
                  refine pm_R_lo pm_M276 (pc' := 25) rfl rfl rfl ?_
                  exact pm_R_ret pm_M276 (r := some (.int x3_1146)) rfl (pm_ret_i _) (K x3_1146 (sf_weak B1159 (by decide) (by decide)))
            have B1336 : sf_B 4 5 z1267 := sf_neL0 c1318 sf_k3 B1317
            by_cases c1337 : z1267 = 4
            · rw [c1337]
              refine pm_R_br pm_M277 (pc' := 151) (st' := []) rfl rfl ?_
              refine pm_R_lo pm_M277 (pc' := 152) (pm_q277_1 (Nat.le_of_ble_eq_true rfl)) rfl rfl ?_
              refine pm_R_lo pm_M277 (pc' := 154) (pm_q277_1 (Nat.le_of_ble_eq_true rfl)) rfl rfl ?_
              refine pm_R_icmp pm_M277 (t := 175) (pc' := 157) (pm_q277_1 (Nat.le_of_ble_eq_true rfl)) rfl rfl (fun c1338 => ?_) (fun c1338 => ?_)
              · skip
                refine pm_R_op pm_M277 (pc' := 176) (st' := [.int 0]) (pm_q277_1 (Nat.le_of_ble_eq_true rfl)) rfl rfl ?_
                refine pm_R_ret pm_M277 (r := some (.int 0)) (pm_q277_1 (Nat.le_of_ble_eq_true rfl)) rfl ?_
                show pm_R _ 276 21 [.ref 41, .int a0, .int a1, .int x3_1146] [.int 0] _ _
                refine pm_R_br pm_M276 (pc' := 26) (st' := []) rfl rfl ?_
                refine sf_R_iinc pm_M276 (pc' := 29) (ls' := fun z => [.ref 41, .int a0, .int a1, .int z]) rfl B1159 rfl (by decide) (by decide) (by decide) (fun _ => rfl) rfl (fun z1339 e1340 B1341 => ?_)
                show pm_R _ 276 29 [.ref 41, .int a0, .int a1, .int z1339] [] _ _
                refine pm_R_br pm_M276 (pc' := 2) rfl rfl ?_
                exact ih_1146 _ (sf_up hN_1146 e1340 B1159 (by decide) (by decide)) z1339 (sf_weak B1341 (by decide) (by decide)) rfl
              · have B1342 : sf_B 0 9 z1210 := sf_eqL (Classical.not_not.mp c1338) B1232
                refine pm_R_lo pm_M277 (pc' := 158) (pm_q277_1 (Nat.le_of_ble_eq_true rfl)) rfl rfl ?_
                refine rf_R_get pm_M277 T (pc' := 161) (v := .ref 68) (pm_q277_1 (Nat.le_of_ble_eq_true rfl)) rfl rfl rfl ?_
                refine pm_R_lo pm_M277 (pc' := 162) (pm_q277_1 (Nat.le_of_ble_eq_true rfl)) rfl rfl ?_
                obtain ⟨f1343, e1344⟩ := T.2.2.2.1 68 (by decide) (by decide)
                refine rf_R_ild pm_M277 T (pc' := 163) (pm_q277_1 (Nat.le_of_ble_eq_true rfl)) e1344 (by decide) (sf_in Ba0 (by decide) (by decide)) rfl (fun z1346 ez1347 => ?_)
                refine sf_R_lany pm_M277 (pc' := 164) (st := []) (pm_q277_1 (Nat.le_of_ble_eq_true rfl)) rfl rfl (fun z1348 => ?_)
                refine pm_R_op pm_M277 (pc' := 165) (st' := [.int 0, .long z1348]) (pm_q277_1 (Nat.le_of_ble_eq_true rfl)) rfl rfl ?_
                refine pm_R_cs pm_M277 (pc' := 168) (ra := [.int 0, .long z1348]) (rest := []) (ls' := [.long z1348, pm_no, .int 0]) (pm_q277_1 (Nat.le_of_ble_eq_true rfl)) rfl (Or.inl rfl) pm_M206 rfl rfl (Nat.le_of_ble_eq_true rfl) rfl rfl ?_
                refine pm_R_lo pm_M206 (pc' := 1) rfl rfl rfl ?_
                refine pm_R_lo pm_M206 (pc' := 2) rfl rfl rfl ?_
                refine sf_R_lany pm_M206 (pc' := 3) (st := []) rfl rfl rfl (fun z1349 => ?_)
                refine pm_R_op pm_M206 (pc' := 4) (st' := [.long 1, .long z1349]) rfl rfl rfl ?_
                refine sf_R_lany pm_M206 (pc' := 5) (st := []) rfl rfl rfl (fun z1350 => ?_)
                refine pm_R_op pm_M206 (pc' := 6) (st' := [.long 1, .long z1350]) rfl rfl rfl ?_
                refine sf_R_lcmp pm_M206 (pc' := 7) rfl rfl (fun z1351 e1352 => ?_)
                refine pm_R_ifc pm_M206 (t := 14) (pc' := 10) rfl rfl rfl (fun c1353 => ?_) (fun c1353 => ?_)
                · have k1354 := sf_lneC e1352 c1353
                  refine pm_R_op pm_M206 (pc' := 15) (st' := [.int 0]) rfl rfl rfl ?_
                  refine pm_R_ret pm_M206 (r := some (.int 0)) rfl rfl ?_
                  show pm_R _ 277 168 [.ref 41, .int a0, .int x3_1146, .int z1210, .int z1229, .int z1248] [.int 0] _ _
                  refine pm_R_br pm_M277 (pc' := 175) (st' := []) (pm_q277_1 (Nat.le_of_ble_eq_true rfl)) rfl ?_
                  refine pm_R_op pm_M277 (pc' := 176) (st' := [.int 0]) (pm_q277_1 (Nat.le_of_ble_eq_true rfl)) rfl rfl ?_
                  refine pm_R_ret pm_M277 (r := some (.int 0)) (pm_q277_1 (Nat.le_of_ble_eq_true rfl)) rfl ?_
                  show pm_R _ 276 21 [.ref 41, .int a0, .int a1, .int x3_1146] [.int 0] _ _
                  refine pm_R_br pm_M276 (pc' := 26) (st' := []) rfl rfl ?_
                  refine sf_R_iinc pm_M276 (pc' := 29) (ls' := fun z => [.ref 41, .int a0, .int a1, .int z]) rfl B1159 rfl (by decide) (by decide) (by decide) (fun _ => rfl) rfl (fun z1355 e1356 B1357 => ?_)
                  show pm_R _ 276 29 [.ref 41, .int a0, .int a1, .int z1355] [] _ _
                  refine pm_R_br pm_M276 (pc' := 2) rfl rfl ?_
                  exact ih_1146 _ (sf_up hN_1146 e1356 B1159 (by decide) (by decide)) z1355 (sf_weak B1357 (by decide) (by decide)) rfl
                · have B1358 : sf_B 0 0 z1351 := sf_eqL (Classical.not_not.mp c1353) sf_k0
                  refine pm_R_op pm_M206 (pc' := 11) (st' := [.int 1]) rfl rfl rfl ?_
                  refine pm_R_br pm_M206 (pc' := 15) rfl rfl ?_
                  refine pm_R_ret pm_M206 (r := some (.int 1)) rfl rfl ?_
                  show pm_R _ 277 168 [.ref 41, .int a0, .int x3_1146, .int z1210, .int z1229, .int z1248] [.int 1] _ _
                  refine pm_R_br pm_M277 (pc' := 171) (st' := []) (pm_q277_1 (Nat.le_of_ble_eq_true rfl)) rfl ?_
                  refine pm_R_op pm_M277 (pc' := 172) (st' := [.int 1]) (pm_q277_1 (Nat.le_of_ble_eq_true rfl)) rfl rfl ?_
                  refine pm_R_br pm_M277 (pc' := 176) (pm_q277_1 (Nat.le_of_ble_eq_true rfl)) rfl ?_
                  refine pm_R_ret pm_M277 (r := some (.int 1)) (pm_q277_1 (Nat.le_of_ble_eq_true rfl)) rfl ?_
                  show pm_R _ 276 21 [.ref 41, .int a0, .int a1, .int x3_1146] [.int 1] _ _
                  refine pm_R_br pm_M276 (pc' := 24) (st' := []) rfl rfl ?_
                  refine pm_R_lo pm_M276 (pc' := 25) rfl rfl rfl ?_
                  exact pm_R_ret pm_M276 (r := some (.int x3_1146)) rfl (pm_ret_i _) (K x3_1146 (sf_weak B1159 (by decide) (by decide)))
            have B1359 : sf_B 5 5 z1267 := sf_neL0 c1337 sf_k4 B1336
            rw [sf_pt2 B1359 sf_k5]
            refine pm_R_br pm_M277 (pc' := 177) (st' := []) rfl rfl ?_
            refine pm_R_lo pm_M277 (pc' := 178) (pm_q277_1 (Nat.le_of_ble_eq_true rfl)) rfl rfl ?_
            refine pm_R_lo pm_M277 (pc' := 180) (pm_q277_1 (Nat.le_of_ble_eq_true rfl)) rfl rfl ?_
            refine pm_R_icmp pm_M277 (t := 196) (pc' := 183) (pm_q277_1 (Nat.le_of_ble_eq_true rfl)) rfl rfl (fun c1360 => ?_) (fun c1360 => ?_)
            · skip
              refine pm_R_op pm_M277 (pc' := 197) (st' := [.int 0]) (pm_q277_1 (Nat.le_of_ble_eq_true rfl)) rfl rfl ?_
              refine pm_R_ret pm_M277 (r := some (.int 0)) (pm_q277_1 (Nat.le_of_ble_eq_true rfl)) rfl ?_
              show pm_R _ 276 21 [.ref 41, .int a0, .int a1, .int x3_1146] [.int 0] _ _
              refine pm_R_br pm_M276 (pc' := 26) (st' := []) rfl rfl ?_
              refine sf_R_iinc pm_M276 (pc' := 29) (ls' := fun z => [.ref 41, .int a0, .int a1, .int z]) rfl B1159 rfl (by decide) (by decide) (by decide) (fun _ => rfl) rfl (fun z1361 e1362 B1363 => ?_)
              show pm_R _ 276 29 [.ref 41, .int a0, .int a1, .int z1361] [] _ _
              refine pm_R_br pm_M276 (pc' := 2) rfl rfl ?_
              exact ih_1146 _ (sf_up hN_1146 e1362 B1159 (by decide) (by decide)) z1361 (sf_weak B1363 (by decide) (by decide)) rfl
            · have B1364 : sf_B 0 9 z1210 := sf_eqL (Classical.not_not.mp c1360) B1232
              refine pm_R_lo pm_M277 (pc' := 184) (pm_q277_1 (Nat.le_of_ble_eq_true rfl)) rfl rfl ?_
              refine rf_R_get pm_M277 T (pc' := 187) (v := .ref 68) (pm_q277_1 (Nat.le_of_ble_eq_true rfl)) rfl rfl rfl ?_
              refine pm_R_lo pm_M277 (pc' := 188) (pm_q277_1 (Nat.le_of_ble_eq_true rfl)) rfl rfl ?_
              obtain ⟨f1365, e1366⟩ := T.2.2.2.1 68 (by decide) (by decide)
              refine rf_R_ild pm_M277 T (pc' := 189) (pm_q277_1 (Nat.le_of_ble_eq_true rfl)) e1366 (by decide) (sf_in Ba0 (by decide) (by decide)) rfl (fun z1368 ez1369 => ?_)
              refine pm_R_ifc pm_M277 (t := 196) (pc' := 192) (pm_q277_1 (Nat.le_of_ble_eq_true rfl)) rfl rfl (fun c1370 => ?_) (fun c1370 => ?_)
              · skip
                refine pm_R_op pm_M277 (pc' := 197) (st' := [.int 0]) (pm_q277_1 (Nat.le_of_ble_eq_true rfl)) rfl rfl ?_
                refine pm_R_ret pm_M277 (r := some (.int 0)) (pm_q277_1 (Nat.le_of_ble_eq_true rfl)) rfl ?_
                show pm_R _ 276 21 [.ref 41, .int a0, .int a1, .int x3_1146] [.int 0] _ _
                refine pm_R_br pm_M276 (pc' := 26) (st' := []) rfl rfl ?_
                refine sf_R_iinc pm_M276 (pc' := 29) (ls' := fun z => [.ref 41, .int a0, .int a1, .int z]) rfl B1159 rfl (by decide) (by decide) (by decide) (fun _ => rfl) rfl (fun z1371 e1372 B1373 => ?_)
                show pm_R _ 276 29 [.ref 41, .int a0, .int a1, .int z1371] [] _ _
                refine pm_R_br pm_M276 (pc' := 2) rfl rfl ?_
                exact ih_1146 _ (sf_up hN_1146 e1372 B1159 (by decide) (by decide)) z1371 (sf_weak B1373 (by decide) (by decide)) rfl
              · have B1374 : sf_B 0 0 z1368 := sf_eqL (Classical.not_not.mp c1370) sf_k0
                refine pm_R_op pm_M277 (pc' := 193) (st' := [.int 1]) (pm_q277_1 (Nat.le_of_ble_eq_true rfl)) rfl rfl ?_
                refine pm_R_br pm_M277 (pc' := 197) (pm_q277_1 (Nat.le_of_ble_eq_true rfl)) rfl ?_
                refine pm_R_ret pm_M277 (r := some (.int 1)) (pm_q277_1 (Nat.le_of_ble_eq_true rfl)) rfl ?_
                show pm_R _ 276 21 [.ref 41, .int a0, .int a1, .int x3_1146] [.int 1] _ _
                refine pm_R_br pm_M276 (pc' := 24) (st' := []) rfl rfl ?_
                refine pm_R_lo pm_M276 (pc' := 25) rfl rfl rfl ?_
                exact pm_R_ret pm_M276 (r := some (.int x3_1146)) rfl (pm_ret_i _) (K x3_1146 (sf_weak B1159 (by decide) (by decide)))
  exact L_1146 _ 0 (sf_weak sf_k0 (by decide) (by decide)) rfl

set_option maxRecDepth 100000 in
set_option maxHeartbeats 4000000 in
/-- SilentTableModel.sinsBut -/
theorem rf_c281 {d : Nat} {m : Nat → Int32} {w : Int64} {h : pm_H} {Q : Option Value → pm_H → Prop} {a0 : Int32} {a1 : Int32} (T : rf_T m w h)  (K : ∀ (r : Int32), Q (some (.int r)) h) : pm_R (d + 5) 281 0 [.ref 41, .int a0, .int a1, pm_no, pm_no] [] h Q := by
  refine pm_R_op pm_M281 (pc' := 1) (st' := [.int 0]) rfl rfl rfl ?_
  refine pm_R_lo pm_M281 (pc' := 2) (ls' := [.ref 41, .int a0, .int a1, .int 0, pm_no]) (st' := []) rfl rfl rfl ?_
  refine pm_R_op pm_M281 (pc' := 3) (st' := [.int 0]) rfl rfl rfl ?_
  refine pm_R_lo pm_M281 (pc' := 5) (ls' := [.ref 41, .int a0, .int a1, .int 0, .int 0]) (st' := []) rfl rfl rfl ?_
  have L_432 : ∀ (N : Nat) (x3_432 : Int32) (x4_432 : Int32), sf_B (-2147483648) 2147483647 x3_432 → sf_B 0 50 x4_432 → (50 - x4_432.toInt).toNat = N → pm_R (d + 5) 281 5 [.ref 41, .int a0, .int a1, .int x3_432, .int x4_432] [] h Q := by
    intro N
    induction N using Nat.strongRecOn with
    | ind N ih_432 =>
      intro x3_432 x4_432 Bx3_432 Bx4_432 hN_432
      refine pm_R_lo pm_M281 (pc' := 7) rfl rfl rfl ?_
      refine pm_R_lo pm_M281 (pc' := 8) rfl rfl rfl ?_
      have B433 : sf_B 0 50 (m 43) := T.2.2.1 43
      refine rf_R_get pm_M281 T (pc' := 11) (v := .int (m 43)) rfl rfl rfl rfl ?_
      refine pm_R_icmp pm_M281 (t := 55) (pc' := 14) rfl rfl rfl (fun c434 => ?_) (fun c434 => ?_)
      · skip
        refine pm_R_lo pm_M281 (pc' := 56) rfl rfl rfl ?_
        exact pm_R_ret pm_M281 (r := some (.int x3_432)) rfl (pm_ret_i _) (K x3_432)
      · have B435 : sf_B 0 49 x4_432 := sf_ltL (Int32.not_le.mp c434) Bx4_432 B433
        have B436 : sf_B 1 50 (m 43) := sf_ltR (Int32.not_le.mp c434) Bx4_432 B433
        refine pm_R_lo pm_M281 (pc' := 15) rfl rfl rfl ?_
        refine pm_R_lo pm_M281 (pc' := 16) rfl rfl rfl ?_
        refine pm_R_op pm_M281 (pc' := 17) (st' := [.int (-1), .int a0, .int x3_432]) rfl rfl rfl ?_
        refine pm_R_icmp pm_M281 (t := 31) (pc' := 20) rfl rfl rfl (fun c437 => ?_) (fun c437 => ?_)
        · have B438 : sf_B (-1) (-1) a0 := sf_eqL c437 sf_kn1
          refine pm_R_lo pm_M281 (pc' := 32) rfl rfl rfl ?_
          refine pm_R_lo pm_M281 (pc' := 34) rfl rfl rfl ?_
          refine pm_R_lo pm_M281 (pc' := 35) rfl rfl rfl ?_
          refine pm_R_cv pm_M281 (pc' := 38) (a := 41) (ra := [.int a1, .int x4_432]) (rest := [.int x3_432]) (ls' := [.ref 41, .int x4_432, .int a1, pm_no]) rfl rfl (Or.inl rfl) pm_M276 T.2.1 rfl (by decide) (Nat.lt_of_lt_of_le (by decide) T.1) rfl rfl (Nat.le_of_ble_eq_true rfl) rfl rfl ?_
          refine rf_c276 (d := d + 0) T B435 (fun r439 B440 => ?_)
          show pm_R _ 281 38 [.ref 41, .int a0, .int a1, .int x3_432, .int x4_432] [.int r439, .int x3_432] _ _
          refine pm_R_op pm_M281 (pc' := 39) (st' := [.int (-1), .int r439, .int x3_432]) rfl rfl rfl ?_
          refine pm_R_icmp pm_M281 (t := 46) (pc' := 42) rfl rfl rfl (fun c447 => ?_) (fun c447 => ?_)
          · have B448 : sf_B (-1) (-1) r439 := sf_eqL c447 sf_kn1
            refine pm_R_op pm_M281 (pc' := 47) (st' := [.int 0, .int x3_432]) rfl rfl rfl ?_
            refine sf_R_iadd pm_M281 (pc' := 48) rfl rfl Bx3_432 sf_k0 (by decide) (by decide) (fun z449 e450 B451 => ?_)
            refine pm_R_lo pm_M281 (pc' := 49) (ls' := [.ref 41, .int a0, .int a1, .int z449, .int x4_432]) (st' := []) rfl rfl rfl ?_
            refine sf_R_iinc pm_M281 (pc' := 52) (ls' := fun z => [.ref 41, .int a0, .int a1, .int z449, .int z]) rfl B435 rfl (by decide) (by decide) (by decide) (fun _ => rfl) rfl (fun z452 e453 B454 => ?_)
            show pm_R _ 281 52 [.ref 41, .int a0, .int a1, .int z449, .int z452] [] _ _
            refine pm_R_br pm_M281 (pc' := 5) rfl rfl ?_
            exact ih_432 _ (sf_up hN_432 e453 B435 (by decide) (by decide)) z449 z452 B451 (sf_weak B454 (by decide) (by decide)) rfl
          · have B455 : sf_B 0 7 r439 := sf_neL0 c447 sf_kn1 B440
            refine pm_R_op pm_M281 (pc' := 43) (st' := [.int 1, .int x3_432]) rfl rfl rfl ?_
            refine pm_R_br pm_M281 (pc' := 47) rfl rfl ?_
            refine sf_R_iany pm_M281 (pc' := 48) (st := []) rfl rfl rfl (fun z459 => ?_)
            refine pm_R_lo pm_M281 (pc' := 49) (ls' := [.ref 41, .int a0, .int a1, .int z459, .int x4_432]) (st' := []) rfl rfl rfl ?_
            refine sf_R_iinc pm_M281 (pc' := 52) (ls' := fun z => [.ref 41, .int a0, .int a1, .int z459, .int z]) rfl B435 rfl (by decide) (by decide) (by decide) (fun _ => rfl) rfl (fun z460 e461 B462 => ?_)
            show pm_R _ 281 52 [.ref 41, .int a0, .int a1, .int z459, .int z460] [] _ _
            refine pm_R_br pm_M281 (pc' := 5) rfl rfl ?_
            exact ih_432 _ (sf_up hN_432 e461 B435 (by decide) (by decide)) z459 z460 (sf_any z459) (sf_weak B462 (by decide) (by decide)) rfl
        · skip
          refine pm_R_lo pm_M281 (pc' := 21) rfl rfl rfl ?_
          refine pm_R_lo pm_M281 (pc' := 23) rfl rfl rfl ?_
          refine pm_R_op pm_M281 (pc' := 24) (st' := [.int 1, .int x4_432, .ref 41, .int x3_432]) rfl rfl rfl ?_
          refine pm_R_cv pm_M281 (pc' := 27) (a := 41) (ra := [.int 1, .int x4_432]) (rest := [.int x3_432]) (ls' := [.ref 41, .int x4_432, .int 1]) rfl rfl (Or.inl rfl) pm_M255 T.2.1 rfl (by decide) (Nat.lt_of_lt_of_le (by decide) T.1) rfl rfl (Nat.le_of_ble_eq_true rfl) rfl rfl ?_
          refine pm_R_lo pm_M255 (pc' := 1) rfl rfl rfl ?_
          refine rf_R_get pm_M255 T (pc' := 4) (v := .ref 49) rfl rfl rfl rfl ?_
          refine pm_R_op pm_M255 (pc' := 7) (st' := [.int 152, .ref 49]) rfl rfl rfl ?_
          refine pm_R_lo pm_M255 (pc' := 8) rfl rfl rfl ?_
          have B463 : sf_B 0 1 (m 44) := T.2.2.1 44
          refine rf_R_get pm_M255 T (pc' := 11) (v := .int (m 44)) rfl rfl rfl rfl ?_
          refine sf_R_imul pm_M255 (pc' := 12) rfl rfl sf_k152 B463 (by decide) (by decide) (by decide) (fun z464 e465 B466 => ?_)
          refine pm_R_op pm_M255 (pc' := 13) (st' := [.int 2, .int z464, .ref 49]) rfl rfl rfl ?_
          refine sf_R_iadd pm_M255 (pc' := 14) rfl rfl B466 sf_k2 (by decide) (by decide) (fun z467 e468 B469 => ?_)
          refine pm_R_op pm_M255 (pc' := 15) (st' := [.int 3, .int z467, .ref 49]) rfl rfl rfl ?_
          refine pm_R_lo pm_M255 (pc' := 16) rfl rfl rfl ?_
          refine sf_R_imul pm_M255 (pc' := 17) rfl rfl sf_k3 B435 (by decide) (by decide) (by decide) (fun z470 e471 B472 => ?_)
          refine sf_R_iadd pm_M255 (pc' := 18) rfl rfl B469 B472 (by decide) (by decide) (fun z473 e474 B475 => ?_)
          refine pm_R_lo pm_M255 (pc' := 19) rfl rfl rfl ?_
          refine sf_R_iadd pm_M255 (pc' := 20) rfl rfl B475 sf_k1 (by decide) (by decide) (fun z476 e477 B478 => ?_)
          obtain ⟨f479, e480, b481⟩ := T.2.2.2.1 49 (by decide) (by decide)
          refine rf_R_ild pm_M255 T (pc' := 21) rfl e480 (by decide) (sf_in B478 (by decide) (by decide)) rfl (fun z482 ez483 => ?_)
          have e484 : (z476).toInt = 152 * ((m 44)).toInt + 3 * (x4_432).toInt + 3 := by
            have q0 := e465
            have q1 := e468
            have q2 := e471
            have q3 := e474
            have q4 := e477
            simp only [(show (1 : Int32).toInt = 1 from rfl), (show (2 : Int32).toInt = 2 from rfl), (show (3 : Int32).toInt = 3 from rfl), (show (152 : Int32).toInt = 152 from rfl)] at q0 q1 q2 q3 q4
            omega
          have B485 : sf_B 0 5 z482 := ez483 ▸ rf_p49w b481 e484 B463 B435 (by decide) (by decide) (by decide)
          refine pm_R_ret pm_M255 (r := some (.int z482)) rfl (pm_ret_i _) ?_
          show pm_R _ 281 27 [.ref 41, .int a0, .int a1, .int x3_432, .int x4_432] [.int z482, .int x3_432] _ _
          refine pm_R_lo pm_M281 (pc' := 28) rfl rfl rfl ?_
          refine pm_R_icmp pm_M281 (t := 46) (pc' := 31) rfl rfl rfl (fun c486 => ?_) (fun c486 => ?_)
          · skip
            refine pm_R_op pm_M281 (pc' := 47) (st' := [.int 0, .int x3_432]) rfl rfl rfl ?_
            refine sf_R_iadd pm_M281 (pc' := 48) rfl rfl Bx3_432 sf_k0 (by decide) (by decide) (fun z487 e488 B489 => ?_)
            refine pm_R_lo pm_M281 (pc' := 49) (ls' := [.ref 41, .int a0, .int a1, .int z487, .int x4_432]) (st' := []) rfl rfl rfl ?_
            refine sf_R_iinc pm_M281 (pc' := 52) (ls' := fun z => [.ref 41, .int a0, .int a1, .int z487, .int z]) rfl B435 rfl (by decide) (by decide) (by decide) (fun _ => rfl) rfl (fun z490 e491 B492 => ?_)
            show pm_R _ 281 52 [.ref 41, .int a0, .int a1, .int z487, .int z490] [] _ _
            refine pm_R_br pm_M281 (pc' := 5) rfl rfl ?_
            exact ih_432 _ (sf_up hN_432 e491 B435 (by decide) (by decide)) z487 z490 B489 (sf_weak B492 (by decide) (by decide)) rfl
          · have B493 : sf_B 0 5 a0 := sf_eqR (Classical.not_not.mp c486) B485
            refine pm_R_lo pm_M281 (pc' := 32) rfl rfl rfl ?_
            refine pm_R_lo pm_M281 (pc' := 34) rfl rfl rfl ?_
            refine pm_R_lo pm_M281 (pc' := 35) rfl rfl rfl ?_
            refine pm_R_cv pm_M281 (pc' := 38) (a := 41) (ra := [.int a1, .int x4_432]) (rest := [.int x3_432]) (ls' := [.ref 41, .int x4_432, .int a1, pm_no]) rfl rfl (Or.inl rfl) pm_M276 T.2.1 rfl (by decide) (Nat.lt_of_lt_of_le (by decide) T.1) rfl rfl (Nat.le_of_ble_eq_true rfl) rfl rfl ?_
            refine rf_c276 (d := d + 0) T B435 (fun r494 B495 => ?_)
            show pm_R _ 281 38 [.ref 41, .int a0, .int a1, .int x3_432, .int x4_432] [.int r494, .int x3_432] _ _
            refine pm_R_op pm_M281 (pc' := 39) (st' := [.int (-1), .int r494, .int x3_432]) rfl rfl rfl ?_
            refine pm_R_icmp pm_M281 (t := 46) (pc' := 42) rfl rfl rfl (fun c502 => ?_) (fun c502 => ?_)
            · have B503 : sf_B (-1) (-1) r494 := sf_eqL c502 sf_kn1
              refine pm_R_op pm_M281 (pc' := 47) (st' := [.int 0, .int x3_432]) rfl rfl rfl ?_
              refine sf_R_iadd pm_M281 (pc' := 48) rfl rfl Bx3_432 sf_k0 (by decide) (by decide) (fun z504 e505 B506 => ?_)
              refine pm_R_lo pm_M281 (pc' := 49) (ls' := [.ref 41, .int a0, .int a1, .int z504, .int x4_432]) (st' := []) rfl rfl rfl ?_
              refine sf_R_iinc pm_M281 (pc' := 52) (ls' := fun z => [.ref 41, .int a0, .int a1, .int z504, .int z]) rfl B435 rfl (by decide) (by decide) (by decide) (fun _ => rfl) rfl (fun z507 e508 B509 => ?_)
              show pm_R _ 281 52 [.ref 41, .int a0, .int a1, .int z504, .int z507] [] _ _
              refine pm_R_br pm_M281 (pc' := 5) rfl rfl ?_
              exact ih_432 _ (sf_up hN_432 e508 B435 (by decide) (by decide)) z504 z507 B506 (sf_weak B509 (by decide) (by decide)) rfl
            · have B510 : sf_B 0 7 r494 := sf_neL0 c502 sf_kn1 B495
              refine pm_R_op pm_M281 (pc' := 43) (st' := [.int 1, .int x3_432]) rfl rfl rfl ?_
              refine pm_R_br pm_M281 (pc' := 47) rfl rfl ?_
              refine sf_R_iany pm_M281 (pc' := 48) (st := []) rfl rfl rfl (fun z514 => ?_)
              refine pm_R_lo pm_M281 (pc' := 49) (ls' := [.ref 41, .int a0, .int a1, .int z514, .int x4_432]) (st' := []) rfl rfl rfl ?_
              refine sf_R_iinc pm_M281 (pc' := 52) (ls' := fun z => [.ref 41, .int a0, .int a1, .int z514, .int z]) rfl B435 rfl (by decide) (by decide) (by decide) (fun _ => rfl) rfl (fun z515 e516 B517 => ?_)
              show pm_R _ 281 52 [.ref 41, .int a0, .int a1, .int z514, .int z515] [] _ _
              refine pm_R_br pm_M281 (pc' := 5) rfl rfl ?_
              exact ih_432 _ (sf_up hN_432 e516 B435 (by decide) (by decide)) z514 z515 (sf_any z514) (sf_weak B517 (by decide) (by decide)) rfl
  exact L_432 _ 0 0 (sf_weak sf_k0 (by decide) (by decide)) (sf_weak sf_k0 (by decide) (by decide)) rfl

set_option maxRecDepth 100000 in
set_option maxHeartbeats 4000000 in
/-- SilentTableModel.loudest -/
theorem rf_c292 {d : Nat} {m : Nat → Int32} {w : Int64} {h : pm_H} {Q : Option Value → pm_H → Prop}  (T : rf_T m w h)  (K : ∀ (r : Int32), sf_B (-1) 2147483647 r → Q (some (.int r)) h) : pm_R (d + 3) 292 0 [.ref 41, pm_no, pm_no, pm_no, pm_no] [] h Q := by
  refine pm_R_op pm_M292 (pc' := 1) (st' := [.int (-1)]) rfl rfl rfl ?_
  refine pm_R_lo pm_M292 (pc' := 2) (ls' := [.ref 41, .int (-1), pm_no, pm_no, pm_no]) (st' := []) rfl rfl rfl ?_
  refine pm_R_op pm_M292 (pc' := 3) (st' := [.int 0]) rfl rfl rfl ?_
  refine pm_R_lo pm_M292 (pc' := 4) (ls' := [.ref 41, .int (-1), .int 0, pm_no, pm_no]) (st' := []) rfl rfl rfl ?_
  refine pm_R_op pm_M292 (pc' := 5) (st' := [.int 0]) rfl rfl rfl ?_
  refine pm_R_lo pm_M292 (pc' := 6) (ls' := [.ref 41, .int (-1), .int 0, .int 0, pm_no]) (st' := []) rfl rfl rfl ?_
  have L_170 : ∀ (N : Nat) (x1_170 : Int32) (x2_170 : Int32) (x3_170 : Int32) (g4_170 : Value), sf_B (-1) 2147483647 x1_170 → sf_B 0 2147483647 x2_170 → sf_B 0 10 x3_170 → g4_170.category = 1 → (10 - x3_170.toInt).toNat = N → pm_R (d + 3) 292 6 [.ref 41, .int x1_170, .int x2_170, .int x3_170, g4_170] [] h Q := by
    intro N
    induction N using Nat.strongRecOn with
    | ind N ih_170 =>
      intro x1_170 x2_170 x3_170 g4_170 Bx1_170 Bx2_170 Bx3_170 Cg4_170 hN_170
      refine pm_R_lo pm_M292 (pc' := 7) rfl rfl rfl ?_
      refine pm_R_op pm_M292 (pc' := 9) (st' := [.int 10, .int x3_170]) rfl rfl rfl ?_
      refine pm_R_icmp pm_M292 (t := 54) (pc' := 12) rfl rfl rfl (fun c171 => ?_) (fun c171 => ?_)
      · have B172 : sf_B 10 10 x3_170 := sf_leR c171 sf_k10 Bx3_170
        refine pm_R_lo pm_M292 (pc' := 55) rfl rfl rfl ?_
        exact pm_R_ret pm_M292 (r := some (.int x1_170)) rfl (pm_ret_i _) (K x1_170 Bx1_170)
      · have B173 : sf_B 0 9 x3_170 := sf_ltL (Int32.not_le.mp c171) Bx3_170 sf_k10
        refine pm_R_lo pm_M292 (pc' := 13) rfl rfl rfl ?_
        refine pm_R_lo pm_M292 (pc' := 14) rfl rfl rfl ?_
        have B174 : sf_B 0 50 (m 43) := T.2.2.1 43
        refine rf_R_get pm_M292 T (pc' := 17) (v := .int (m 43)) rfl rfl rfl rfl ?_
        refine pm_R_lo pm_M292 (pc' := 18) rfl rfl rfl ?_
        refine pm_R_cv pm_M292 (pc' := 21) (a := 41) (ra := [.int x3_170, .int (m 43)]) (rest := []) (ls' := [.ref 41, .int (m 43), .int x3_170, pm_no, pm_no]) rfl rfl (Or.inl rfl) pm_M278 T.2.1 rfl (by decide) (Nat.lt_of_lt_of_le (by decide) T.1) rfl rfl (Nat.le_of_ble_eq_true rfl) rfl rfl ?_
        refine rf_c278 (d := d + 0) T B174 (fun r175 => ?_)
        show pm_R _ 292 21 [.ref 41, .int x1_170, .int x2_170, .int x3_170, g4_170] [.int r175] _ _
        refine pm_R_lo pm_M292 (pc' := 23) (ls' := [.ref 41, .int x1_170, .int x2_170, .int x3_170, .int r175]) (st' := []) rfl rfl rfl ?_
        refine pm_R_lo pm_M292 (pc' := 25) rfl rfl rfl ?_
        refine pm_R_lo pm_M292 (pc' := 26) rfl rfl rfl ?_
        refine pm_R_icmp pm_M292 (t := 33) (pc' := 29) rfl rfl rfl (fun c183 => ?_) (fun c183 => ?_)
        · skip
          refine pm_R_lo pm_M292 (pc' := 34) rfl rfl rfl ?_
          refine pm_R_lo pm_M292 (pc' := 35) (ls' := [.ref 41, .int x1_170, .int x2_170, .int x3_170, .int r175]) (st' := []) rfl rfl rfl ?_
          refine pm_R_lo pm_M292 (pc' := 37) rfl rfl rfl ?_
          refine pm_R_lo pm_M292 (pc' := 38) rfl rfl rfl ?_
          refine pm_R_icmp pm_M292 (t := 46) (pc' := 41) rfl rfl rfl (fun c184 => ?_) (fun c184 => ?_)
          · skip
            refine pm_R_lo pm_M292 (pc' := 47) rfl rfl rfl ?_
            refine pm_R_lo pm_M292 (pc' := 48) (ls' := [.ref 41, .int x1_170, .int x2_170, .int x3_170, .int r175]) (st' := []) rfl rfl rfl ?_
            refine sf_R_iinc pm_M292 (pc' := 51) (ls' := fun z => [.ref 41, .int x1_170, .int x2_170, .int z, .int r175]) rfl B173 rfl (by decide) (by decide) (by decide) (fun _ => rfl) rfl (fun z185 e186 B187 => ?_)
            show pm_R _ 292 51 [.ref 41, .int x1_170, .int x2_170, .int z185, .int r175] [] _ _
            refine pm_R_br pm_M292 (pc' := 6) rfl rfl ?_
            exact ih_170 _ (sf_up hN_170 e186 B173 (by decide) (by decide)) x1_170 x2_170 z185 (.int r175) Bx1_170 Bx2_170 (sf_weak B187 (by decide) (by decide)) rfl rfl
          · have B188 : sf_B 0 2147483646 x2_170 := sf_ltL (Int32.not_le.mp c184) Bx2_170 (sf_any r175)
            have B189 : sf_B 1 2147483647 r175 := sf_ltR (Int32.not_le.mp c184) Bx2_170 (sf_any r175)
            refine pm_R_lo pm_M292 (pc' := 43) rfl rfl rfl ?_
            refine pm_R_br pm_M292 (pc' := 47) rfl rfl ?_
            refine pm_R_lo pm_M292 (pc' := 48) (ls' := [.ref 41, .int x1_170, .int r175, .int x3_170, .int r175]) (st' := []) rfl rfl rfl ?_
            refine sf_R_iinc pm_M292 (pc' := 51) (ls' := fun z => [.ref 41, .int x1_170, .int r175, .int z, .int r175]) rfl B173 rfl (by decide) (by decide) (by decide) (fun _ => rfl) rfl (fun z190 e191 B192 => ?_)
            show pm_R _ 292 51 [.ref 41, .int x1_170, .int r175, .int z190, .int r175] [] _ _
            refine pm_R_br pm_M292 (pc' := 6) rfl rfl ?_
            exact ih_170 _ (sf_up hN_170 e191 B173 (by decide) (by decide)) x1_170 r175 z190 (.int r175) Bx1_170 (sf_weak B189 (by decide) (by decide)) (sf_weak B192 (by decide) (by decide)) rfl rfl
        · have B193 : sf_B 0 2147483646 x2_170 := sf_ltL (Int32.not_le.mp c183) Bx2_170 (sf_any r175)
          have B194 : sf_B 1 2147483647 r175 := sf_ltR (Int32.not_le.mp c183) Bx2_170 (sf_any r175)
          refine pm_R_lo pm_M292 (pc' := 30) rfl rfl rfl ?_
          refine pm_R_br pm_M292 (pc' := 34) rfl rfl ?_
          refine pm_R_lo pm_M292 (pc' := 35) (ls' := [.ref 41, .int x3_170, .int x2_170, .int x3_170, .int r175]) (st' := []) rfl rfl rfl ?_
          refine pm_R_lo pm_M292 (pc' := 37) rfl rfl rfl ?_
          refine pm_R_lo pm_M292 (pc' := 38) rfl rfl rfl ?_
          refine pm_R_icmp pm_M292 (t := 46) (pc' := 41) rfl rfl rfl (fun c195 => ?_) (fun c195 => ?_)
          · have B196 : sf_B 1 2147483646 r175 := sf_leL c195 B194 B193
            have B197 : sf_B 1 2147483646 x2_170 := sf_leR c195 B194 B193
            refine pm_R_lo pm_M292 (pc' := 47) rfl rfl rfl ?_
            refine pm_R_lo pm_M292 (pc' := 48) (ls' := [.ref 41, .int x3_170, .int x2_170, .int x3_170, .int r175]) (st' := []) rfl rfl rfl ?_
            refine sf_R_iinc pm_M292 (pc' := 51) (ls' := fun z => [.ref 41, .int x3_170, .int x2_170, .int z, .int r175]) rfl B173 rfl (by decide) (by decide) (by decide) (fun _ => rfl) rfl (fun z198 e199 B200 => ?_)
            show pm_R _ 292 51 [.ref 41, .int x3_170, .int x2_170, .int z198, .int r175] [] _ _
            refine pm_R_br pm_M292 (pc' := 6) rfl rfl ?_
            exact ih_170 _ (sf_up hN_170 e199 B173 (by decide) (by decide)) x3_170 x2_170 z198 (.int r175) (sf_weak B173 (by decide) (by decide)) (sf_weak B197 (by decide) (by decide)) (sf_weak B200 (by decide) (by decide)) rfl rfl
          · skip
            refine pm_R_lo pm_M292 (pc' := 43) rfl rfl rfl ?_
            refine pm_R_br pm_M292 (pc' := 47) rfl rfl ?_
            refine pm_R_lo pm_M292 (pc' := 48) (ls' := [.ref 41, .int x3_170, .int r175, .int x3_170, .int r175]) (st' := []) rfl rfl rfl ?_
            refine sf_R_iinc pm_M292 (pc' := 51) (ls' := fun z => [.ref 41, .int x3_170, .int r175, .int z, .int r175]) rfl B173 rfl (by decide) (by decide) (by decide) (fun _ => rfl) rfl (fun z201 e202 B203 => ?_)
            show pm_R _ 292 51 [.ref 41, .int x3_170, .int r175, .int z201, .int r175] [] _ _
            refine pm_R_br pm_M292 (pc' := 6) rfl rfl ?_
            exact ih_170 _ (sf_up hN_170 e202 B173 (by decide) (by decide)) x3_170 r175 z201 (.int r175) (sf_weak B173 (by decide) (by decide)) (sf_weak B194 (by decide) (by decide)) (sf_weak B203 (by decide) (by decide)) rfl rfl
  exact L_170 _ (-1) 0 0 (pm_no) (sf_weak sf_kn1 (by decide) (by decide)) (sf_weak sf_k0 (by decide) (by decide)) (sf_weak sf_k0 (by decide) (by decide)) rfl rfl

set_option maxRecDepth 100000 in
set_option maxHeartbeats 4000000 in
/-- SilentTableModel.nearAt -/
theorem rf_c286 {d : Nat} {m : Nat → Int32} {w : Int64} {h : pm_H} {Q : Option Value → pm_H → Prop} {a0 : Int32} {a1 : Int32} (T : rf_T m w h) (Ba0 : sf_B 0 9 a0) (K : ∀ (r : Int32), sf_B 0 9 r → Q (some (.int r)) h) : pm_R (d + 1) 286 0 [.ref 41, .int a0, .int a1, pm_no, pm_no] [] h Q := by
  refine pm_R_lo pm_M286 (pc' := 1) rfl rfl rfl ?_
  refine pm_R_lo pm_M286 (pc' := 2) (ls' := [.ref 41, .int a0, .int a1, .int a1, pm_no]) (st' := []) rfl rfl rfl ?_
  refine pm_R_op pm_M286 (pc' := 3) (st' := [.int 0]) rfl rfl rfl ?_
  refine pm_R_lo pm_M286 (pc' := 5) (ls' := [.ref 41, .int a0, .int a1, .int a1, .int 0]) (st' := []) rfl rfl rfl ?_
  have L_200 : ∀ (N : Nat) (x3_200 : Int32) (x4_200 : Int32), sf_B (-2147483648) 2147483647 x3_200 → sf_B 0 10 x4_200 → (10 - x4_200.toInt).toNat = N → pm_R (d + 1) 286 5 [.ref 41, .int a0, .int a1, .int x3_200, .int x4_200] [] h Q := by
    intro N
    induction N using Nat.strongRecOn with
    | ind N ih_200 =>
      intro x3_200 x4_200 Bx3_200 Bx4_200 hN_200
      refine pm_R_lo pm_M286 (pc' := 7) rfl rfl rfl ?_
      refine pm_R_op pm_M286 (pc' := 9) (st' := [.int 10, .int x4_200]) rfl rfl rfl ?_
      refine pm_R_icmp pm_M286 (t := 42) (pc' := 12) rfl rfl rfl (fun c201 => ?_) (fun c201 => ?_)
      · have B202 : sf_B 10 10 x4_200 := sf_leR c201 sf_k10 Bx4_200
        refine pm_R_lo pm_M286 (pc' := 43) rfl rfl rfl ?_
        exact pm_R_ret pm_M286 (r := some (.int a0)) rfl (pm_ret_i _) (K a0 Ba0)
      · have B203 : sf_B 0 9 x4_200 := sf_ltL (Int32.not_le.mp c201) Bx4_200 sf_k10
        refine pm_R_lo pm_M286 (pc' := 13) rfl rfl rfl ?_
        refine pm_R_lo pm_M286 (pc' := 14) rfl rfl rfl ?_
        refine pm_R_cv pm_M286 (pc' := 17) (a := 41) (ra := [.int a0]) (rest := []) (ls' := [.ref 41, .int a0]) rfl rfl (Or.inl rfl) pm_M236 T.2.1 rfl (by decide) (Nat.lt_of_lt_of_le (by decide) T.1) rfl rfl (Nat.le_of_ble_eq_true rfl) rfl rfl ?_
        refine pm_R_lo pm_M236 (pc' := 1) rfl rfl rfl ?_
        refine rf_R_get pm_M236 T (pc' := 4) (v := .ref 47) rfl rfl rfl rfl ?_
        refine pm_R_op pm_M236 (pc' := 6) (st' := [.int 100, .ref 47]) rfl rfl rfl ?_
        refine pm_R_lo pm_M236 (pc' := 7) rfl rfl rfl ?_
        have B204 : sf_B 0 1 (m 23) := T.2.2.1 23
        refine rf_R_get pm_M236 T (pc' := 10) (v := .int (m 23)) rfl rfl rfl rfl ?_
        refine sf_R_imul pm_M236 (pc' := 11) rfl rfl sf_k100 B204 (by decide) (by decide) (by decide) (fun z205 e206 B207 => ?_)
        refine pm_R_op pm_M236 (pc' := 13) (st' := [.int 90, .int z205, .ref 47]) rfl rfl rfl ?_
        refine sf_R_iadd pm_M236 (pc' := 14) rfl rfl B207 sf_k90 (by decide) (by decide) (fun z208 e209 B210 => ?_)
        refine pm_R_lo pm_M236 (pc' := 15) rfl rfl rfl ?_
        refine sf_R_iadd pm_M236 (pc' := 16) rfl rfl B210 Ba0 (by decide) (by decide) (fun z211 e212 B213 => ?_)
        obtain ⟨f214, e215, b216⟩ := T.2.2.2.1 47 (by decide) (by decide)
        refine rf_R_ild pm_M236 T (pc' := 17) rfl e215 (by decide) (sf_in B213 (by decide) (by decide)) rfl (fun z217 ez218 => ?_)
        have e219 : (z211).toInt = 100 * ((m 23)).toInt + 1 * (a0).toInt + 90 := by
          have q0 := e206
          have q1 := e209
          have q2 := e212
          simp only [(show (90 : Int32).toInt = 90 from rfl), (show (100 : Int32).toInt = 100 from rfl)] at q0 q1 q2
          omega
        have B220 : sf_B 0 1023 z217 := ez218 ▸ rf_p47n b216 e219 B204 Ba0 (by decide) (by decide) (by decide)
        refine pm_R_ret pm_M236 (r := some (.int z217)) rfl (pm_ret_i _) ?_
        show pm_R _ 286 17 [.ref 41, .int a0, .int a1, .int x3_200, .int x4_200] [.int z217] _ _
        refine sf_R_i2l pm_M286 (pc' := 18) rfl rfl B220 (fun z221 e222 B223 => ?_)
        refine pm_R_lo pm_M286 (pc' := 20) rfl rfl rfl ?_
        refine pm_R_cs pm_M286 (pc' := 23) (ra := [.int x4_200, .long z221]) (rest := []) (ls' := [.long z221, pm_no, .int x4_200]) rfl rfl (Or.inl rfl) pm_M206 rfl rfl (Nat.le_of_ble_eq_true rfl) rfl rfl ?_
        refine pm_R_lo pm_M206 (pc' := 1) rfl rfl rfl ?_
        refine pm_R_lo pm_M206 (pc' := 2) rfl rfl rfl ?_
        refine sf_R_lany pm_M206 (pc' := 3) (st := []) rfl rfl rfl (fun z224 => ?_)
        refine pm_R_op pm_M206 (pc' := 4) (st' := [.long 1, .long z224]) rfl rfl rfl ?_
        refine sf_R_lany pm_M206 (pc' := 5) (st := []) rfl rfl rfl (fun z225 => ?_)
        refine pm_R_op pm_M206 (pc' := 6) (st' := [.long 1, .long z225]) rfl rfl rfl ?_
        refine sf_R_lcmp pm_M206 (pc' := 7) rfl rfl (fun z226 e227 => ?_)
        refine pm_R_ifc pm_M206 (t := 14) (pc' := 10) rfl rfl rfl (fun c228 => ?_) (fun c228 => ?_)
        · have k229 := sf_lneC e227 c228
          refine pm_R_op pm_M206 (pc' := 15) (st' := [.int 0]) rfl rfl rfl ?_
          refine pm_R_ret pm_M206 (r := some (.int 0)) rfl rfl ?_
          show pm_R _ 286 23 [.ref 41, .int a0, .int a1, .int x3_200, .int x4_200] [.int 0] _ _
          refine pm_R_br pm_M286 (pc' := 36) (st' := []) rfl rfl ?_
          refine sf_R_iinc pm_M286 (pc' := 39) (ls' := fun z => [.ref 41, .int a0, .int a1, .int x3_200, .int z]) rfl B203 rfl (by decide) (by decide) (by decide) (fun _ => rfl) rfl (fun z230 e231 B232 => ?_)
          show pm_R _ 286 39 [.ref 41, .int a0, .int a1, .int x3_200, .int z230] [] _ _
          refine pm_R_br pm_M286 (pc' := 5) rfl rfl ?_
          exact ih_200 _ (sf_up hN_200 e231 B203 (by decide) (by decide)) x3_200 z230 Bx3_200 (sf_weak B232 (by decide) (by decide)) rfl
        · have B233 : sf_B 0 0 z226 := sf_eqL (Classical.not_not.mp c228) sf_k0
          refine pm_R_op pm_M206 (pc' := 11) (st' := [.int 1]) rfl rfl rfl ?_
          refine pm_R_br pm_M206 (pc' := 15) rfl rfl ?_
          refine pm_R_ret pm_M206 (r := some (.int 1)) rfl rfl ?_
          show pm_R _ 286 23 [.ref 41, .int a0, .int a1, .int x3_200, .int x4_200] [.int 1] _ _
          refine pm_R_br pm_M286 (pc' := 26) (st' := []) rfl rfl ?_
          refine sf_R_iincA pm_M286 (pc' := 29) (ls' := fun z => [.ref 41, .int a0, .int a1, .int z, .int x4_200]) rfl rfl (fun _ => rfl) rfl (fun z234 => ?_)
          show pm_R _ 286 29 [.ref 41, .int a0, .int a1, .int z234, .int x4_200] [] _ _
          refine pm_R_lo pm_M286 (pc' := 30) rfl rfl rfl ?_
          refine pm_R_ifc pm_M286 (t := 36) (pc' := 33) rfl rfl rfl (fun c235 => ?_) (fun c235 => ?_)
          · skip
            refine sf_R_iinc pm_M286 (pc' := 39) (ls' := fun z => [.ref 41, .int a0, .int a1, .int z234, .int z]) rfl B203 rfl (by decide) (by decide) (by decide) (fun _ => rfl) rfl (fun z236 e237 B238 => ?_)
            show pm_R _ 286 39 [.ref 41, .int a0, .int a1, .int z234, .int z236] [] _ _
            refine pm_R_br pm_M286 (pc' := 5) rfl rfl ?_
            exact ih_200 _ (sf_up hN_200 e237 B203 (by decide) (by decide)) z234 z236 (sf_any z234) (sf_weak B238 (by decide) (by decide)) rfl
          · have B239 : sf_B 0 0 z234 := sf_eqL (Classical.not_not.mp c235) sf_k0
            refine pm_R_lo pm_M286 (pc' := 35) rfl rfl rfl ?_
            exact pm_R_ret pm_M286 (r := some (.int x4_200)) rfl (pm_ret_i _) (K x4_200 B203)
  exact L_200 _ a1 0 (sf_any a1) (sf_weak sf_k0 (by decide) (by decide)) rfl

set_option maxRecDepth 100000 in
set_option maxHeartbeats 4000000 in
/-- SilentTableModel.known -/
theorem rf_c263 {d : Nat} {m : Nat → Int32} {w : Int64} {h : pm_H} {Q : Option Value → pm_H → Prop} {a0 : Int32} (T : rf_T m w h) (Ba0 : sf_B 0 1 a0) (K : ∀ (r : Int64) (m' : Nat → Int32) (w' : Int64) (h' : pm_H), rf_T m' w' h' → rf_G [41, 53, 54] h h' → rf_W [23, 24, 26] m m' → Q (some (.long r)) h') : pm_R (d + 6) 263 0 [.ref 41, .int a0, pm_no] [] h Q := by
  refine pm_R_lo pm_M263 (pc' := 1) rfl rfl rfl ?_
  have B1 : sf_B 0 50 (m 47) := T.2.2.1 47
  refine rf_R_get pm_M263 T (pc' := 4) (v := .int (m 47)) rfl rfl rfl rfl ?_
  refine pm_R_op pm_M263 (pc' := 5) (st' := [.int 1, .int (m 47)]) rfl rfl rfl ?_
  refine pm_R_op pm_M263 (pc' := 7) (st' := [.int 12, .int 1, .int (m 47)]) rfl rfl rfl ?_
  refine pm_R_cs pm_M263 (pc' := 10) (ra := [.int 12, .int 1, .int (m 47)]) (rest := []) (ls' := [.int (m 47), .int 1, .int 12]) rfl rfl (Or.inl rfl) pm_M174 rfl rfl (Nat.le_of_ble_eq_true rfl) rfl rfl ?_
  refine pm_R_lo pm_M174 (pc' := 1) rfl rfl rfl ?_
  refine pm_R_lo pm_M174 (pc' := 2) rfl rfl rfl ?_
  refine pm_R_icmp pm_M174 (t := 14) (pc' := 5) rfl rfl rfl (fun c2 => ?_) (fun c2 => ?_)
  · have B3 : sf_B 0 0 (m 47) := sf_ltL c2 B1 sf_k1
    refine pm_R_op pm_M174 (pc' := 15) (st' := [.int 0]) rfl rfl rfl ?_
    refine pm_R_ret pm_M174 (r := some (.int 0)) rfl rfl ?_
    show pm_R _ 263 10 [.ref 41, .int a0, pm_no] [.int 0] _ _
    refine pm_R_br pm_M263 (pc' := 13) (st' := []) rfl rfl ?_
    refine pm_R_op pm_M263 (pc' := 14) (st' := [.long 0]) rfl rfl rfl ?_
    exact pm_R_ret pm_M263 (r := some (.long 0)) rfl rfl (K 0 m w h T (rf_G.refl [41, 53, 54] h) (rf_W.refl [23, 24, 26] m))
  · have B4 : sf_B 1 50 (m 47) := sf_leR (Int32.not_lt.mp c2) sf_k1 B1
    refine pm_R_lo pm_M174 (pc' := 6) rfl rfl rfl ?_
    refine pm_R_lo pm_M174 (pc' := 7) rfl rfl rfl ?_
    refine pm_R_icmp pm_M174 (t := 14) (pc' := 10) rfl rfl rfl (fun c5 => ?_) (fun c5 => ?_)
    · have B6 : sf_B 13 50 (m 47) := sf_ltR c5 sf_k12 B4
      refine pm_R_op pm_M174 (pc' := 15) (st' := [.int 0]) rfl rfl rfl ?_
      refine pm_R_ret pm_M174 (r := some (.int 0)) rfl rfl ?_
      show pm_R _ 263 10 [.ref 41, .int a0, pm_no] [.int 0] _ _
      refine pm_R_br pm_M263 (pc' := 13) (st' := []) rfl rfl ?_
      refine pm_R_op pm_M263 (pc' := 14) (st' := [.long 0]) rfl rfl rfl ?_
      exact pm_R_ret pm_M263 (r := some (.long 0)) rfl rfl (K 0 m w h T (rf_G.refl [41, 53, 54] h) (rf_W.refl [23, 24, 26] m))
    · have B7 : sf_B 1 12 (m 47) := sf_leL (Int32.not_lt.mp c5) B4 sf_k12
      refine pm_R_op pm_M174 (pc' := 11) (st' := [.int 1]) rfl rfl rfl ?_
      refine pm_R_br pm_M174 (pc' := 15) rfl rfl ?_
      refine pm_R_ret pm_M174 (r := some (.int 1)) rfl rfl ?_
      show pm_R _ 263 10 [.ref 41, .int a0, pm_no] [.int 1] _ _
      refine pm_R_br pm_M263 (pc' := 15) (st' := []) rfl rfl ?_
      refine pm_R_lo pm_M263 (pc' := 16) rfl rfl rfl ?_
      refine pm_R_lo pm_M263 (pc' := 17) rfl rfl rfl ?_
      refine rf_R_put pm_M263 T (pc' := 20) rfl rfl rfl (by decide) rfl rfl Ba0 rfl rfl (fun h8 m11 em12 T9 F10 => ?_)
      have F13 := (rf_G.refl [41, 53, 54] h).trans F10 (by decide)
      have B14 : sf_B 1 12 (m11 47) := by rw [em12]; exact B7
      have B15 : sf_B 0 1 (m11 23) := by rw [em12]; exact Ba0
      have ek16 : (m11 23).toInt = (a0).toInt := by rw [em12]; rfl
      have W17 : rf_W [23, 24, 26] m m11 := by rw [em12]; exact (rf_W.refl [23, 24, 26] m).put (by decide)
      refine pm_R_lo pm_M263 (pc' := 21) rfl rfl rfl ?_
      refine pm_R_lo pm_M263 (pc' := 22) rfl rfl rfl ?_
      refine rf_R_get pm_M263 T9 (pc' := 25) (v := .int (m11 47)) rfl rfl rfl rfl ?_
      refine rf_R_put pm_M263 T9 (pc' := 28) rfl rfl rfl (by decide) rfl rfl (sf_weak B14 (by decide) (by decide)) rfl rfl (fun h18 m21 em22 T19 F20 => ?_)
      have F23 := F13.trans F20 (by decide)
      have B24 : sf_B 1 12 (m21 47) := by rw [em22]; exact B14
      have B25 : sf_B 1 12 (m21 24) := by rw [em22]; exact B14
      have ek26 : (m21 24).toInt = ((m11 47)).toInt := by rw [em22]; rfl
      have W27 : rf_W [23, 24, 26] m m21 := by rw [em22]; exact W17.put (by decide)
      refine pm_R_lo pm_M263 (pc' := 29) rfl rfl rfl ?_
      refine pm_R_op pm_M263 (pc' := 30) (st' := [.int (-1), .ref 41]) rfl rfl rfl ?_
      refine rf_R_put pm_M263 T19 (pc' := 33) rfl rfl rfl (by decide) rfl rfl (sf_weak sf_kn1 (by decide) (by decide)) rfl rfl (fun h28 m31 em32 T29 F30 => ?_)
      have F33 := F23.trans F30 (by decide)
      have B34 : sf_B 1 12 (m31 47) := by rw [em32]; exact B24
      have B35 : sf_B 1 12 (m31 24) := by rw [em32]; exact B25
      have ek36 : (m31 24).toInt = ((m11 47)).toInt := by rw [em32]; exact ek26
      have B37 : sf_B (-1) (-1) (m31 26) := by rw [em32]; exact sf_kn1
      have W39 : rf_W [23, 24, 26] m m31 := by rw [em32]; exact W27.put (by decide)
      refine pm_R_op pm_M263 (pc' := 34) (st' := [.int 0]) rfl rfl rfl ?_
      refine pm_R_lo pm_M263 (pc' := 35) (ls' := [.ref 41, .int a0, .int 0]) (st' := []) rfl rfl rfl ?_
      have L_264 : ∀ (N : Nat) (h_264 : pm_H) (m_264 : Nat → Int32) (w_264 : Int64) (x2_264 : Int32), rf_T m_264 w_264 h_264 → rf_G [41, 53, 54] h h_264 → rf_W [] m31 m_264 → sf_B 0 12 x2_264 → (12 - x2_264.toInt).toNat = N → pm_R (d + 6) 263 35 [.ref 41, .int a0, .int x2_264] [] h_264 Q := by
        intro N
        induction N using Nat.strongRecOn with
        | ind N ih_264 =>
          intro h_264 m_264 w_264 x2_264 T_264 F_264 W_264 Bx2_264 hN_264
          have B267 : sf_B 1 12 (m_264 47) := by rw [W_264 47 (by decide)]; exact B34
          have B268 : sf_B 1 12 (m_264 24) := by rw [W_264 24 (by decide)]; exact B35
          have ek269 : (m_264 24).toInt = ((m11 47)).toInt := by rw [W_264 24 (by decide)]; exact ek36
          have B270 : sf_B (-1) (-1) (m_264 26) := by rw [W_264 26 (by decide)]; exact B37
          have W271 : rf_W [23, 24, 26] m m_264 := W39.trans W_264 (by decide)
          refine pm_R_lo pm_M263 (pc' := 36) rfl rfl rfl ?_
          refine pm_R_lo pm_M263 (pc' := 37) rfl rfl rfl ?_
          refine rf_R_get pm_M263 T_264 (pc' := 40) (v := .int (m_264 24)) rfl rfl rfl rfl ?_
          refine pm_R_icmp pm_M263 (t := 63) (pc' := 43) rfl rfl rfl (fun c272 => ?_) (fun c272 => ?_)
          · have B273 : sf_B 1 12 x2_264 := sf_leR c272 B268 Bx2_264
            refine pm_R_lo pm_M263 (pc' := 64) rfl rfl rfl ?_
            refine pm_R_cv pm_M263 (pc' := 67) (a := 41) (ra := []) (rest := []) (ls' := [.ref 41]) rfl rfl (Or.inl rfl) pm_M215 T_264.2.1 rfl (by decide) (Nat.lt_of_lt_of_le (by decide) T_264.1) rfl rfl (Nat.le_of_ble_eq_true rfl) rfl rfl ?_
            refine rf_c215 (d := d + 0) T_264 B268 (fun r274 m276 w277 h278 T279 F280 W281 => ?_)
            have F282 := F_264.trans F280 (by decide)
            have B283 : sf_B 1 12 (m276 47) := by rw [W281 47 (by decide)]; exact B267
            have B284 : sf_B 1 12 (m276 24) := by rw [W281 24 (by decide)]; exact B268
            have ek285 : (m276 24).toInt = ((m11 47)).toInt := by rw [W281 24 (by decide)]; exact ek269
            have B286 : sf_B (-1) (-1) (m276 26) := by rw [W281 26 (by decide)]; exact B270
            have W287 : rf_W [23, 24, 26] m m276 := W271.trans W281 (by decide)
            have W288 : rf_W [] m31 m276 := W_264.trans W281 (by decide)
            show pm_R _ 263 67 [.ref 41, .int a0, .int x2_264] [.long r274] _ _
            exact pm_R_ret pm_M263 (r := some (.long r274)) rfl rfl (K r274 m276 w277 h278 T279 F282 W287)
          · have B289 : sf_B 0 11 x2_264 := sf_ltL (Int32.not_le.mp c272) Bx2_264 B268
            refine pm_R_lo pm_M263 (pc' := 44) rfl rfl rfl ?_
            refine rf_R_get pm_M263 T_264 (pc' := 47) (v := .ref 53) rfl rfl rfl rfl ?_
            refine pm_R_lo pm_M263 (pc' := 48) rfl rfl rfl ?_
            refine pm_R_op pm_M263 (pc' := 49) (st' := [.int 1, .int x2_264, .ref 53]) rfl rfl rfl ?_
            refine pm_R_lo pm_M263 (pc' := 50) rfl rfl rfl ?_
            refine rf_R_get pm_M263 T_264 (pc' := 53) (v := .ref 69) rfl rfl rfl rfl ?_
            refine pm_R_lo pm_M263 (pc' := 54) rfl rfl rfl ?_
            obtain ⟨f290, e291⟩ := T_264.2.2.2.1 69 (by decide) (by decide)
            refine rf_R_ild pm_M263 T_264 (pc' := 55) rfl e291 (by decide) (sf_in B289 (by decide) (by decide)) rfl (fun z293 ez294 => ?_)
            refine sf_R_iany pm_M263 (pc' := 56) (st := [.int x2_264, .ref 53]) rfl rfl rfl (fun z298 => ?_)
            obtain ⟨f299, e300⟩ := T_264.2.2.2.1 53 (by decide) (by decide)
            refine rf_R_ist pm_M263 T_264 (pc' := 57) rfl e300 (by decide) (by decide) (sf_in B289 (by decide) (by decide)) ⟨_, rfl⟩ rfl (fun h302 T303 F304 e305 => ?_)
            have F306 := F_264.trans F304 (by decide)
            refine sf_R_iinc pm_M263 (pc' := 60) (ls' := fun z => [.ref 41, .int a0, .int z]) rfl B289 rfl (by decide) (by decide) (by decide) (fun _ => rfl) rfl (fun z307 e308 B309 => ?_)
            show pm_R _ 263 60 [.ref 41, .int a0, .int z307] [] _ _
            refine pm_R_br pm_M263 (pc' := 35) rfl rfl ?_
            exact ih_264 _ (sf_up hN_264 e308 B289 (by decide) (by decide)) h302 m_264 w_264 z307 T303 F306 W_264 (sf_weak B309 (by decide) (by decide)) rfl
      exact L_264 _ h28 m31 w 0 T29 F33 (rf_W.refl _ _) (sf_weak sf_k0 (by decide) (by decide)) rfl

set_option maxRecDepth 100000 in
set_option maxHeartbeats 4000000 in
/-- SilentTableModel.findCaught -/
theorem rf_c261 {d : Nat} {m : Nat → Int32} {w : Int64} {h : pm_H} {Q : Option Value → pm_H → Prop} {a0 : Int32} {a1 : Int32} {a2 : Int32} (T : rf_T m w h)  (K : ∀ (r : Int32) (m' : Nat → Int32) (w' : Int64) (h' : pm_H), rf_T m' w' h' → rf_G [41, 67, 68, 69] h h' → rf_W [42, 43, 44, 47] m m' → sf_B 0 1 r → Q (some (.int r)) h') : pm_R (d + 3) 261 0 [.ref 41, .int a0, .int a1, .int a2, pm_no] [] h Q := by
  refine pm_R_lo pm_M261 (pc' := 1) rfl rfl rfl ?_
  refine pm_R_lo pm_M261 (pc' := 2) rfl rfl rfl ?_
  refine pm_R_cv pm_M261 (pc' := 5) (a := 41) (ra := [.int a0]) (rest := []) (ls' := [.ref 41, .int a0, pm_no, pm_no, pm_no, pm_no]) rfl rfl (Or.inl rfl) pm_M254 T.2.1 rfl (by decide) (Nat.lt_of_lt_of_le (by decide) T.1) rfl rfl (Nat.le_of_ble_eq_true rfl) rfl rfl ?_
  refine rf_c254 (d := d + 0) T  (fun r1 m3 w4 h5 T6 F7 W8 B2 => ?_)
  have F9 := (rf_G.refl [41, 67, 68, 69] h).trans F7 (by decide)
  have W10 : rf_W [42, 43, 44, 47] m m3 := (rf_W.refl [42, 43, 44, 47] m).trans W8 (by decide)
  show pm_R _ 261 5 [.ref 41, .int a0, .int a1, .int a2, pm_no] [.int r1] _ _
  refine pm_R_ifc pm_M261 (t := 34) (pc' := 8) rfl rfl rfl (fun c11 => ?_) (fun c11 => ?_)
  · have B12 : sf_B 0 0 r1 := sf_eqL c11 sf_k0
    refine pm_R_op pm_M261 (pc' := 35) (st' := [.int 0]) rfl rfl rfl ?_
    exact pm_R_ret pm_M261 (r := some (.int 0)) rfl rfl (K 0 m3 w4 h5 T6 F9 W10 (sf_weak sf_k0 (by decide) (by decide)))
  · have B13 : sf_B 1 1 r1 := sf_neL0 c11 sf_k0 B2
    refine pm_R_lo pm_M261 (pc' := 9) rfl rfl rfl ?_
    refine pm_R_lo pm_M261 (pc' := 10) rfl rfl rfl ?_
    refine pm_R_cv pm_M261 (pc' := 13) (a := 41) (ra := [.int a2]) (rest := []) (ls' := [.ref 41, .int a2]) rfl rfl (Or.inl rfl) pm_M259 T6.2.1 rfl (by decide) (Nat.lt_of_lt_of_le (by decide) T6.1) rfl rfl (Nat.le_of_ble_eq_true rfl) rfl rfl ?_
    refine pm_R_lo pm_M259 (pc' := 1) rfl rfl rfl ?_
    refine pm_R_op pm_M259 (pc' := 2) (st' := [.int 0, .int a2]) rfl rfl rfl ?_
    refine pm_R_lo pm_M259 (pc' := 3) rfl rfl rfl ?_
    have B14 : sf_B 0 6 (m3 42) := T6.2.2.1 42
    refine rf_R_get pm_M259 T6 (pc' := 6) (v := .int (m3 42)) rfl rfl rfl rfl ?_
    refine pm_R_op pm_M259 (pc' := 7) (st' := [.int 1, .int (m3 42), .int 0, .int a2]) rfl rfl rfl ?_
    refine sf_R_isub pm_M259 (pc' := 8) rfl rfl B14 sf_k1 (by decide) (by decide) (fun z15 e16 B17 => ?_)
    refine pm_R_cs pm_M259 (pc' := 11) (ra := [.int z15, .int 0, .int a2]) (rest := []) (ls' := [.int a2, .int 0, .int z15]) rfl rfl (Or.inl rfl) pm_M174 rfl rfl (Nat.le_of_ble_eq_true rfl) rfl rfl ?_
    refine pm_R_lo pm_M174 (pc' := 1) rfl rfl rfl ?_
    refine pm_R_lo pm_M174 (pc' := 2) rfl rfl rfl ?_
    refine pm_R_icmp pm_M174 (t := 14) (pc' := 5) rfl rfl rfl (fun c18 => ?_) (fun c18 => ?_)
    · have B19 : sf_B (-2147483648) (-1) a2 := sf_ltL c18 (sf_any a2) sf_k0
      refine pm_R_op pm_M174 (pc' := 15) (st' := [.int 0]) rfl rfl rfl ?_
      refine pm_R_ret pm_M174 (r := some (.int 0)) rfl rfl ?_
      show pm_R _ 259 11 [.ref 41, .int a2] [.int 0] _ _
      refine pm_R_ret pm_M259 (r := some (.int 0)) rfl rfl ?_
      show pm_R _ 261 13 [.ref 41, .int a0, .int a1, .int a2, pm_no] [.int 0] _ _
      refine pm_R_br pm_M261 (pc' := 34) (st' := []) rfl rfl ?_
      refine pm_R_op pm_M261 (pc' := 35) (st' := [.int 0]) rfl rfl rfl ?_
      exact pm_R_ret pm_M261 (r := some (.int 0)) rfl rfl (K 0 m3 w4 h5 T6 F9 W10 (sf_weak sf_k0 (by decide) (by decide)))
    · have B20 : sf_B 0 2147483647 a2 := sf_leR (Int32.not_lt.mp c18) sf_k0 (sf_any a2)
      refine pm_R_lo pm_M174 (pc' := 6) rfl rfl rfl ?_
      refine pm_R_lo pm_M174 (pc' := 7) rfl rfl rfl ?_
      refine pm_R_icmp pm_M174 (t := 14) (pc' := 10) rfl rfl rfl (fun c21 => ?_) (fun c21 => ?_)
      · skip
        refine pm_R_op pm_M174 (pc' := 15) (st' := [.int 0]) rfl rfl rfl ?_
        refine pm_R_ret pm_M174 (r := some (.int 0)) rfl rfl ?_
        show pm_R _ 259 11 [.ref 41, .int a2] [.int 0] _ _
        refine pm_R_ret pm_M259 (r := some (.int 0)) rfl rfl ?_
        show pm_R _ 261 13 [.ref 41, .int a0, .int a1, .int a2, pm_no] [.int 0] _ _
        refine pm_R_br pm_M261 (pc' := 34) (st' := []) rfl rfl ?_
        refine pm_R_op pm_M261 (pc' := 35) (st' := [.int 0]) rfl rfl rfl ?_
        exact pm_R_ret pm_M261 (r := some (.int 0)) rfl rfl (K 0 m3 w4 h5 T6 F9 W10 (sf_weak sf_k0 (by decide) (by decide)))
      · have B22 : sf_B 0 5 a2 := sf_leL (Int32.not_lt.mp c21) B20 B17
        have B23 : sf_B 0 5 z15 := sf_leR (Int32.not_lt.mp c21) B20 B17
        refine pm_R_op pm_M174 (pc' := 11) (st' := [.int 1]) rfl rfl rfl ?_
        refine pm_R_br pm_M174 (pc' := 15) rfl rfl ?_
        refine pm_R_ret pm_M174 (r := some (.int 1)) rfl rfl ?_
        show pm_R _ 259 11 [.ref 41, .int a2] [.int 1] _ _
        refine pm_R_ret pm_M259 (r := some (.int 1)) rfl rfl ?_
        show pm_R _ 261 13 [.ref 41, .int a0, .int a1, .int a2, pm_no] [.int 1] _ _
        refine pm_R_br pm_M261 (pc' := 16) (st' := []) rfl rfl ?_
        refine pm_R_lo pm_M261 (pc' := 17) rfl rfl rfl ?_
        refine pm_R_op pm_M261 (pc' := 18) (st' := [.int (-1), .int a1]) rfl rfl rfl ?_
        refine pm_R_icmp pm_M261 (t := 29) (pc' := 21) rfl rfl rfl (fun c24 => ?_) (fun c24 => ?_)
        · have B25 : sf_B (-1) (-1) a1 := sf_eqL c24 sf_kn1
          refine pm_R_lo pm_M261 (pc' := 30) rfl rfl rfl ?_
          refine pm_R_lo pm_M261 (pc' := 31) rfl rfl rfl ?_
          refine pm_R_icmp pm_M261 (t := 36) (pc' := 34) rfl rfl rfl (fun c26 => ?_) (fun c26 => absurd (Classical.not_not.mp c26) (sf_neq2 B25 B22 (by decide)))
          skip
          refine pm_R_lo pm_M261 (pc' := 37) rfl rfl rfl ?_
          refine pm_R_op pm_M261 (pc' := 38) (st' := [.int 0, .ref 41]) rfl rfl rfl ?_
          refine rf_R_put pm_M261 T6 (pc' := 41) rfl rfl rfl (by decide) rfl rfl (sf_weak sf_k0 (by decide) (by decide)) rfl rfl (fun h27 m30 em31 T28 F29 => ?_)
          have F32 := F9.trans F29 (by decide)
          have B33 : sf_B 0 0 (m30 47) := by rw [em31]; exact sf_k0
          have W35 : rf_W [42, 43, 44, 47] m m30 := by rw [em31]; exact W10.put (by decide)
          refine pm_R_op pm_M261 (pc' := 42) (st' := [.int 0]) rfl rfl rfl ?_
          refine pm_R_lo pm_M261 (pc' := 44) (ls' := [.ref 41, .int a0, .int a1, .int a2, .int 0]) (st' := []) rfl rfl rfl ?_
          have L_558 : ∀ (N : Nat) (h_558 : pm_H) (m_558 : Nat → Int32) (w_558 : Int64) (x4_558 : Int32), rf_T m_558 w_558 h_558 → rf_G [41, 67, 68, 69] h h_558 → rf_W [47] m30 m_558 → sf_B 0 50 x4_558 → (m_558 47).toInt ≤ x4_558.toInt → (50 - x4_558.toInt).toNat = N → pm_R (d + 3) 261 44 [.ref 41, .int a0, .int a1, .int a2, .int x4_558] [] h_558 Q := by
            intro N
            induction N using Nat.strongRecOn with
            | ind N ih_558 =>
              intro h_558 m_558 w_558 x4_558 T_558 F_558 W_558 Bx4_558 R0_558 hN_558
              have W562 : rf_W [42, 43, 44, 47] m m_558 := W35.trans W_558 (by decide)
              have B563 : sf_B 0 50 (m_558 47) := T_558.2.2.1 47
              refine pm_R_lo pm_M261 (pc' := 46) rfl rfl rfl ?_
              refine pm_R_lo pm_M261 (pc' := 47) rfl rfl rfl ?_
              have B564 : sf_B 0 50 (m_558 43) := T_558.2.2.1 43
              refine rf_R_get pm_M261 T_558 (pc' := 50) (v := .int (m_558 43)) rfl rfl rfl rfl ?_
              refine pm_R_icmp pm_M261 (t := 125) (pc' := 53) rfl rfl rfl (fun c565 => ?_) (fun c565 => ?_)
              · skip
                refine pm_R_op pm_M261 (pc' := 126) (st' := [.int 1]) (pm_q261_1 (Nat.le_of_ble_eq_true rfl)) rfl rfl ?_
                exact pm_R_ret pm_M261 (r := some (.int 1)) (pm_q261_1 (Nat.le_of_ble_eq_true rfl)) rfl (K 1 m_558 w_558 h_558 T_558 F_558 W562 (sf_weak sf_k1 (by decide) (by decide)))
              · have B566 : sf_B 0 49 x4_558 := sf_ltL (Int32.not_le.mp c565) Bx4_558 B564
                have B567 : sf_B 0 49 (m_558 47) := sf_leT R0_558 B563 B566
                have B568 : sf_B 1 50 (m_558 43) := sf_ltR (Int32.not_le.mp c565) Bx4_558 B564
                refine pm_R_lo pm_M261 (pc' := 54) rfl rfl rfl ?_
                refine pm_R_lo pm_M261 (pc' := 56) rfl rfl rfl ?_
                refine pm_R_cv pm_M261 (pc' := 59) (a := 41) (ra := [.int x4_558]) (rest := []) (ls' := [.ref 41, .int x4_558]) rfl rfl (Or.inl rfl) pm_M256 T_558.2.1 rfl (by decide) (Nat.lt_of_lt_of_le (by decide) T_558.1) rfl rfl (Nat.le_of_ble_eq_true rfl) rfl rfl ?_
                refine pm_R_lo pm_M256 (pc' := 1) rfl rfl rfl ?_
                refine pm_R_lo pm_M256 (pc' := 2) rfl rfl rfl ?_
                refine pm_R_op pm_M256 (pc' := 3) (st' := [.int 0, .int x4_558, .ref 41]) rfl rfl rfl ?_
                refine pm_R_cv pm_M256 (pc' := 6) (a := 41) (ra := [.int 0, .int x4_558]) (rest := []) (ls' := [.ref 41, .int x4_558, .int 0]) rfl rfl (Or.inl rfl) pm_M255 T_558.2.1 rfl (by decide) (Nat.lt_of_lt_of_le (by decide) T_558.1) rfl rfl (Nat.le_of_ble_eq_true rfl) rfl rfl ?_
                refine pm_R_lo pm_M255 (pc' := 1) rfl rfl rfl ?_
                refine rf_R_get pm_M255 T_558 (pc' := 4) (v := .ref 49) rfl rfl rfl rfl ?_
                refine pm_R_op pm_M255 (pc' := 7) (st' := [.int 152, .ref 49]) rfl rfl rfl ?_
                refine pm_R_lo pm_M255 (pc' := 8) rfl rfl rfl ?_
                have B569 : sf_B 0 1 (m_558 44) := T_558.2.2.1 44
                refine rf_R_get pm_M255 T_558 (pc' := 11) (v := .int (m_558 44)) rfl rfl rfl rfl ?_
                refine sf_R_imul pm_M255 (pc' := 12) rfl rfl sf_k152 B569 (by decide) (by decide) (by decide) (fun z570 e571 B572 => ?_)
                refine pm_R_op pm_M255 (pc' := 13) (st' := [.int 2, .int z570, .ref 49]) rfl rfl rfl ?_
                refine sf_R_iadd pm_M255 (pc' := 14) rfl rfl B572 sf_k2 (by decide) (by decide) (fun z573 e574 B575 => ?_)
                refine pm_R_op pm_M255 (pc' := 15) (st' := [.int 3, .int z573, .ref 49]) rfl rfl rfl ?_
                refine pm_R_lo pm_M255 (pc' := 16) rfl rfl rfl ?_
                refine sf_R_imul pm_M255 (pc' := 17) rfl rfl sf_k3 B566 (by decide) (by decide) (by decide) (fun z576 e577 B578 => ?_)
                refine sf_R_iadd pm_M255 (pc' := 18) rfl rfl B575 B578 (by decide) (by decide) (fun z579 e580 B581 => ?_)
                refine pm_R_lo pm_M255 (pc' := 19) rfl rfl rfl ?_
                refine sf_R_iadd pm_M255 (pc' := 20) rfl rfl B581 sf_k0 (by decide) (by decide) (fun z582 e583 B584 => ?_)
                obtain ⟨f585, e586, b587⟩ := T_558.2.2.2.1 49 (by decide) (by decide)
                refine rf_R_ild pm_M255 T_558 (pc' := 21) rfl e586 (by decide) (sf_in B584 (by decide) (by decide)) rfl (fun z588 ez589 => ?_)
                have e590 : (z582).toInt = 152 * ((m_558 44)).toInt + 3 * (x4_558).toInt + 2 := by
                  have q0 := e571
                  have q1 := e574
                  have q2 := e577
                  have q3 := e580
                  have q4 := e583
                  simp only [(show (0 : Int32).toInt = 0 from rfl), (show (2 : Int32).toInt = 2 from rfl), (show (3 : Int32).toInt = 3 from rfl), (show (152 : Int32).toInt = 152 from rfl)] at q0 q1 q2 q3 q4
                  omega
                have B591 : sf_B 0 2 z588 := ez589 ▸ rf_p49s b587 e590 B569 B566 (by decide) (by decide) (by decide)
                refine pm_R_ret pm_M255 (r := some (.int z588)) rfl (pm_ret_i _) ?_
                show pm_R _ 256 6 [.ref 41, .int x4_558] [.int z588] _ _
                refine pm_R_op pm_M256 (pc' := 7) (st' := [.int 2, .int z588]) rfl rfl rfl ?_
                refine pm_R_icmp pm_M256 (t := 14) (pc' := 10) rfl rfl rfl (fun c592 => ?_) (fun c592 => ?_)
                · have B593 : sf_B 0 1 z588 := sf_neH0 c592 sf_k2 B591
                  refine pm_R_op pm_M256 (pc' := 15) (st' := [.int 0]) rfl rfl rfl ?_
                  refine pm_R_ret pm_M256 (r := some (.int 0)) rfl rfl ?_
                  show pm_R _ 261 59 [.ref 41, .int a0, .int a1, .int a2, .int x4_558] [.int 0] _ _
                  refine pm_R_br pm_M261 (pc' := 119) (st' := []) rfl rfl ?_
                  refine sf_R_iinc pm_M261 (pc' := 122) (ls' := fun z => [.ref 41, .int a0, .int a1, .int a2, .int z]) (pm_q261_1 (Nat.le_of_ble_eq_true rfl)) B566 rfl (by decide) (by decide) (by decide) (fun _ => rfl) rfl (fun z594 e595 B596 => ?_)
                  show pm_R _ 261 122 [.ref 41, .int a0, .int a1, .int a2, .int z594] [] _ _
                  refine pm_R_br pm_M261 (pc' := 44) (pm_q261_1 (Nat.le_of_ble_eq_true rfl)) rfl ?_
                  exact ih_558 _ (sf_up hN_558 e595 B566 (by decide) (by decide)) h_558 m_558 w_558 z594 T_558 F_558 W_558 (sf_weak B596 (by decide) (by decide)) (by have q0 := e595; have q1 := B567.1; have q2 := B567.2; have q3 := B566.1; have q4 := B566.2; have q5 := R0_558; omega) rfl
                · have B597 : sf_B 2 2 z588 := sf_eqL (Classical.not_not.mp c592) sf_k2
                  refine pm_R_op pm_M256 (pc' := 11) (st' := [.int 1]) rfl rfl rfl ?_
                  refine pm_R_br pm_M256 (pc' := 15) rfl rfl ?_
                  refine pm_R_ret pm_M256 (r := some (.int 1)) rfl rfl ?_
                  show pm_R _ 261 59 [.ref 41, .int a0, .int a1, .int a2, .int x4_558] [.int 1] _ _
                  refine pm_R_br pm_M261 (pc' := 62) (st' := []) rfl rfl ?_
                  refine pm_R_lo pm_M261 (pc' := 63) rfl rfl rfl ?_
                  refine pm_R_lo pm_M261 (pc' := 65) rfl rfl rfl ?_
                  refine pm_R_op pm_M261 (pc' := 66) (st' := [.int 1, .int x4_558, .ref 41]) rfl rfl rfl ?_
                  refine pm_R_cv pm_M261 (pc' := 69) (a := 41) (ra := [.int 1, .int x4_558]) (rest := []) (ls' := [.ref 41, .int x4_558, .int 1]) rfl rfl (Or.inl rfl) pm_M255 T_558.2.1 rfl (by decide) (Nat.lt_of_lt_of_le (by decide) T_558.1) rfl rfl (Nat.le_of_ble_eq_true rfl) rfl rfl ?_
                  refine pm_R_lo pm_M255 (pc' := 1) rfl rfl rfl ?_
                  refine rf_R_get pm_M255 T_558 (pc' := 4) (v := .ref 49) rfl rfl rfl rfl ?_
                  refine pm_R_op pm_M255 (pc' := 7) (st' := [.int 152, .ref 49]) rfl rfl rfl ?_
                  refine pm_R_lo pm_M255 (pc' := 8) rfl rfl rfl ?_
                  refine rf_R_get pm_M255 T_558 (pc' := 11) (v := .int (m_558 44)) rfl rfl rfl rfl ?_
                  refine sf_R_imul pm_M255 (pc' := 12) rfl rfl sf_k152 B569 (by decide) (by decide) (by decide) (fun z598 e599 B600 => ?_)
                  refine pm_R_op pm_M255 (pc' := 13) (st' := [.int 2, .int z598, .ref 49]) rfl rfl rfl ?_
                  refine sf_R_iadd pm_M255 (pc' := 14) rfl rfl B600 sf_k2 (by decide) (by decide) (fun z601 e602 B603 => ?_)
                  refine pm_R_op pm_M255 (pc' := 15) (st' := [.int 3, .int z601, .ref 49]) rfl rfl rfl ?_
                  refine pm_R_lo pm_M255 (pc' := 16) rfl rfl rfl ?_
                  refine sf_R_imul pm_M255 (pc' := 17) rfl rfl sf_k3 B566 (by decide) (by decide) (by decide) (fun z604 e605 B606 => ?_)
                  refine sf_R_iadd pm_M255 (pc' := 18) rfl rfl B603 B606 (by decide) (by decide) (fun z607 e608 B609 => ?_)
                  refine pm_R_lo pm_M255 (pc' := 19) rfl rfl rfl ?_
                  refine sf_R_iadd pm_M255 (pc' := 20) rfl rfl B609 sf_k1 (by decide) (by decide) (fun z610 e611 B612 => ?_)
                  refine rf_R_ild pm_M255 T_558 (pc' := 21) rfl e586 (by decide) (sf_in B612 (by decide) (by decide)) rfl (fun z613 ez614 => ?_)
                  have e615 : (z610).toInt = 152 * ((m_558 44)).toInt + 3 * (x4_558).toInt + 3 := by
                    have q0 := e599
                    have q1 := e602
                    have q2 := e605
                    have q3 := e608
                    have q4 := e611
                    simp only [(show (1 : Int32).toInt = 1 from rfl), (show (2 : Int32).toInt = 2 from rfl), (show (3 : Int32).toInt = 3 from rfl), (show (152 : Int32).toInt = 152 from rfl)] at q0 q1 q2 q3 q4
                    omega
                  have B616 : sf_B 0 5 z613 := ez614 ▸ rf_p49w b587 e615 B569 B566 (by decide) (by decide) (by decide)
                  refine pm_R_ret pm_M255 (r := some (.int z613)) rfl (pm_ret_i _) ?_
                  show pm_R _ 261 69 [.ref 41, .int a0, .int a1, .int a2, .int x4_558] [.int z613] _ _
                  refine pm_R_lo pm_M261 (pc' := 70) rfl rfl rfl ?_
                  refine pm_R_icmp pm_M261 (t := 119) (pc' := 73) rfl rfl rfl (fun c617 => ?_) (fun c617 => ?_)
                  · skip
                    refine sf_R_iinc pm_M261 (pc' := 122) (ls' := fun z => [.ref 41, .int a0, .int a1, .int a2, .int z]) (pm_q261_1 (Nat.le_of_ble_eq_true rfl)) B566 rfl (by decide) (by decide) (by decide) (fun _ => rfl) rfl (fun z618 e619 B620 => ?_)
                    show pm_R _ 261 122 [.ref 41, .int a0, .int a1, .int a2, .int z618] [] _ _
                    refine pm_R_br pm_M261 (pc' := 44) (pm_q261_1 (Nat.le_of_ble_eq_true rfl)) rfl ?_
                    exact ih_558 _ (sf_up hN_558 e619 B566 (by decide) (by decide)) h_558 m_558 w_558 z618 T_558 F_558 W_558 (sf_weak B620 (by decide) (by decide)) (by have q0 := e619; have q1 := B567.1; have q2 := B567.2; have q3 := B566.1; have q4 := B566.2; have q5 := R0_558; omega) rfl
                  · refine pm_R_lo pm_M261 (pc' := 74) rfl rfl rfl ?_
                    refine pm_R_op pm_M261 (pc' := 75) (st' := [.int (-1), .int a1]) rfl rfl rfl ?_
                    refine pm_R_icmp pm_M261 (t := 93) (pc' := 78) rfl rfl rfl (fun c621 => ?_) (fun c621 => absurd (sf_pt2 B25 sf_kn1) c621)
                    refine pm_R_lo pm_M261 (pc' := 94) rfl rfl rfl ?_
                    refine rf_R_get pm_M261 T_558 (pc' := 97) (v := .ref 69) rfl rfl rfl rfl ?_
                    refine pm_R_lo pm_M261 (pc' := 98) rfl rfl rfl ?_
                    refine rf_R_get pm_M261 T_558 (pc' := 101) (v := .int (m_558 47)) rfl rfl rfl rfl ?_
                    refine pm_R_lo pm_M261 (pc' := 102) rfl rfl rfl ?_
                    refine pm_R_lo pm_M261 (pc' := 104) rfl rfl rfl ?_
                    refine pm_R_op pm_M261 (pc' := 105) (st' := [.int 2, .int x4_558, .ref 41, .int (m_558 47), .ref 69]) rfl rfl rfl ?_
                    refine pm_R_cv pm_M261 (pc' := 108) (a := 41) (ra := [.int 2, .int x4_558]) (rest := [.int (m_558 47), .ref 69]) (ls' := [.ref 41, .int x4_558, .int 2]) rfl rfl (Or.inl rfl) pm_M255 T_558.2.1 rfl (by decide) (Nat.lt_of_lt_of_le (by decide) T_558.1) rfl rfl (Nat.le_of_ble_eq_true rfl) rfl rfl ?_
                    refine pm_R_lo pm_M255 (pc' := 1) rfl rfl rfl ?_
                    refine rf_R_get pm_M255 T_558 (pc' := 4) (v := .ref 49) rfl rfl rfl rfl ?_
                    refine pm_R_op pm_M255 (pc' := 7) (st' := [.int 152, .ref 49]) rfl rfl rfl ?_
                    refine pm_R_lo pm_M255 (pc' := 8) rfl rfl rfl ?_
                    refine rf_R_get pm_M255 T_558 (pc' := 11) (v := .int (m_558 44)) rfl rfl rfl rfl ?_
                    refine sf_R_imul pm_M255 (pc' := 12) rfl rfl sf_k152 B569 (by decide) (by decide) (by decide) (fun z622 e623 B624 => ?_)
                    refine pm_R_op pm_M255 (pc' := 13) (st' := [.int 2, .int z622, .ref 49]) rfl rfl rfl ?_
                    refine sf_R_iadd pm_M255 (pc' := 14) rfl rfl B624 sf_k2 (by decide) (by decide) (fun z625 e626 B627 => ?_)
                    refine pm_R_op pm_M255 (pc' := 15) (st' := [.int 3, .int z625, .ref 49]) rfl rfl rfl ?_
                    refine pm_R_lo pm_M255 (pc' := 16) rfl rfl rfl ?_
                    refine sf_R_imul pm_M255 (pc' := 17) rfl rfl sf_k3 B566 (by decide) (by decide) (by decide) (fun z628 e629 B630 => ?_)
                    refine sf_R_iadd pm_M255 (pc' := 18) rfl rfl B627 B630 (by decide) (by decide) (fun z631 e632 B633 => ?_)
                    refine pm_R_lo pm_M255 (pc' := 19) rfl rfl rfl ?_
                    refine sf_R_iadd pm_M255 (pc' := 20) rfl rfl B633 sf_k2 (by decide) (by decide) (fun z634 e635 B636 => ?_)
                    refine rf_R_ild pm_M255 T_558 (pc' := 21) rfl e586 (by decide) (sf_in B636 (by decide) (by decide)) rfl (fun z637 ez638 => ?_)
                    have e639 : (z634).toInt = 152 * ((m_558 44)).toInt + 3 * (x4_558).toInt + 4 := by
                      have q0 := e623
                      have q1 := e626
                      have q2 := e629
                      have q3 := e632
                      have q4 := e635
                      simp only [(show (2 : Int32).toInt = 2 from rfl), (show (3 : Int32).toInt = 3 from rfl), (show (152 : Int32).toInt = 152 from rfl)] at q0 q1 q2 q3 q4
                      omega
                    have B640 : sf_B (-1) 9 z637 := ez638 ▸ rf_p49o b587 e639 B569 B566 (by decide) (by decide) (by decide)
                    refine pm_R_ret pm_M255 (r := some (.int z637)) rfl (pm_ret_i _) ?_
                    show pm_R _ 261 108 [.ref 41, .int a0, .int a1, .int a2, .int x4_558] [.int z637, .int (m_558 47), .ref 69] _ _
                    obtain ⟨f641, e642⟩ := T_558.2.2.2.1 69 (by decide) (by decide)
                    refine rf_R_ist pm_M261 T_558 (pc' := 109) rfl e642 (by decide) (by decide) (sf_in B567 (by decide) (by decide)) ⟨_, rfl⟩ rfl (fun h644 T645 F646 e647 => ?_)
                    have F648 := F_558.trans F646 (by decide)
                    refine pm_R_lo pm_M261 (pc' := 110) rfl rfl rfl ?_
                    refine pm_R_op pm_M261 (pc' := 111) (st' := [.ref 41, .ref 41]) (pm_q261_1 (Nat.le_of_ble_eq_true rfl)) rfl rfl ?_
                    refine rf_R_get pm_M261 T645 (pc' := 114) (v := .int (m_558 47)) (pm_q261_1 (Nat.le_of_ble_eq_true rfl)) rfl rfl rfl ?_
                    refine pm_R_op pm_M261 (pc' := 115) (st' := [.int 1, .int (m_558 47), .ref 41]) (pm_q261_1 (Nat.le_of_ble_eq_true rfl)) rfl rfl ?_
                    refine sf_R_iadd pm_M261 (pc' := 116) (pm_q261_1 (Nat.le_of_ble_eq_true rfl)) rfl B567 sf_k1 (by decide) (by decide) (fun z649 e650 B651 => ?_)
                    refine rf_R_put pm_M261 T645 (pc' := 119) (pm_q261_1 (Nat.le_of_ble_eq_true rfl)) rfl rfl (by decide) rfl rfl (sf_weak B651 (by decide) (by decide)) rfl rfl (fun h652 m655 em656 T653 F654 => ?_)
                    have F657 := F648.trans F654 (by decide)
                    have B658 : sf_B 1 50 (m655 43) := by rw [em656]; exact B568
                    have B659 : sf_B 1 50 (m655 47) := by rw [em656]; exact B651
                    have ek660 : (m655 47).toInt = (z649).toInt := by rw [em656]; rfl
                    have W661 : rf_W [42, 43, 44, 47] m m655 := by rw [em656]; exact W562.put (by decide)
                    have W662 : rf_W [47] m30 m655 := by rw [em656]; exact W_558.put (by decide)
                    refine sf_R_iinc pm_M261 (pc' := 122) (ls' := fun z => [.ref 41, .int a0, .int a1, .int a2, .int z]) (pm_q261_1 (Nat.le_of_ble_eq_true rfl)) B566 rfl (by decide) (by decide) (by decide) (fun _ => rfl) rfl (fun z663 e664 B665 => ?_)
                    show pm_R _ 261 122 [.ref 41, .int a0, .int a1, .int a2, .int z663] [] _ _
                    refine pm_R_br pm_M261 (pc' := 44) (pm_q261_1 (Nat.le_of_ble_eq_true rfl)) rfl ?_
                    exact ih_558 _ (sf_up hN_558 e664 B566 (by decide) (by decide)) h652 m655 w_558 z663 T653 F657 W662 (sf_weak B665 (by decide) (by decide)) (by have q0 := e650; have q1 := ek660; have q2 := e664; have q3 := B567.1; have q4 := B567.2; have q5 := B566.1; have q6 := B566.2; have q7 := R0_558; (try simp only [(show (1 : Int32).toInt = 1 from rfl), (show (1 : Int64).toInt = 1 from rfl)] at q0 q1 q2 ⊢); omega) rfl
          exact L_558 _ h27 m30 w4 0 T28 F32 (rf_W.refl _ _) (sf_weak sf_k0 (by decide) (by decide)) (by have q0 := B33.1; have q1 := B33.2; simp only [(show (0 : Int32).toInt = 0 from rfl), (show (0 : Int64).toInt = 0 from rfl)]; omega) rfl
        · skip
          refine pm_R_lo pm_M261 (pc' := 22) rfl rfl rfl ?_
          refine pm_R_lo pm_M261 (pc' := 23) rfl rfl rfl ?_
          refine pm_R_cv pm_M261 (pc' := 26) (a := 41) (ra := [.int a1]) (rest := []) (ls' := [.ref 41, .int a1]) rfl rfl (Or.inl rfl) pm_M259 T6.2.1 rfl (by decide) (Nat.lt_of_lt_of_le (by decide) T6.1) rfl rfl (Nat.le_of_ble_eq_true rfl) rfl rfl ?_
          refine pm_R_lo pm_M259 (pc' := 1) rfl rfl rfl ?_
          refine pm_R_op pm_M259 (pc' := 2) (st' := [.int 0, .int a1]) rfl rfl rfl ?_
          refine pm_R_lo pm_M259 (pc' := 3) rfl rfl rfl ?_
          refine rf_R_get pm_M259 T6 (pc' := 6) (v := .int (m3 42)) rfl rfl rfl rfl ?_
          refine pm_R_op pm_M259 (pc' := 7) (st' := [.int 1, .int (m3 42), .int 0, .int a1]) rfl rfl rfl ?_
          refine sf_R_isub pm_M259 (pc' := 8) rfl rfl B14 sf_k1 (by decide) (by decide) (fun z666 e667 B668 => ?_)
          refine pm_R_cs pm_M259 (pc' := 11) (ra := [.int z666, .int 0, .int a1]) (rest := []) (ls' := [.int a1, .int 0, .int z666]) rfl rfl (Or.inl rfl) pm_M174 rfl rfl (Nat.le_of_ble_eq_true rfl) rfl rfl ?_
          refine pm_R_lo pm_M174 (pc' := 1) rfl rfl rfl ?_
          refine pm_R_lo pm_M174 (pc' := 2) rfl rfl rfl ?_
          refine pm_R_icmp pm_M174 (t := 14) (pc' := 5) rfl rfl rfl (fun c669 => ?_) (fun c669 => ?_)
          · have B670 : sf_B (-2147483648) (-1) a1 := sf_ltL c669 (sf_any a1) sf_k0
            refine pm_R_op pm_M174 (pc' := 15) (st' := [.int 0]) rfl rfl rfl ?_
            refine pm_R_ret pm_M174 (r := some (.int 0)) rfl rfl ?_
            show pm_R _ 259 11 [.ref 41, .int a1] [.int 0] _ _
            refine pm_R_ret pm_M259 (r := some (.int 0)) rfl rfl ?_
            show pm_R _ 261 26 [.ref 41, .int a0, .int a1, .int a2, pm_no] [.int 0] _ _
            refine pm_R_br pm_M261 (pc' := 34) (st' := []) rfl rfl ?_
            refine pm_R_op pm_M261 (pc' := 35) (st' := [.int 0]) rfl rfl rfl ?_
            exact pm_R_ret pm_M261 (r := some (.int 0)) rfl rfl (K 0 m3 w4 h5 T6 F9 W10 (sf_weak sf_k0 (by decide) (by decide)))
          · have B671 : sf_B 0 2147483647 a1 := sf_leR (Int32.not_lt.mp c669) sf_k0 (sf_any a1)
            refine pm_R_lo pm_M174 (pc' := 6) rfl rfl rfl ?_
            refine pm_R_lo pm_M174 (pc' := 7) rfl rfl rfl ?_
            refine pm_R_icmp pm_M174 (t := 14) (pc' := 10) rfl rfl rfl (fun c672 => ?_) (fun c672 => ?_)
            · skip
              refine pm_R_op pm_M174 (pc' := 15) (st' := [.int 0]) rfl rfl rfl ?_
              refine pm_R_ret pm_M174 (r := some (.int 0)) rfl rfl ?_
              show pm_R _ 259 11 [.ref 41, .int a1] [.int 0] _ _
              refine pm_R_ret pm_M259 (r := some (.int 0)) rfl rfl ?_
              show pm_R _ 261 26 [.ref 41, .int a0, .int a1, .int a2, pm_no] [.int 0] _ _
              refine pm_R_br pm_M261 (pc' := 34) (st' := []) rfl rfl ?_
              refine pm_R_op pm_M261 (pc' := 35) (st' := [.int 0]) rfl rfl rfl ?_
              exact pm_R_ret pm_M261 (r := some (.int 0)) rfl rfl (K 0 m3 w4 h5 T6 F9 W10 (sf_weak sf_k0 (by decide) (by decide)))
            · have B673 : sf_B 0 5 a1 := sf_leL (Int32.not_lt.mp c672) B671 B668
              have B674 : sf_B 0 5 z666 := sf_leR (Int32.not_lt.mp c672) B671 B668
              refine pm_R_op pm_M174 (pc' := 11) (st' := [.int 1]) rfl rfl rfl ?_
              refine pm_R_br pm_M174 (pc' := 15) rfl rfl ?_
              refine pm_R_ret pm_M174 (r := some (.int 1)) rfl rfl ?_
              show pm_R _ 259 11 [.ref 41, .int a1] [.int 1] _ _
              refine pm_R_ret pm_M259 (r := some (.int 1)) rfl rfl ?_
              show pm_R _ 261 26 [.ref 41, .int a0, .int a1, .int a2, pm_no] [.int 1] _ _
              refine pm_R_br pm_M261 (pc' := 29) (st' := []) rfl rfl ?_
              refine pm_R_lo pm_M261 (pc' := 30) rfl rfl rfl ?_
              refine pm_R_lo pm_M261 (pc' := 31) rfl rfl rfl ?_
              refine pm_R_icmp pm_M261 (t := 36) (pc' := 34) rfl rfl rfl (fun c675 => ?_) (fun c675 => ?_)
              · skip
                refine pm_R_lo pm_M261 (pc' := 37) rfl rfl rfl ?_
                refine pm_R_op pm_M261 (pc' := 38) (st' := [.int 0, .ref 41]) rfl rfl rfl ?_
                refine rf_R_put pm_M261 T6 (pc' := 41) rfl rfl rfl (by decide) rfl rfl (sf_weak sf_k0 (by decide) (by decide)) rfl rfl (fun h676 m679 em680 T677 F678 => ?_)
                have F681 := F9.trans F678 (by decide)
                have B682 : sf_B 0 0 (m679 47) := by rw [em680]; exact sf_k0
                have W684 : rf_W [42, 43, 44, 47] m m679 := by rw [em680]; exact W10.put (by decide)
                refine pm_R_op pm_M261 (pc' := 42) (st' := [.int 0]) rfl rfl rfl ?_
                refine pm_R_lo pm_M261 (pc' := 44) (ls' := [.ref 41, .int a0, .int a1, .int a2, .int 0]) (st' := []) rfl rfl rfl ?_
                have L_1287 : ∀ (N : Nat) (h_1287 : pm_H) (m_1287 : Nat → Int32) (w_1287 : Int64) (x4_1287 : Int32), rf_T m_1287 w_1287 h_1287 → rf_G [41, 67, 68, 69] h h_1287 → rf_W [47] m679 m_1287 → sf_B 0 50 x4_1287 → (m_1287 47).toInt ≤ x4_1287.toInt → (50 - x4_1287.toInt).toNat = N → pm_R (d + 3) 261 44 [.ref 41, .int a0, .int a1, .int a2, .int x4_1287] [] h_1287 Q := by
                  intro N
                  induction N using Nat.strongRecOn with
                  | ind N ih_1287 =>
                    intro h_1287 m_1287 w_1287 x4_1287 T_1287 F_1287 W_1287 Bx4_1287 R0_1287 hN_1287
                    have W1291 : rf_W [42, 43, 44, 47] m m_1287 := W684.trans W_1287 (by decide)
                    have B1292 : sf_B 0 50 (m_1287 47) := T_1287.2.2.1 47
                    refine pm_R_lo pm_M261 (pc' := 46) rfl rfl rfl ?_
                    refine pm_R_lo pm_M261 (pc' := 47) rfl rfl rfl ?_
                    have B1293 : sf_B 0 50 (m_1287 43) := T_1287.2.2.1 43
                    refine rf_R_get pm_M261 T_1287 (pc' := 50) (v := .int (m_1287 43)) rfl rfl rfl rfl ?_
                    refine pm_R_icmp pm_M261 (t := 125) (pc' := 53) rfl rfl rfl (fun c1294 => ?_) (fun c1294 => ?_)
                    · skip
                      refine pm_R_op pm_M261 (pc' := 126) (st' := [.int 1]) (pm_q261_1 (Nat.le_of_ble_eq_true rfl)) rfl rfl ?_
                      exact pm_R_ret pm_M261 (r := some (.int 1)) (pm_q261_1 (Nat.le_of_ble_eq_true rfl)) rfl (K 1 m_1287 w_1287 h_1287 T_1287 F_1287 W1291 (sf_weak sf_k1 (by decide) (by decide)))
                    · have B1295 : sf_B 0 49 x4_1287 := sf_ltL (Int32.not_le.mp c1294) Bx4_1287 B1293
                      have B1296 : sf_B 0 49 (m_1287 47) := sf_leT R0_1287 B1292 B1295
                      have B1297 : sf_B 1 50 (m_1287 43) := sf_ltR (Int32.not_le.mp c1294) Bx4_1287 B1293
                      refine pm_R_lo pm_M261 (pc' := 54) rfl rfl rfl ?_
                      refine pm_R_lo pm_M261 (pc' := 56) rfl rfl rfl ?_
                      refine pm_R_cv pm_M261 (pc' := 59) (a := 41) (ra := [.int x4_1287]) (rest := []) (ls' := [.ref 41, .int x4_1287]) rfl rfl (Or.inl rfl) pm_M256 T_1287.2.1 rfl (by decide) (Nat.lt_of_lt_of_le (by decide) T_1287.1) rfl rfl (Nat.le_of_ble_eq_true rfl) rfl rfl ?_
                      refine pm_R_lo pm_M256 (pc' := 1) rfl rfl rfl ?_
                      refine pm_R_lo pm_M256 (pc' := 2) rfl rfl rfl ?_
                      refine pm_R_op pm_M256 (pc' := 3) (st' := [.int 0, .int x4_1287, .ref 41]) rfl rfl rfl ?_
                      refine pm_R_cv pm_M256 (pc' := 6) (a := 41) (ra := [.int 0, .int x4_1287]) (rest := []) (ls' := [.ref 41, .int x4_1287, .int 0]) rfl rfl (Or.inl rfl) pm_M255 T_1287.2.1 rfl (by decide) (Nat.lt_of_lt_of_le (by decide) T_1287.1) rfl rfl (Nat.le_of_ble_eq_true rfl) rfl rfl ?_
                      refine pm_R_lo pm_M255 (pc' := 1) rfl rfl rfl ?_
                      refine rf_R_get pm_M255 T_1287 (pc' := 4) (v := .ref 49) rfl rfl rfl rfl ?_
                      refine pm_R_op pm_M255 (pc' := 7) (st' := [.int 152, .ref 49]) rfl rfl rfl ?_
                      refine pm_R_lo pm_M255 (pc' := 8) rfl rfl rfl ?_
                      have B1298 : sf_B 0 1 (m_1287 44) := T_1287.2.2.1 44
                      refine rf_R_get pm_M255 T_1287 (pc' := 11) (v := .int (m_1287 44)) rfl rfl rfl rfl ?_
                      refine sf_R_imul pm_M255 (pc' := 12) rfl rfl sf_k152 B1298 (by decide) (by decide) (by decide) (fun z1299 e1300 B1301 => ?_)
                      refine pm_R_op pm_M255 (pc' := 13) (st' := [.int 2, .int z1299, .ref 49]) rfl rfl rfl ?_
                      refine sf_R_iadd pm_M255 (pc' := 14) rfl rfl B1301 sf_k2 (by decide) (by decide) (fun z1302 e1303 B1304 => ?_)
                      refine pm_R_op pm_M255 (pc' := 15) (st' := [.int 3, .int z1302, .ref 49]) rfl rfl rfl ?_
                      refine pm_R_lo pm_M255 (pc' := 16) rfl rfl rfl ?_
                      refine sf_R_imul pm_M255 (pc' := 17) rfl rfl sf_k3 B1295 (by decide) (by decide) (by decide) (fun z1305 e1306 B1307 => ?_)
                      refine sf_R_iadd pm_M255 (pc' := 18) rfl rfl B1304 B1307 (by decide) (by decide) (fun z1308 e1309 B1310 => ?_)
                      refine pm_R_lo pm_M255 (pc' := 19) rfl rfl rfl ?_
                      refine sf_R_iadd pm_M255 (pc' := 20) rfl rfl B1310 sf_k0 (by decide) (by decide) (fun z1311 e1312 B1313 => ?_)
                      obtain ⟨f1314, e1315, b1316⟩ := T_1287.2.2.2.1 49 (by decide) (by decide)
                      refine rf_R_ild pm_M255 T_1287 (pc' := 21) rfl e1315 (by decide) (sf_in B1313 (by decide) (by decide)) rfl (fun z1317 ez1318 => ?_)
                      have e1319 : (z1311).toInt = 152 * ((m_1287 44)).toInt + 3 * (x4_1287).toInt + 2 := by
                        have q0 := e1300
                        have q1 := e1303
                        have q2 := e1306
                        have q3 := e1309
                        have q4 := e1312
                        simp only [(show (0 : Int32).toInt = 0 from rfl), (show (2 : Int32).toInt = 2 from rfl), (show (3 : Int32).toInt = 3 from rfl), (show (152 : Int32).toInt = 152 from rfl)] at q0 q1 q2 q3 q4
                        omega
                      have B1320 : sf_B 0 2 z1317 := ez1318 ▸ rf_p49s b1316 e1319 B1298 B1295 (by decide) (by decide) (by decide)
                      refine pm_R_ret pm_M255 (r := some (.int z1317)) rfl (pm_ret_i _) ?_
                      show pm_R _ 256 6 [.ref 41, .int x4_1287] [.int z1317] _ _
                      refine pm_R_op pm_M256 (pc' := 7) (st' := [.int 2, .int z1317]) rfl rfl rfl ?_
                      refine pm_R_icmp pm_M256 (t := 14) (pc' := 10) rfl rfl rfl (fun c1321 => ?_) (fun c1321 => ?_)
                      · have B1322 : sf_B 0 1 z1317 := sf_neH0 c1321 sf_k2 B1320
                        refine pm_R_op pm_M256 (pc' := 15) (st' := [.int 0]) rfl rfl rfl ?_
                        refine pm_R_ret pm_M256 (r := some (.int 0)) rfl rfl ?_
                        show pm_R _ 261 59 [.ref 41, .int a0, .int a1, .int a2, .int x4_1287] [.int 0] _ _
                        refine pm_R_br pm_M261 (pc' := 119) (st' := []) rfl rfl ?_
                        refine sf_R_iinc pm_M261 (pc' := 122) (ls' := fun z => [.ref 41, .int a0, .int a1, .int a2, .int z]) (pm_q261_1 (Nat.le_of_ble_eq_true rfl)) B1295 rfl (by decide) (by decide) (by decide) (fun _ => rfl) rfl (fun z1323 e1324 B1325 => ?_)
                        show pm_R _ 261 122 [.ref 41, .int a0, .int a1, .int a2, .int z1323] [] _ _
                        refine pm_R_br pm_M261 (pc' := 44) (pm_q261_1 (Nat.le_of_ble_eq_true rfl)) rfl ?_
                        exact ih_1287 _ (sf_up hN_1287 e1324 B1295 (by decide) (by decide)) h_1287 m_1287 w_1287 z1323 T_1287 F_1287 W_1287 (sf_weak B1325 (by decide) (by decide)) (by have q0 := e1324; have q1 := B1296.1; have q2 := B1296.2; have q3 := B1295.1; have q4 := B1295.2; have q5 := R0_1287; omega) rfl
                      · have B1326 : sf_B 2 2 z1317 := sf_eqL (Classical.not_not.mp c1321) sf_k2
                        refine pm_R_op pm_M256 (pc' := 11) (st' := [.int 1]) rfl rfl rfl ?_
                        refine pm_R_br pm_M256 (pc' := 15) rfl rfl ?_
                        refine pm_R_ret pm_M256 (r := some (.int 1)) rfl rfl ?_
                        show pm_R _ 261 59 [.ref 41, .int a0, .int a1, .int a2, .int x4_1287] [.int 1] _ _
                        refine pm_R_br pm_M261 (pc' := 62) (st' := []) rfl rfl ?_
                        refine pm_R_lo pm_M261 (pc' := 63) rfl rfl rfl ?_
                        refine pm_R_lo pm_M261 (pc' := 65) rfl rfl rfl ?_
                        refine pm_R_op pm_M261 (pc' := 66) (st' := [.int 1, .int x4_1287, .ref 41]) rfl rfl rfl ?_
                        refine pm_R_cv pm_M261 (pc' := 69) (a := 41) (ra := [.int 1, .int x4_1287]) (rest := []) (ls' := [.ref 41, .int x4_1287, .int 1]) rfl rfl (Or.inl rfl) pm_M255 T_1287.2.1 rfl (by decide) (Nat.lt_of_lt_of_le (by decide) T_1287.1) rfl rfl (Nat.le_of_ble_eq_true rfl) rfl rfl ?_
                        refine pm_R_lo pm_M255 (pc' := 1) rfl rfl rfl ?_
                        refine rf_R_get pm_M255 T_1287 (pc' := 4) (v := .ref 49) rfl rfl rfl rfl ?_
                        refine pm_R_op pm_M255 (pc' := 7) (st' := [.int 152, .ref 49]) rfl rfl rfl ?_
                        refine pm_R_lo pm_M255 (pc' := 8) rfl rfl rfl ?_
                        refine rf_R_get pm_M255 T_1287 (pc' := 11) (v := .int (m_1287 44)) rfl rfl rfl rfl ?_
                        refine sf_R_imul pm_M255 (pc' := 12) rfl rfl sf_k152 B1298 (by decide) (by decide) (by decide) (fun z1327 e1328 B1329 => ?_)
                        refine pm_R_op pm_M255 (pc' := 13) (st' := [.int 2, .int z1327, .ref 49]) rfl rfl rfl ?_
                        refine sf_R_iadd pm_M255 (pc' := 14) rfl rfl B1329 sf_k2 (by decide) (by decide) (fun z1330 e1331 B1332 => ?_)
                        refine pm_R_op pm_M255 (pc' := 15) (st' := [.int 3, .int z1330, .ref 49]) rfl rfl rfl ?_
                        refine pm_R_lo pm_M255 (pc' := 16) rfl rfl rfl ?_
                        refine sf_R_imul pm_M255 (pc' := 17) rfl rfl sf_k3 B1295 (by decide) (by decide) (by decide) (fun z1333 e1334 B1335 => ?_)
                        refine sf_R_iadd pm_M255 (pc' := 18) rfl rfl B1332 B1335 (by decide) (by decide) (fun z1336 e1337 B1338 => ?_)
                        refine pm_R_lo pm_M255 (pc' := 19) rfl rfl rfl ?_
                        refine sf_R_iadd pm_M255 (pc' := 20) rfl rfl B1338 sf_k1 (by decide) (by decide) (fun z1339 e1340 B1341 => ?_)
                        refine rf_R_ild pm_M255 T_1287 (pc' := 21) rfl e1315 (by decide) (sf_in B1341 (by decide) (by decide)) rfl (fun z1342 ez1343 => ?_)
                        have e1344 : (z1339).toInt = 152 * ((m_1287 44)).toInt + 3 * (x4_1287).toInt + 3 := by
                          have q0 := e1328
                          have q1 := e1331
                          have q2 := e1334
                          have q3 := e1337
                          have q4 := e1340
                          simp only [(show (1 : Int32).toInt = 1 from rfl), (show (2 : Int32).toInt = 2 from rfl), (show (3 : Int32).toInt = 3 from rfl), (show (152 : Int32).toInt = 152 from rfl)] at q0 q1 q2 q3 q4
                          omega
                        have B1345 : sf_B 0 5 z1342 := ez1343 ▸ rf_p49w b1316 e1344 B1298 B1295 (by decide) (by decide) (by decide)
                        refine pm_R_ret pm_M255 (r := some (.int z1342)) rfl (pm_ret_i _) ?_
                        show pm_R _ 261 69 [.ref 41, .int a0, .int a1, .int a2, .int x4_1287] [.int z1342] _ _
                        refine pm_R_lo pm_M261 (pc' := 70) rfl rfl rfl ?_
                        refine pm_R_icmp pm_M261 (t := 119) (pc' := 73) rfl rfl rfl (fun c1346 => ?_) (fun c1346 => ?_)
                        · skip
                          refine sf_R_iinc pm_M261 (pc' := 122) (ls' := fun z => [.ref 41, .int a0, .int a1, .int a2, .int z]) (pm_q261_1 (Nat.le_of_ble_eq_true rfl)) B1295 rfl (by decide) (by decide) (by decide) (fun _ => rfl) rfl (fun z1347 e1348 B1349 => ?_)
                          show pm_R _ 261 122 [.ref 41, .int a0, .int a1, .int a2, .int z1347] [] _ _
                          refine pm_R_br pm_M261 (pc' := 44) (pm_q261_1 (Nat.le_of_ble_eq_true rfl)) rfl ?_
                          exact ih_1287 _ (sf_up hN_1287 e1348 B1295 (by decide) (by decide)) h_1287 m_1287 w_1287 z1347 T_1287 F_1287 W_1287 (sf_weak B1349 (by decide) (by decide)) (by have q0 := e1348; have q1 := B1296.1; have q2 := B1296.2; have q3 := B1295.1; have q4 := B1295.2; have q5 := R0_1287; omega) rfl
                        · refine pm_R_lo pm_M261 (pc' := 74) rfl rfl rfl ?_
                          refine pm_R_op pm_M261 (pc' := 75) (st' := [.int (-1), .int a1]) rfl rfl rfl ?_
                          refine pm_R_icmp pm_M261 (t := 93) (pc' := 78) rfl rfl rfl (fun c1350 => absurd c1350 (sf_neq1 B673 sf_kn1 (by decide))) (fun c1350 => ?_)
                          skip
                          refine pm_R_lo pm_M261 (pc' := 79) rfl rfl rfl ?_
                          refine rf_R_get pm_M261 T_1287 (pc' := 82) (v := .ref 68) rfl rfl rfl rfl ?_
                          refine pm_R_lo pm_M261 (pc' := 84) rfl rfl rfl ?_
                          obtain ⟨f1351, e1352⟩ := T_1287.2.2.2.1 68 (by decide) (by decide)
                          refine rf_R_ild pm_M261 T_1287 (pc' := 85) rfl e1352 (by decide) (sf_in B1295 (by decide) (by decide)) rfl (fun z1354 ez1355 => ?_)
                          refine sf_R_lany pm_M261 (pc' := 86) (st := []) rfl rfl rfl (fun z1356 => ?_)
                          refine pm_R_lo pm_M261 (pc' := 87) rfl rfl rfl ?_
                          refine pm_R_cs pm_M261 (pc' := 90) (ra := [.int a1, .long z1356]) (rest := []) (ls' := [.long z1356, pm_no, .int a1]) rfl rfl (Or.inl rfl) pm_M206 rfl rfl (Nat.le_of_ble_eq_true rfl) rfl rfl ?_
                          refine pm_R_lo pm_M206 (pc' := 1) rfl rfl rfl ?_
                          refine pm_R_lo pm_M206 (pc' := 2) rfl rfl rfl ?_
                          refine sf_R_lany pm_M206 (pc' := 3) (st := []) rfl rfl rfl (fun z1357 => ?_)
                          refine pm_R_op pm_M206 (pc' := 4) (st' := [.long 1, .long z1357]) rfl rfl rfl ?_
                          refine sf_R_lany pm_M206 (pc' := 5) (st := []) rfl rfl rfl (fun z1358 => ?_)
                          refine pm_R_op pm_M206 (pc' := 6) (st' := [.long 1, .long z1358]) rfl rfl rfl ?_
                          refine sf_R_lcmp pm_M206 (pc' := 7) rfl rfl (fun z1359 e1360 => ?_)
                          refine pm_R_ifc pm_M206 (t := 14) (pc' := 10) rfl rfl rfl (fun c1361 => ?_) (fun c1361 => ?_)
                          · have k1362 := sf_lneC e1360 c1361
                            refine pm_R_op pm_M206 (pc' := 15) (st' := [.int 0]) rfl rfl rfl ?_
                            refine pm_R_ret pm_M206 (r := some (.int 0)) rfl rfl ?_
                            show pm_R _ 261 90 [.ref 41, .int a0, .int a1, .int a2, .int x4_1287] [.int 0] _ _
                            refine pm_R_br pm_M261 (pc' := 119) (st' := []) rfl rfl ?_
                            refine sf_R_iinc pm_M261 (pc' := 122) (ls' := fun z => [.ref 41, .int a0, .int a1, .int a2, .int z]) (pm_q261_1 (Nat.le_of_ble_eq_true rfl)) B1295 rfl (by decide) (by decide) (by decide) (fun _ => rfl) rfl (fun z1363 e1364 B1365 => ?_)
                            show pm_R _ 261 122 [.ref 41, .int a0, .int a1, .int a2, .int z1363] [] _ _
                            refine pm_R_br pm_M261 (pc' := 44) (pm_q261_1 (Nat.le_of_ble_eq_true rfl)) rfl ?_
                            exact ih_1287 _ (sf_up hN_1287 e1364 B1295 (by decide) (by decide)) h_1287 m_1287 w_1287 z1363 T_1287 F_1287 W_1287 (sf_weak B1365 (by decide) (by decide)) (by have q0 := e1364; have q1 := B1296.1; have q2 := B1296.2; have q3 := B1295.1; have q4 := B1295.2; have q5 := R0_1287; omega) rfl
                          · have B1366 : sf_B 0 0 z1359 := sf_eqL (Classical.not_not.mp c1361) sf_k0
                            refine pm_R_op pm_M206 (pc' := 11) (st' := [.int 1]) rfl rfl rfl ?_
                            refine pm_R_br pm_M206 (pc' := 15) rfl rfl ?_
                            refine pm_R_ret pm_M206 (r := some (.int 1)) rfl rfl ?_
                            show pm_R _ 261 90 [.ref 41, .int a0, .int a1, .int a2, .int x4_1287] [.int 1] _ _
                            refine pm_R_br pm_M261 (pc' := 93) (st' := []) rfl rfl ?_
                            refine pm_R_lo pm_M261 (pc' := 94) rfl rfl rfl ?_
                            refine rf_R_get pm_M261 T_1287 (pc' := 97) (v := .ref 69) rfl rfl rfl rfl ?_
                            refine pm_R_lo pm_M261 (pc' := 98) rfl rfl rfl ?_
                            refine rf_R_get pm_M261 T_1287 (pc' := 101) (v := .int (m_1287 47)) rfl rfl rfl rfl ?_
                            refine pm_R_lo pm_M261 (pc' := 102) rfl rfl rfl ?_
                            refine pm_R_lo pm_M261 (pc' := 104) rfl rfl rfl ?_
                            refine pm_R_op pm_M261 (pc' := 105) (st' := [.int 2, .int x4_1287, .ref 41, .int (m_1287 47), .ref 69]) rfl rfl rfl ?_
                            refine pm_R_cv pm_M261 (pc' := 108) (a := 41) (ra := [.int 2, .int x4_1287]) (rest := [.int (m_1287 47), .ref 69]) (ls' := [.ref 41, .int x4_1287, .int 2]) rfl rfl (Or.inl rfl) pm_M255 T_1287.2.1 rfl (by decide) (Nat.lt_of_lt_of_le (by decide) T_1287.1) rfl rfl (Nat.le_of_ble_eq_true rfl) rfl rfl ?_
                            refine pm_R_lo pm_M255 (pc' := 1) rfl rfl rfl ?_
                            refine rf_R_get pm_M255 T_1287 (pc' := 4) (v := .ref 49) rfl rfl rfl rfl ?_
                            refine pm_R_op pm_M255 (pc' := 7) (st' := [.int 152, .ref 49]) rfl rfl rfl ?_
                            refine pm_R_lo pm_M255 (pc' := 8) rfl rfl rfl ?_
                            refine rf_R_get pm_M255 T_1287 (pc' := 11) (v := .int (m_1287 44)) rfl rfl rfl rfl ?_
                            refine sf_R_imul pm_M255 (pc' := 12) rfl rfl sf_k152 B1298 (by decide) (by decide) (by decide) (fun z1367 e1368 B1369 => ?_)
                            refine pm_R_op pm_M255 (pc' := 13) (st' := [.int 2, .int z1367, .ref 49]) rfl rfl rfl ?_
                            refine sf_R_iadd pm_M255 (pc' := 14) rfl rfl B1369 sf_k2 (by decide) (by decide) (fun z1370 e1371 B1372 => ?_)
                            refine pm_R_op pm_M255 (pc' := 15) (st' := [.int 3, .int z1370, .ref 49]) rfl rfl rfl ?_
                            refine pm_R_lo pm_M255 (pc' := 16) rfl rfl rfl ?_
                            refine sf_R_imul pm_M255 (pc' := 17) rfl rfl sf_k3 B1295 (by decide) (by decide) (by decide) (fun z1373 e1374 B1375 => ?_)
                            refine sf_R_iadd pm_M255 (pc' := 18) rfl rfl B1372 B1375 (by decide) (by decide) (fun z1376 e1377 B1378 => ?_)
                            refine pm_R_lo pm_M255 (pc' := 19) rfl rfl rfl ?_
                            refine sf_R_iadd pm_M255 (pc' := 20) rfl rfl B1378 sf_k2 (by decide) (by decide) (fun z1379 e1380 B1381 => ?_)
                            refine rf_R_ild pm_M255 T_1287 (pc' := 21) rfl e1315 (by decide) (sf_in B1381 (by decide) (by decide)) rfl (fun z1382 ez1383 => ?_)
                            have e1384 : (z1379).toInt = 152 * ((m_1287 44)).toInt + 3 * (x4_1287).toInt + 4 := by
                              have q0 := e1368
                              have q1 := e1371
                              have q2 := e1374
                              have q3 := e1377
                              have q4 := e1380
                              simp only [(show (2 : Int32).toInt = 2 from rfl), (show (3 : Int32).toInt = 3 from rfl), (show (152 : Int32).toInt = 152 from rfl)] at q0 q1 q2 q3 q4
                              omega
                            have B1385 : sf_B (-1) 9 z1382 := ez1383 ▸ rf_p49o b1316 e1384 B1298 B1295 (by decide) (by decide) (by decide)
                            refine pm_R_ret pm_M255 (r := some (.int z1382)) rfl (pm_ret_i _) ?_
                            show pm_R _ 261 108 [.ref 41, .int a0, .int a1, .int a2, .int x4_1287] [.int z1382, .int (m_1287 47), .ref 69] _ _
                            obtain ⟨f1386, e1387⟩ := T_1287.2.2.2.1 69 (by decide) (by decide)
                            refine rf_R_ist pm_M261 T_1287 (pc' := 109) rfl e1387 (by decide) (by decide) (sf_in B1296 (by decide) (by decide)) ⟨_, rfl⟩ rfl (fun h1389 T1390 F1391 e1392 => ?_)
                            have F1393 := F_1287.trans F1391 (by decide)
                            refine pm_R_lo pm_M261 (pc' := 110) rfl rfl rfl ?_
                            refine pm_R_op pm_M261 (pc' := 111) (st' := [.ref 41, .ref 41]) (pm_q261_1 (Nat.le_of_ble_eq_true rfl)) rfl rfl ?_
                            refine rf_R_get pm_M261 T1390 (pc' := 114) (v := .int (m_1287 47)) (pm_q261_1 (Nat.le_of_ble_eq_true rfl)) rfl rfl rfl ?_
                            refine pm_R_op pm_M261 (pc' := 115) (st' := [.int 1, .int (m_1287 47), .ref 41]) (pm_q261_1 (Nat.le_of_ble_eq_true rfl)) rfl rfl ?_
                            refine sf_R_iadd pm_M261 (pc' := 116) (pm_q261_1 (Nat.le_of_ble_eq_true rfl)) rfl B1296 sf_k1 (by decide) (by decide) (fun z1394 e1395 B1396 => ?_)
                            refine rf_R_put pm_M261 T1390 (pc' := 119) (pm_q261_1 (Nat.le_of_ble_eq_true rfl)) rfl rfl (by decide) rfl rfl (sf_weak B1396 (by decide) (by decide)) rfl rfl (fun h1397 m1400 em1401 T1398 F1399 => ?_)
                            have F1402 := F1393.trans F1399 (by decide)
                            have B1403 : sf_B 1 50 (m1400 43) := by rw [em1401]; exact B1297
                            have B1404 : sf_B 1 50 (m1400 47) := by rw [em1401]; exact B1396
                            have ek1405 : (m1400 47).toInt = (z1394).toInt := by rw [em1401]; rfl
                            have W1406 : rf_W [42, 43, 44, 47] m m1400 := by rw [em1401]; exact W1291.put (by decide)
                            have W1407 : rf_W [47] m679 m1400 := by rw [em1401]; exact W_1287.put (by decide)
                            refine sf_R_iinc pm_M261 (pc' := 122) (ls' := fun z => [.ref 41, .int a0, .int a1, .int a2, .int z]) (pm_q261_1 (Nat.le_of_ble_eq_true rfl)) B1295 rfl (by decide) (by decide) (by decide) (fun _ => rfl) rfl (fun z1408 e1409 B1410 => ?_)
                            show pm_R _ 261 122 [.ref 41, .int a0, .int a1, .int a2, .int z1408] [] _ _
                            refine pm_R_br pm_M261 (pc' := 44) (pm_q261_1 (Nat.le_of_ble_eq_true rfl)) rfl ?_
                            exact ih_1287 _ (sf_up hN_1287 e1409 B1295 (by decide) (by decide)) h1397 m1400 w_1287 z1408 T1398 F1402 W1407 (sf_weak B1410 (by decide) (by decide)) (by have q0 := e1395; have q1 := ek1405; have q2 := e1409; have q3 := B1296.1; have q4 := B1296.2; have q5 := B1295.1; have q6 := B1295.2; have q7 := R0_1287; (try simp only [(show (1 : Int32).toInt = 1 from rfl), (show (1 : Int64).toInt = 1 from rfl)] at q0 q1 q2 ⊢); omega) rfl
                exact L_1287 _ h676 m679 w4 0 T677 F681 (rf_W.refl _ _) (sf_weak sf_k0 (by decide) (by decide)) (by have q0 := B682.1; have q1 := B682.2; simp only [(show (0 : Int32).toInt = 0 from rfl), (show (0 : Int64).toInt = 0 from rfl)]; omega) rfl
              · refine pm_R_op pm_M261 (pc' := 35) (st' := [.int 0]) rfl rfl rfl ?_
                exact pm_R_ret pm_M261 (r := some (.int 0)) rfl rfl (K 0 m3 w4 h5 T6 F9 W10 (sf_weak sf_k0 (by decide) (by decide)))

set_option maxRecDepth 100000 in
set_option maxHeartbeats 4000000 in
/-- SilentTableModel.meal -/
theorem rf_c253 {d : Nat} {m : Nat → Int32} {w : Int64} {h : pm_H} {Q : Option Value → pm_H → Prop} {a0 : Int32} {a1 : Int32} (T : rf_T m w h)  (K : ∀ (r : Int32) (m' : Nat → Int32) (w' : Int64) (h' : pm_H), rf_T m' w' h' → rf_G [41, 67, 68] h h' → rf_W [0, 42, 43, 44] m m' → Q (some (.int r)) h') : pm_R (d + 3) 253 0 [.ref 41, .int a0, .int a1, pm_no, pm_no, pm_no] [] h Q := by
  refine pm_R_lo pm_M253 (pc' := 1) rfl rfl rfl ?_
  refine pm_R_op pm_M253 (pc' := 2) (st' := [.int 0, .ref 41]) rfl rfl rfl ?_
  refine rf_R_put pm_M253 T (pc' := 5) rfl rfl rfl (by decide) rfl rfl sf_k0 rfl rfl (fun h1 m4 em5 T2 F3 => ?_)
  have F6 := (rf_G.refl [41, 67, 68] h).trans F3 (by decide)
  have B7 : sf_B 0 0 (m4 0) := by rw [em5]; exact sf_k0
  have W9 : rf_W [0, 42, 43, 44] m m4 := by rw [em5]; exact (rf_W.refl [0, 42, 43, 44] m).put (by decide)
  refine pm_R_lo pm_M253 (pc' := 6) rfl rfl rfl ?_
  refine pm_R_lo pm_M253 (pc' := 7) rfl rfl rfl ?_
  refine pm_R_cv pm_M253 (pc' := 10) (a := 41) (ra := [.int a0]) (rest := []) (ls' := [.ref 41, .int a0, pm_no, pm_no, pm_no, pm_no]) rfl rfl (Or.inl rfl) pm_M254 T2.2.1 rfl (by decide) (Nat.lt_of_lt_of_le (by decide) T2.1) rfl rfl (Nat.le_of_ble_eq_true rfl) rfl rfl ?_
  refine rf_c254 (d := d + 0) T2  (fun r10 m12 w13 h14 T15 F16 W17 B11 => ?_)
  have F18 := F6.trans F16 (by decide)
  have W19 : rf_W [0, 42, 43, 44] m m12 := W9.trans W17 (by decide)
  show pm_R _ 253 10 [.ref 41, .int a0, .int a1, pm_no, pm_no, pm_no] [.int r10] _ _
  refine pm_R_ifc pm_M253 (t := 22) (pc' := 13) rfl rfl rfl (fun c20 => ?_) (fun c20 => ?_)
  · have B21 : sf_B 0 0 r10 := sf_eqL c20 sf_k0
    refine pm_R_op pm_M253 (pc' := 23) (st' := [.int (-1)]) rfl rfl rfl ?_
    exact pm_R_ret pm_M253 (r := some (.int (-1))) rfl rfl (K (-1) m12 w13 h14 T15 F18 W19)
  · have B22 : sf_B 1 1 r10 := sf_neL0 c20 sf_k0 B11
    refine pm_R_lo pm_M253 (pc' := 14) rfl rfl rfl ?_
    refine pm_R_op pm_M253 (pc' := 15) (st' := [.int 0, .int a1]) rfl rfl rfl ?_
    refine pm_R_op pm_M253 (pc' := 16) (st' := [.int 3, .int 0, .int a1]) rfl rfl rfl ?_
    refine pm_R_cs pm_M253 (pc' := 19) (ra := [.int 3, .int 0, .int a1]) (rest := []) (ls' := [.int a1, .int 0, .int 3]) rfl rfl (Or.inl rfl) pm_M174 rfl rfl (Nat.le_of_ble_eq_true rfl) rfl rfl ?_
    refine pm_R_lo pm_M174 (pc' := 1) rfl rfl rfl ?_
    refine pm_R_lo pm_M174 (pc' := 2) rfl rfl rfl ?_
    refine pm_R_icmp pm_M174 (t := 14) (pc' := 5) rfl rfl rfl (fun c23 => ?_) (fun c23 => ?_)
    · have B24 : sf_B (-2147483648) (-1) a1 := sf_ltL c23 (sf_any a1) sf_k0
      refine pm_R_op pm_M174 (pc' := 15) (st' := [.int 0]) rfl rfl rfl ?_
      refine pm_R_ret pm_M174 (r := some (.int 0)) rfl rfl ?_
      show pm_R _ 253 19 [.ref 41, .int a0, .int a1, pm_no, pm_no, pm_no] [.int 0] _ _
      refine pm_R_br pm_M253 (pc' := 22) (st' := []) rfl rfl ?_
      refine pm_R_op pm_M253 (pc' := 23) (st' := [.int (-1)]) rfl rfl rfl ?_
      exact pm_R_ret pm_M253 (r := some (.int (-1))) rfl rfl (K (-1) m12 w13 h14 T15 F18 W19)
    · have B25 : sf_B 0 2147483647 a1 := sf_leR (Int32.not_lt.mp c23) sf_k0 (sf_any a1)
      refine pm_R_lo pm_M174 (pc' := 6) rfl rfl rfl ?_
      refine pm_R_lo pm_M174 (pc' := 7) rfl rfl rfl ?_
      refine pm_R_icmp pm_M174 (t := 14) (pc' := 10) rfl rfl rfl (fun c26 => ?_) (fun c26 => ?_)
      · have B27 : sf_B 4 2147483647 a1 := sf_ltR c26 sf_k3 B25
        refine pm_R_op pm_M174 (pc' := 15) (st' := [.int 0]) rfl rfl rfl ?_
        refine pm_R_ret pm_M174 (r := some (.int 0)) rfl rfl ?_
        show pm_R _ 253 19 [.ref 41, .int a0, .int a1, pm_no, pm_no, pm_no] [.int 0] _ _
        refine pm_R_br pm_M253 (pc' := 22) (st' := []) rfl rfl ?_
        refine pm_R_op pm_M253 (pc' := 23) (st' := [.int (-1)]) rfl rfl rfl ?_
        exact pm_R_ret pm_M253 (r := some (.int (-1))) rfl rfl (K (-1) m12 w13 h14 T15 F18 W19)
      · have B28 : sf_B 0 3 a1 := sf_leL (Int32.not_lt.mp c26) B25 sf_k3
        refine pm_R_op pm_M174 (pc' := 11) (st' := [.int 1]) rfl rfl rfl ?_
        refine pm_R_br pm_M174 (pc' := 15) rfl rfl ?_
        refine pm_R_ret pm_M174 (r := some (.int 1)) rfl rfl ?_
        show pm_R _ 253 19 [.ref 41, .int a0, .int a1, pm_no, pm_no, pm_no] [.int 1] _ _
        refine pm_R_br pm_M253 (pc' := 24) (st' := []) rfl rfl ?_
        refine pm_R_op pm_M253 (pc' := 25) (st' := [.int 0]) rfl rfl rfl ?_
        refine pm_R_lo pm_M253 (pc' := 26) (ls' := [.ref 41, .int a0, .int a1, .int 0, pm_no, pm_no]) (st' := []) rfl rfl rfl ?_
        refine pm_R_op pm_M253 (pc' := 27) (st' := [.int 0]) rfl rfl rfl ?_
        refine pm_R_lo pm_M253 (pc' := 29) (ls' := [.ref 41, .int a0, .int a1, .int 0, .int 0, pm_no]) (st' := []) rfl rfl rfl ?_
        refine pm_R_op pm_M253 (pc' := 30) (st' := [.int 0]) rfl rfl rfl ?_
        refine pm_R_lo pm_M253 (pc' := 32) (ls' := [.ref 41, .int a0, .int a1, .int 0, .int 0, .int 0]) (st' := []) rfl rfl rfl ?_
        have L_753 : ∀ (N : Nat) (x3_753 : Int32) (x4_753 : Int32) (x5_753 : Int32), sf_B (-2147483648) 2147483647 x3_753 → sf_B (-2147483648) 2147483647 x4_753 → sf_B 0 50 x5_753 → (50 - x5_753.toInt).toNat = N → pm_R (d + 3) 253 32 [.ref 41, .int a0, .int a1, .int x3_753, .int x4_753, .int x5_753] [] h14 Q := by
          intro N
          induction N using Nat.strongRecOn with
          | ind N ih_753 =>
            intro x3_753 x4_753 x5_753 Bx3_753 Bx4_753 Bx5_753 hN_753
            refine pm_R_lo pm_M253 (pc' := 34) rfl rfl rfl ?_
            refine pm_R_lo pm_M253 (pc' := 35) rfl rfl rfl ?_
            have B754 : sf_B 0 50 (m12 43) := T15.2.2.1 43
            refine rf_R_get pm_M253 T15 (pc' := 38) (v := .int (m12 43)) rfl rfl rfl rfl ?_
            refine pm_R_icmp pm_M253 (t := 93) (pc' := 41) rfl rfl rfl (fun c755 => ?_) (fun c755 => ?_)
            · skip
              refine pm_R_lo pm_M253 (pc' := 94) rfl rfl rfl ?_
              refine pm_R_ifc pm_M253 (t := 104) (pc' := 97) rfl rfl rfl (fun c756 => ?_) (fun c756 => ?_)
              · have B757 : sf_B 1 3 a1 := sf_neL0 c756 sf_k0 B28
                refine pm_R_lo pm_M253 (pc' := 105) rfl rfl rfl ?_
                refine pm_R_op pm_M253 (pc' := 106) (st' := [.int 1, .int a1]) rfl rfl rfl ?_
                refine pm_R_icmp pm_M253 (t := 116) (pc' := 109) rfl rfl rfl (fun c758 => ?_) (fun c758 => ?_)
                · have B759 : sf_B 2 3 a1 := sf_neL0 c758 sf_k1 B757
                  refine pm_R_lo pm_M253 (pc' := 117) (pm_q253_1 (Nat.le_of_ble_eq_true rfl)) rfl rfl ?_
                  refine pm_R_op pm_M253 (pc' := 118) (st' := [.int 2, .int a1]) (pm_q253_1 (Nat.le_of_ble_eq_true rfl)) rfl rfl ?_
                  refine pm_R_icmp pm_M253 (t := 125) (pc' := 121) (pm_q253_1 (Nat.le_of_ble_eq_true rfl)) rfl rfl (fun c760 => ?_) (fun c760 => ?_)
                  · have B761 : sf_B 3 3 a1 := sf_neL0 c760 sf_k2 B759
                    refine pm_R_lo pm_M253 (pc' := 127) (pm_q253_1 (Nat.le_of_ble_eq_true rfl)) rfl rfl ?_
                    exact pm_R_ret pm_M253 (r := some (.int x4_753)) (pm_q253_1 (Nat.le_of_ble_eq_true rfl)) (pm_ret_i _) (K x4_753 m12 w13 h14 T15 F18 W19)
                  · have B762 : sf_B 2 2 a1 := sf_eqL (Classical.not_not.mp c760) sf_k2
                    refine pm_R_lo pm_M253 (pc' := 122) (pm_q253_1 (Nat.le_of_ble_eq_true rfl)) rfl rfl ?_
                    refine pm_R_br pm_M253 (pc' := 127) (pm_q253_1 (Nat.le_of_ble_eq_true rfl)) rfl ?_
                    exact pm_R_ret pm_M253 (r := some (.int x3_753)) (pm_q253_1 (Nat.le_of_ble_eq_true rfl)) (pm_ret_i _) (K x3_753 m12 w13 h14 T15 F18 W19)
                · have B763 : sf_B 1 1 a1 := sf_eqL (Classical.not_not.mp c758) sf_k1
                  refine pm_R_lo pm_M253 (pc' := 110) rfl rfl rfl ?_
                  refine rf_R_get pm_M253 T15 (pc' := 113) (v := .int (m12 43)) (pm_q253_1 (Nat.le_of_ble_eq_true rfl)) rfl rfl rfl ?_
                  refine pm_R_br pm_M253 (pc' := 127) (pm_q253_1 (Nat.le_of_ble_eq_true rfl)) rfl ?_
                  exact pm_R_ret pm_M253 (r := some (.int (m12 43))) (pm_q253_1 (Nat.le_of_ble_eq_true rfl)) (pm_ret_i _) (K (m12 43) m12 w13 h14 T15 F18 W19)
              · have B764 : sf_B 0 0 a1 := sf_eqL (Classical.not_not.mp c756) sf_k0
                refine pm_R_lo pm_M253 (pc' := 98) rfl rfl rfl ?_
                have B765 : sf_B 0 6 (m12 42) := T15.2.2.1 42
                refine rf_R_get pm_M253 T15 (pc' := 101) (v := .int (m12 42)) rfl rfl rfl rfl ?_
                refine pm_R_br pm_M253 (pc' := 127) rfl rfl ?_
                exact pm_R_ret pm_M253 (r := some (.int (m12 42))) (pm_q253_1 (Nat.le_of_ble_eq_true rfl)) (pm_ret_i _) (K (m12 42) m12 w13 h14 T15 F18 W19)
            · have B766 : sf_B 0 49 x5_753 := sf_ltL (Int32.not_le.mp c755) Bx5_753 B754
              have B767 : sf_B 1 50 (m12 43) := sf_ltR (Int32.not_le.mp c755) Bx5_753 B754
              refine pm_R_lo pm_M253 (pc' := 42) rfl rfl rfl ?_
              refine pm_R_lo pm_M253 (pc' := 43) rfl rfl rfl ?_
              refine pm_R_lo pm_M253 (pc' := 45) rfl rfl rfl ?_
              refine pm_R_cv pm_M253 (pc' := 48) (a := 41) (ra := [.int x5_753]) (rest := [.int x3_753]) (ls' := [.ref 41, .int x5_753]) rfl rfl (Or.inl rfl) pm_M256 T15.2.1 rfl (by decide) (Nat.lt_of_lt_of_le (by decide) T15.1) rfl rfl (Nat.le_of_ble_eq_true rfl) rfl rfl ?_
              refine pm_R_lo pm_M256 (pc' := 1) rfl rfl rfl ?_
              refine pm_R_lo pm_M256 (pc' := 2) rfl rfl rfl ?_
              refine pm_R_op pm_M256 (pc' := 3) (st' := [.int 0, .int x5_753, .ref 41]) rfl rfl rfl ?_
              refine pm_R_cv pm_M256 (pc' := 6) (a := 41) (ra := [.int 0, .int x5_753]) (rest := []) (ls' := [.ref 41, .int x5_753, .int 0]) rfl rfl (Or.inl rfl) pm_M255 T15.2.1 rfl (by decide) (Nat.lt_of_lt_of_le (by decide) T15.1) rfl rfl (Nat.le_of_ble_eq_true rfl) rfl rfl ?_
              refine pm_R_lo pm_M255 (pc' := 1) rfl rfl rfl ?_
              refine rf_R_get pm_M255 T15 (pc' := 4) (v := .ref 49) rfl rfl rfl rfl ?_
              refine pm_R_op pm_M255 (pc' := 7) (st' := [.int 152, .ref 49]) rfl rfl rfl ?_
              refine pm_R_lo pm_M255 (pc' := 8) rfl rfl rfl ?_
              have B768 : sf_B 0 1 (m12 44) := T15.2.2.1 44
              refine rf_R_get pm_M255 T15 (pc' := 11) (v := .int (m12 44)) rfl rfl rfl rfl ?_
              refine sf_R_imul pm_M255 (pc' := 12) rfl rfl sf_k152 B768 (by decide) (by decide) (by decide) (fun z769 e770 B771 => ?_)
              refine pm_R_op pm_M255 (pc' := 13) (st' := [.int 2, .int z769, .ref 49]) rfl rfl rfl ?_
              refine sf_R_iadd pm_M255 (pc' := 14) rfl rfl B771 sf_k2 (by decide) (by decide) (fun z772 e773 B774 => ?_)
              refine pm_R_op pm_M255 (pc' := 15) (st' := [.int 3, .int z772, .ref 49]) rfl rfl rfl ?_
              refine pm_R_lo pm_M255 (pc' := 16) rfl rfl rfl ?_
              refine sf_R_imul pm_M255 (pc' := 17) rfl rfl sf_k3 B766 (by decide) (by decide) (by decide) (fun z775 e776 B777 => ?_)
              refine sf_R_iadd pm_M255 (pc' := 18) rfl rfl B774 B777 (by decide) (by decide) (fun z778 e779 B780 => ?_)
              refine pm_R_lo pm_M255 (pc' := 19) rfl rfl rfl ?_
              refine sf_R_iadd pm_M255 (pc' := 20) rfl rfl B780 sf_k0 (by decide) (by decide) (fun z781 e782 B783 => ?_)
              obtain ⟨f784, e785, b786⟩ := T15.2.2.2.1 49 (by decide) (by decide)
              refine rf_R_ild pm_M255 T15 (pc' := 21) rfl e785 (by decide) (sf_in B783 (by decide) (by decide)) rfl (fun z787 ez788 => ?_)
              have e789 : (z781).toInt = 152 * ((m12 44)).toInt + 3 * (x5_753).toInt + 2 := by
                have q0 := e770
                have q1 := e773
                have q2 := e776
                have q3 := e779
                have q4 := e782
                simp only [(show (0 : Int32).toInt = 0 from rfl), (show (2 : Int32).toInt = 2 from rfl), (show (3 : Int32).toInt = 3 from rfl), (show (152 : Int32).toInt = 152 from rfl)] at q0 q1 q2 q3 q4
                omega
              have B790 : sf_B 0 2 z787 := ez788 ▸ rf_p49s b786 e789 B768 B766 (by decide) (by decide) (by decide)
              refine pm_R_ret pm_M255 (r := some (.int z787)) rfl (pm_ret_i _) ?_
              show pm_R _ 256 6 [.ref 41, .int x5_753] [.int z787] _ _
              refine pm_R_op pm_M256 (pc' := 7) (st' := [.int 2, .int z787]) rfl rfl rfl ?_
              refine pm_R_icmp pm_M256 (t := 14) (pc' := 10) rfl rfl rfl (fun c791 => ?_) (fun c791 => ?_)
              · have B792 : sf_B 0 1 z787 := sf_neH0 c791 sf_k2 B790
                refine pm_R_op pm_M256 (pc' := 15) (st' := [.int 0]) rfl rfl rfl ?_
                refine pm_R_ret pm_M256 (r := some (.int 0)) rfl rfl ?_
                show pm_R _ 253 48 [.ref 41, .int a0, .int a1, .int x3_753, .int x4_753, .int x5_753] [.int 0, .int x3_753] _ _
                refine pm_R_br pm_M253 (pc' := 55) (st' := [.int x3_753]) rfl rfl ?_
                refine pm_R_op pm_M253 (pc' := 56) (st' := [.int 0, .int x3_753]) rfl rfl rfl ?_
                refine sf_R_iadd pm_M253 (pc' := 57) rfl rfl Bx3_753 sf_k0 (by decide) (by decide) (fun z793 e794 B795 => ?_)
                refine pm_R_lo pm_M253 (pc' := 58) (ls' := [.ref 41, .int a0, .int a1, .int z793, .int x4_753, .int x5_753]) (st' := []) rfl rfl rfl ?_
                refine pm_R_lo pm_M253 (pc' := 60) rfl rfl rfl ?_
                refine pm_R_lo pm_M253 (pc' := 61) rfl rfl rfl ?_
                refine pm_R_lo pm_M253 (pc' := 63) rfl rfl rfl ?_
                refine pm_R_cv pm_M253 (pc' := 66) (a := 41) (ra := [.int x5_753]) (rest := [.int x4_753]) (ls' := [.ref 41, .int x5_753]) rfl rfl (Or.inl rfl) pm_M256 T15.2.1 rfl (by decide) (Nat.lt_of_lt_of_le (by decide) T15.1) rfl rfl (Nat.le_of_ble_eq_true rfl) rfl rfl ?_
                refine pm_R_lo pm_M256 (pc' := 1) rfl rfl rfl ?_
                refine pm_R_lo pm_M256 (pc' := 2) rfl rfl rfl ?_
                refine pm_R_op pm_M256 (pc' := 3) (st' := [.int 0, .int x5_753, .ref 41]) rfl rfl rfl ?_
                refine pm_R_cv pm_M256 (pc' := 6) (a := 41) (ra := [.int 0, .int x5_753]) (rest := []) (ls' := [.ref 41, .int x5_753, .int 0]) rfl rfl (Or.inl rfl) pm_M255 T15.2.1 rfl (by decide) (Nat.lt_of_lt_of_le (by decide) T15.1) rfl rfl (Nat.le_of_ble_eq_true rfl) rfl rfl ?_
                refine pm_R_lo pm_M255 (pc' := 1) rfl rfl rfl ?_
                refine rf_R_get pm_M255 T15 (pc' := 4) (v := .ref 49) rfl rfl rfl rfl ?_
                refine pm_R_op pm_M255 (pc' := 7) (st' := [.int 152, .ref 49]) rfl rfl rfl ?_
                refine pm_R_lo pm_M255 (pc' := 8) rfl rfl rfl ?_
                refine rf_R_get pm_M255 T15 (pc' := 11) (v := .int (m12 44)) rfl rfl rfl rfl ?_
                refine sf_R_imul pm_M255 (pc' := 12) rfl rfl sf_k152 B768 (by decide) (by decide) (by decide) (fun z796 e797 B798 => ?_)
                refine pm_R_op pm_M255 (pc' := 13) (st' := [.int 2, .int z796, .ref 49]) rfl rfl rfl ?_
                refine sf_R_iadd pm_M255 (pc' := 14) rfl rfl B798 sf_k2 (by decide) (by decide) (fun z799 e800 B801 => ?_)
                refine pm_R_op pm_M255 (pc' := 15) (st' := [.int 3, .int z799, .ref 49]) rfl rfl rfl ?_
                refine pm_R_lo pm_M255 (pc' := 16) rfl rfl rfl ?_
                refine sf_R_imul pm_M255 (pc' := 17) rfl rfl sf_k3 B766 (by decide) (by decide) (by decide) (fun z802 e803 B804 => ?_)
                refine sf_R_iadd pm_M255 (pc' := 18) rfl rfl B801 B804 (by decide) (by decide) (fun z805 e806 B807 => ?_)
                refine pm_R_lo pm_M255 (pc' := 19) rfl rfl rfl ?_
                refine sf_R_iadd pm_M255 (pc' := 20) rfl rfl B807 sf_k0 (by decide) (by decide) (fun z808 e809 B810 => ?_)
                refine rf_R_ild pm_M255 T15 (pc' := 21) rfl e785 (by decide) (sf_in B810 (by decide) (by decide)) rfl (fun z811 ez812 => ?_)
                have e813 : (z808).toInt = 152 * ((m12 44)).toInt + 3 * (x5_753).toInt + 2 := by
                  have q0 := e797
                  have q1 := e800
                  have q2 := e803
                  have q3 := e806
                  have q4 := e809
                  simp only [(show (0 : Int32).toInt = 0 from rfl), (show (2 : Int32).toInt = 2 from rfl), (show (3 : Int32).toInt = 3 from rfl), (show (152 : Int32).toInt = 152 from rfl)] at q0 q1 q2 q3 q4
                  omega
                have B814 : sf_B 0 2 z811 := ez812 ▸ rf_p49s b786 e813 B768 B766 (by decide) (by decide) (by decide)
                refine pm_R_ret pm_M255 (r := some (.int z811)) rfl (pm_ret_i _) ?_
                show pm_R _ 256 6 [.ref 41, .int x5_753] [.int z811] _ _
                refine pm_R_op pm_M256 (pc' := 7) (st' := [.int 2, .int z811]) rfl rfl rfl ?_
                refine pm_R_icmp pm_M256 (t := 14) (pc' := 10) rfl rfl rfl (fun c815 => ?_) (fun c815 => ?_)
                · have B816 : sf_B 0 1 z811 := sf_neH0 c815 sf_k2 B814
                  refine pm_R_op pm_M256 (pc' := 15) (st' := [.int 0]) rfl rfl rfl ?_
                  refine pm_R_ret pm_M256 (r := some (.int 0)) rfl rfl ?_
                  show pm_R _ 253 66 [.ref 41, .int a0, .int a1, .int z793, .int x4_753, .int x5_753] [.int 0, .int x4_753] _ _
                  refine pm_R_br pm_M253 (pc' := 83) (st' := [.int x4_753]) rfl rfl ?_
                  refine pm_R_op pm_M253 (pc' := 84) (st' := [.int 0, .int x4_753]) rfl rfl rfl ?_
                  refine sf_R_iadd pm_M253 (pc' := 85) rfl rfl Bx4_753 sf_k0 (by decide) (by decide) (fun z817 e818 B819 => ?_)
                  refine pm_R_lo pm_M253 (pc' := 87) (ls' := [.ref 41, .int a0, .int a1, .int z793, .int z817, .int x5_753]) (st' := []) rfl rfl rfl ?_
                  refine sf_R_iinc pm_M253 (pc' := 90) (ls' := fun z => [.ref 41, .int a0, .int a1, .int z793, .int z817, .int z]) rfl B766 rfl (by decide) (by decide) (by decide) (fun _ => rfl) rfl (fun z820 e821 B822 => ?_)
                  show pm_R _ 253 90 [.ref 41, .int a0, .int a1, .int z793, .int z817, .int z820] [] _ _
                  refine pm_R_br pm_M253 (pc' := 32) rfl rfl ?_
                  exact ih_753 _ (sf_up hN_753 e821 B766 (by decide) (by decide)) z793 z817 z820 B795 B819 (sf_weak B822 (by decide) (by decide)) rfl
                · have B823 : sf_B 2 2 z811 := sf_eqL (Classical.not_not.mp c815) sf_k2
                  refine pm_R_op pm_M256 (pc' := 11) (st' := [.int 1]) rfl rfl rfl ?_
                  refine pm_R_br pm_M256 (pc' := 15) rfl rfl ?_
                  refine pm_R_ret pm_M256 (r := some (.int 1)) rfl rfl ?_
                  show pm_R _ 253 66 [.ref 41, .int a0, .int a1, .int z793, .int x4_753, .int x5_753] [.int 1, .int x4_753] _ _
                  refine pm_R_br pm_M253 (pc' := 69) (st' := [.int x4_753]) rfl rfl ?_
                  refine pm_R_lo pm_M253 (pc' := 70) rfl rfl rfl ?_
                  refine rf_R_get pm_M253 T15 (pc' := 73) (v := .ref 68) rfl rfl rfl rfl ?_
                  refine pm_R_lo pm_M253 (pc' := 75) rfl rfl rfl ?_
                  obtain ⟨f824, e825⟩ := T15.2.2.2.1 68 (by decide) (by decide)
                  refine rf_R_ild pm_M253 T15 (pc' := 76) rfl e825 (by decide) (sf_in B766 (by decide) (by decide)) rfl (fun z827 ez828 => ?_)
                  refine pm_R_ifc pm_M253 (t := 83) (pc' := 79) rfl rfl rfl (fun c829 => ?_) (fun c829 => ?_)
                  · skip
                    refine pm_R_op pm_M253 (pc' := 84) (st' := [.int 0, .int x4_753]) rfl rfl rfl ?_
                    refine sf_R_iadd pm_M253 (pc' := 85) rfl rfl Bx4_753 sf_k0 (by decide) (by decide) (fun z830 e831 B832 => ?_)
                    refine pm_R_lo pm_M253 (pc' := 87) (ls' := [.ref 41, .int a0, .int a1, .int z793, .int z830, .int x5_753]) (st' := []) rfl rfl rfl ?_
                    refine sf_R_iinc pm_M253 (pc' := 90) (ls' := fun z => [.ref 41, .int a0, .int a1, .int z793, .int z830, .int z]) rfl B766 rfl (by decide) (by decide) (by decide) (fun _ => rfl) rfl (fun z833 e834 B835 => ?_)
                    show pm_R _ 253 90 [.ref 41, .int a0, .int a1, .int z793, .int z830, .int z833] [] _ _
                    refine pm_R_br pm_M253 (pc' := 32) rfl rfl ?_
                    exact ih_753 _ (sf_up hN_753 e834 B766 (by decide) (by decide)) z793 z830 z833 B795 B832 (sf_weak B835 (by decide) (by decide)) rfl
                  · have B836 : sf_B 0 0 z827 := sf_eqL (Classical.not_not.mp c829) sf_k0
                    refine pm_R_op pm_M253 (pc' := 80) (st' := [.int 1, .int x4_753]) rfl rfl rfl ?_
                    refine pm_R_br pm_M253 (pc' := 84) rfl rfl ?_
                    refine sf_R_iany pm_M253 (pc' := 85) (st := []) rfl rfl rfl (fun z840 => ?_)
                    refine pm_R_lo pm_M253 (pc' := 87) (ls' := [.ref 41, .int a0, .int a1, .int z793, .int z840, .int x5_753]) (st' := []) rfl rfl rfl ?_
                    refine sf_R_iinc pm_M253 (pc' := 90) (ls' := fun z => [.ref 41, .int a0, .int a1, .int z793, .int z840, .int z]) rfl B766 rfl (by decide) (by decide) (by decide) (fun _ => rfl) rfl (fun z841 e842 B843 => ?_)
                    show pm_R _ 253 90 [.ref 41, .int a0, .int a1, .int z793, .int z840, .int z841] [] _ _
                    refine pm_R_br pm_M253 (pc' := 32) rfl rfl ?_
                    exact ih_753 _ (sf_up hN_753 e842 B766 (by decide) (by decide)) z793 z840 z841 B795 (sf_any z840) (sf_weak B843 (by decide) (by decide)) rfl
              · have B844 : sf_B 2 2 z787 := sf_eqL (Classical.not_not.mp c791) sf_k2
                refine pm_R_op pm_M256 (pc' := 11) (st' := [.int 1]) rfl rfl rfl ?_
                refine pm_R_br pm_M256 (pc' := 15) rfl rfl ?_
                refine pm_R_ret pm_M256 (r := some (.int 1)) rfl rfl ?_
                show pm_R _ 253 48 [.ref 41, .int a0, .int a1, .int x3_753, .int x4_753, .int x5_753] [.int 1, .int x3_753] _ _
                refine pm_R_br pm_M253 (pc' := 51) (st' := [.int x3_753]) rfl rfl ?_
                refine pm_R_op pm_M253 (pc' := 52) (st' := [.int 1, .int x3_753]) rfl rfl rfl ?_
                refine pm_R_br pm_M253 (pc' := 56) rfl rfl ?_
                refine sf_R_iany pm_M253 (pc' := 57) (st := []) rfl rfl rfl (fun z848 => ?_)
                refine pm_R_lo pm_M253 (pc' := 58) (ls' := [.ref 41, .int a0, .int a1, .int z848, .int x4_753, .int x5_753]) (st' := []) rfl rfl rfl ?_
                refine pm_R_lo pm_M253 (pc' := 60) rfl rfl rfl ?_
                refine pm_R_lo pm_M253 (pc' := 61) rfl rfl rfl ?_
                refine pm_R_lo pm_M253 (pc' := 63) rfl rfl rfl ?_
                refine pm_R_cv pm_M253 (pc' := 66) (a := 41) (ra := [.int x5_753]) (rest := [.int x4_753]) (ls' := [.ref 41, .int x5_753]) rfl rfl (Or.inl rfl) pm_M256 T15.2.1 rfl (by decide) (Nat.lt_of_lt_of_le (by decide) T15.1) rfl rfl (Nat.le_of_ble_eq_true rfl) rfl rfl ?_
                refine pm_R_lo pm_M256 (pc' := 1) rfl rfl rfl ?_
                refine pm_R_lo pm_M256 (pc' := 2) rfl rfl rfl ?_
                refine pm_R_op pm_M256 (pc' := 3) (st' := [.int 0, .int x5_753, .ref 41]) rfl rfl rfl ?_
                refine pm_R_cv pm_M256 (pc' := 6) (a := 41) (ra := [.int 0, .int x5_753]) (rest := []) (ls' := [.ref 41, .int x5_753, .int 0]) rfl rfl (Or.inl rfl) pm_M255 T15.2.1 rfl (by decide) (Nat.lt_of_lt_of_le (by decide) T15.1) rfl rfl (Nat.le_of_ble_eq_true rfl) rfl rfl ?_
                refine pm_R_lo pm_M255 (pc' := 1) rfl rfl rfl ?_
                refine rf_R_get pm_M255 T15 (pc' := 4) (v := .ref 49) rfl rfl rfl rfl ?_
                refine pm_R_op pm_M255 (pc' := 7) (st' := [.int 152, .ref 49]) rfl rfl rfl ?_
                refine pm_R_lo pm_M255 (pc' := 8) rfl rfl rfl ?_
                refine rf_R_get pm_M255 T15 (pc' := 11) (v := .int (m12 44)) rfl rfl rfl rfl ?_
                refine sf_R_imul pm_M255 (pc' := 12) rfl rfl sf_k152 B768 (by decide) (by decide) (by decide) (fun z849 e850 B851 => ?_)
                refine pm_R_op pm_M255 (pc' := 13) (st' := [.int 2, .int z849, .ref 49]) rfl rfl rfl ?_
                refine sf_R_iadd pm_M255 (pc' := 14) rfl rfl B851 sf_k2 (by decide) (by decide) (fun z852 e853 B854 => ?_)
                refine pm_R_op pm_M255 (pc' := 15) (st' := [.int 3, .int z852, .ref 49]) rfl rfl rfl ?_
                refine pm_R_lo pm_M255 (pc' := 16) rfl rfl rfl ?_
                refine sf_R_imul pm_M255 (pc' := 17) rfl rfl sf_k3 B766 (by decide) (by decide) (by decide) (fun z855 e856 B857 => ?_)
                refine sf_R_iadd pm_M255 (pc' := 18) rfl rfl B854 B857 (by decide) (by decide) (fun z858 e859 B860 => ?_)
                refine pm_R_lo pm_M255 (pc' := 19) rfl rfl rfl ?_
                refine sf_R_iadd pm_M255 (pc' := 20) rfl rfl B860 sf_k0 (by decide) (by decide) (fun z861 e862 B863 => ?_)
                refine rf_R_ild pm_M255 T15 (pc' := 21) rfl e785 (by decide) (sf_in B863 (by decide) (by decide)) rfl (fun z864 ez865 => ?_)
                have e866 : (z861).toInt = 152 * ((m12 44)).toInt + 3 * (x5_753).toInt + 2 := by
                  have q0 := e850
                  have q1 := e853
                  have q2 := e856
                  have q3 := e859
                  have q4 := e862
                  simp only [(show (0 : Int32).toInt = 0 from rfl), (show (2 : Int32).toInt = 2 from rfl), (show (3 : Int32).toInt = 3 from rfl), (show (152 : Int32).toInt = 152 from rfl)] at q0 q1 q2 q3 q4
                  omega
                have B867 : sf_B 0 2 z864 := ez865 ▸ rf_p49s b786 e866 B768 B766 (by decide) (by decide) (by decide)
                refine pm_R_ret pm_M255 (r := some (.int z864)) rfl (pm_ret_i _) ?_
                show pm_R _ 256 6 [.ref 41, .int x5_753] [.int z864] _ _
                refine pm_R_op pm_M256 (pc' := 7) (st' := [.int 2, .int z864]) rfl rfl rfl ?_
                refine pm_R_icmp pm_M256 (t := 14) (pc' := 10) rfl rfl rfl (fun c868 => ?_) (fun c868 => ?_)
                · have B869 : sf_B 0 1 z864 := sf_neH0 c868 sf_k2 B867
                  refine pm_R_op pm_M256 (pc' := 15) (st' := [.int 0]) rfl rfl rfl ?_
                  refine pm_R_ret pm_M256 (r := some (.int 0)) rfl rfl ?_
                  show pm_R _ 253 66 [.ref 41, .int a0, .int a1, .int z848, .int x4_753, .int x5_753] [.int 0, .int x4_753] _ _
                  refine pm_R_br pm_M253 (pc' := 83) (st' := [.int x4_753]) rfl rfl ?_
                  refine pm_R_op pm_M253 (pc' := 84) (st' := [.int 0, .int x4_753]) rfl rfl rfl ?_
                  refine sf_R_iadd pm_M253 (pc' := 85) rfl rfl Bx4_753 sf_k0 (by decide) (by decide) (fun z870 e871 B872 => ?_)
                  refine pm_R_lo pm_M253 (pc' := 87) (ls' := [.ref 41, .int a0, .int a1, .int z848, .int z870, .int x5_753]) (st' := []) rfl rfl rfl ?_
                  refine sf_R_iinc pm_M253 (pc' := 90) (ls' := fun z => [.ref 41, .int a0, .int a1, .int z848, .int z870, .int z]) rfl B766 rfl (by decide) (by decide) (by decide) (fun _ => rfl) rfl (fun z873 e874 B875 => ?_)
                  show pm_R _ 253 90 [.ref 41, .int a0, .int a1, .int z848, .int z870, .int z873] [] _ _
                  refine pm_R_br pm_M253 (pc' := 32) rfl rfl ?_
                  exact ih_753 _ (sf_up hN_753 e874 B766 (by decide) (by decide)) z848 z870 z873 (sf_any z848) B872 (sf_weak B875 (by decide) (by decide)) rfl
                · have B876 : sf_B 2 2 z864 := sf_eqL (Classical.not_not.mp c868) sf_k2
                  refine pm_R_op pm_M256 (pc' := 11) (st' := [.int 1]) rfl rfl rfl ?_
                  refine pm_R_br pm_M256 (pc' := 15) rfl rfl ?_
                  refine pm_R_ret pm_M256 (r := some (.int 1)) rfl rfl ?_
                  show pm_R _ 253 66 [.ref 41, .int a0, .int a1, .int z848, .int x4_753, .int x5_753] [.int 1, .int x4_753] _ _
                  refine pm_R_br pm_M253 (pc' := 69) (st' := [.int x4_753]) rfl rfl ?_
                  refine pm_R_lo pm_M253 (pc' := 70) rfl rfl rfl ?_
                  refine rf_R_get pm_M253 T15 (pc' := 73) (v := .ref 68) rfl rfl rfl rfl ?_
                  refine pm_R_lo pm_M253 (pc' := 75) rfl rfl rfl ?_
                  obtain ⟨f877, e878⟩ := T15.2.2.2.1 68 (by decide) (by decide)
                  refine rf_R_ild pm_M253 T15 (pc' := 76) rfl e878 (by decide) (sf_in B766 (by decide) (by decide)) rfl (fun z880 ez881 => ?_)
                  refine pm_R_ifc pm_M253 (t := 83) (pc' := 79) rfl rfl rfl (fun c882 => ?_) (fun c882 => ?_)
                  · skip
                    refine pm_R_op pm_M253 (pc' := 84) (st' := [.int 0, .int x4_753]) rfl rfl rfl ?_
                    refine sf_R_iadd pm_M253 (pc' := 85) rfl rfl Bx4_753 sf_k0 (by decide) (by decide) (fun z883 e884 B885 => ?_)
                    refine pm_R_lo pm_M253 (pc' := 87) (ls' := [.ref 41, .int a0, .int a1, .int z848, .int z883, .int x5_753]) (st' := []) rfl rfl rfl ?_
                    refine sf_R_iinc pm_M253 (pc' := 90) (ls' := fun z => [.ref 41, .int a0, .int a1, .int z848, .int z883, .int z]) rfl B766 rfl (by decide) (by decide) (by decide) (fun _ => rfl) rfl (fun z886 e887 B888 => ?_)
                    show pm_R _ 253 90 [.ref 41, .int a0, .int a1, .int z848, .int z883, .int z886] [] _ _
                    refine pm_R_br pm_M253 (pc' := 32) rfl rfl ?_
                    exact ih_753 _ (sf_up hN_753 e887 B766 (by decide) (by decide)) z848 z883 z886 (sf_any z848) B885 (sf_weak B888 (by decide) (by decide)) rfl
                  · have B889 : sf_B 0 0 z880 := sf_eqL (Classical.not_not.mp c882) sf_k0
                    refine pm_R_op pm_M253 (pc' := 80) (st' := [.int 1, .int x4_753]) rfl rfl rfl ?_
                    refine pm_R_br pm_M253 (pc' := 84) rfl rfl ?_
                    refine sf_R_iany pm_M253 (pc' := 85) (st := []) rfl rfl rfl (fun z893 => ?_)
                    refine pm_R_lo pm_M253 (pc' := 87) (ls' := [.ref 41, .int a0, .int a1, .int z848, .int z893, .int x5_753]) (st' := []) rfl rfl rfl ?_
                    refine sf_R_iinc pm_M253 (pc' := 90) (ls' := fun z => [.ref 41, .int a0, .int a1, .int z848, .int z893, .int z]) rfl B766 rfl (by decide) (by decide) (by decide) (fun _ => rfl) rfl (fun z894 e895 B896 => ?_)
                    show pm_R _ 253 90 [.ref 41, .int a0, .int a1, .int z848, .int z893, .int z894] [] _ _
                    refine pm_R_br pm_M253 (pc' := 32) rfl rfl ?_
                    exact ih_753 _ (sf_up hN_753 e895 B766 (by decide) (by decide)) z848 z893 z894 (sf_any z848) (sf_any z893) (sf_weak B896 (by decide) (by decide)) rfl
        exact L_753 _ 0 0 0 (sf_weak sf_k0 (by decide) (by decide)) (sf_weak sf_k0 (by decide) (by decide)) (sf_weak sf_k0 (by decide) (by decide)) rfl
