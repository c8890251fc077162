set_option maxRecDepth 100000 in
set_option maxHeartbeats 4000000 in
theorem p6_k3 {L n j : Nat} {xs : Nat → Int32} {h : pm_H} {Q : Option Value → pm_H → Prop} (I : p6_I L xs j h) (hn : n + 7 ≤ L) (hL : L ≤ 3584) (K : ∀ h_q, p6_I L xs (j + 1) h_q → pm_R 100 0 2117 [.ref 0, .ref 16, .ref 41, .int (Int32.ofNat n)] [] h_q Q) : pm_R 100 0 339 [.ref 0, .ref 16, .ref 41, .int (Int32.ofNat n)] [] h Q := by
  obtain ⟨x1, v1⟩ : ∃ y, xs (Int32.toNatClampNeg (Int32.ofNat (n + 1))) = y := ⟨_, rfl⟩
  obtain ⟨I, WW, KK, RR⟩ := I
  obtain ⟨ck, E, m, o, mr, wr, G, T, Tr, Y, e0, S, R, hc⟩ := I
  refine pm_R_lo pm_M0 (pc_q := 340) (pm_q0_2 (Nat.le_of_ble_eq_true rfl)) rfl rfl ?_
  refine pm_R_lo pm_M0 (pc_q := 341) (pm_q0_2 (Nat.le_of_ble_eq_true rfl)) rfl rfl ?_
  refine pm_R_lo pm_M0 (pc_q := 342) (pm_q0_2 (Nat.le_of_ble_eq_true rfl)) rfl rfl ?_
  refine pm_R_op pm_M0 (pc_q := 343) (st_q := [.int 1, .int (Int32.ofNat n), .ref 0, .ref 16]) (pm_q0_2 (Nat.le_of_ble_eq_true rfl)) rfl rfl ?_
  refine pm_R_op pm_M0 (pc_q := 344) (st_q := [.int (Int32.ofNat (n + 1)), .ref 0, .ref 16]) (pm_q0_2 (Nat.le_of_ble_eq_true rfl)) (congrArg (fun z => some (Value.int z :: [.ref 0, .ref 16])) (p2_ad (n := n) (c := 1) (k := 1) rfl)) rfl ?_
  refine pm_R_iald pm_M0 (pc_q := 345) (v := x1) (pm_q0_2 (Nat.le_of_ble_eq_true rfl)) ((T.old (by decide)).trans e0) (T.lt (by decide)) (p2_in (by omega) hL) v1 rfl ?_
  refine pm_R_cv pm_M0 (pc_q := 348) (a := 16) (ra := [.int x1]) (rest := []) (ls_q := [.ref 16, .int x1]) (pm_q0_2 (Nat.le_of_ble_eq_true rfl)) rfl (Or.inl rfl) pm_M55 T.e16 rfl (by decide) (T.lt (by decide)) rfl rfl (Nat.le_of_ble_eq_true rfl) rfl rfl ?_
  refine ex_inj WW KK rfl ?_
  refine cl_c55 G T (fun r1 _ => ?_)
  intro WW KK
  show pm_R 100 0 348 [.ref 0, .ref 16, .ref 41, .int (Int32.ofNat n)] [.int r1] _ _
  have I := p2_up (⟨ck, E, m, o, mr, wr, G, T, Tr, Y, e0, S, R, hc⟩ : p2_I L xs j h)
  obtain ⟨ck, E, m, o, mr, wr, G, T, Tr, Y, e0, S, R, hc⟩ := I
  refine pm_R_op pm_M0 (pc_q := 349) (st_q := []) (pm_q0_2 (Nat.le_of_ble_eq_true rfl)) rfl rfl ?_
  refine pm_R_lo pm_M0 (pc_q := 350) (pm_q0_2 (Nat.le_of_ble_eq_true rfl)) rfl rfl ?_
  refine pm_R_lo pm_M0 (pc_q := 351) (pm_q0_2 (Nat.le_of_ble_eq_true rfl)) rfl rfl ?_
  refine pm_R_lo pm_M0 (pc_q := 352) (pm_q0_2 (Nat.le_of_ble_eq_true rfl)) rfl rfl ?_
  refine pm_R_op pm_M0 (pc_q := 353) (st_q := [.int 1, .int (Int32.ofNat n), .ref 0, .ref 41]) (pm_q0_2 (Nat.le_of_ble_eq_true rfl)) rfl rfl ?_
  refine pm_R_op pm_M0 (pc_q := 354) (st_q := [.int (Int32.ofNat (n + 1)), .ref 0, .ref 41]) (pm_q0_2 (Nat.le_of_ble_eq_true rfl)) (congrArg (fun z => some (Value.int z :: [.ref 0, .ref 41])) (p2_ad (n := n) (c := 1) (k := 1) rfl)) rfl ?_
  refine pm_R_iald pm_M0 (pc_q := 355) (v := x1) (pm_q0_2 (Nat.le_of_ble_eq_true rfl)) ((T.old (by decide)).trans e0) (T.lt (by decide)) (p2_in (by omega) hL) v1 rfl ?_
  refine pm_R_cv pm_M0 (pc_q := 358) (a := 41) (ra := [.int x1]) (rest := []) (ls_q := [.ref 41, .int x1]) (pm_q0_2 (Nat.le_of_ble_eq_true rfl)) rfl (Or.inl rfl) pm_M194 Tr.2.1 rfl (by decide) (Nat.lt_of_lt_of_le (by decide) Tr.1) rfl rfl (Nat.le_of_ble_eq_true rfl) rfl rfl ?_
  refine ex_inj WW KK rfl ?_
  refine rf_c194 Tr (fun r2 m1 w1 h1 T1 F1 W1 _ => ?_)
  intro WW KK
  show pm_R 100 0 358 [.ref 0, .ref 16, .ref 41, .int (Int32.ofNat n)] [.int r2] _ _
  have RR := R2_rf F1 (by decide) RR
  have I := p2_rf G T Y e0 S R hc T1 F1 (by decide)
  refine pm_R_op pm_M0 (pc_q := 359) (st_q := []) (pm_q0_2 (Nat.le_of_ble_eq_true rfl)) rfl rfl ?_
  refine pm_R_br pm_M0 (pc_q := 2117) (pm_q0_2 (Nat.le_of_ble_eq_true rfl)) rfl ?_
  exact K _ ⟨I, WW, KK, RR⟩

set_option maxRecDepth 100000 in
set_option maxHeartbeats 4000000 in
theorem p6_k4 {L n j : Nat} {xs : Nat → Int32} {h : pm_H} {Q : Option Value → pm_H → Prop} (I : p6_I L xs j h) (hn : n + 7 ≤ L) (hL : L ≤ 3584) (K : ∀ h_q, p6_I L xs (j + 1) h_q → pm_R 100 0 2117 [.ref 0, .ref 16, .ref 41, .int (Int32.ofNat n)] [] h_q Q) : pm_R 100 0 362 [.ref 0, .ref 16, .ref 41, .int (Int32.ofNat n)] [] h Q := by
  obtain ⟨x1, v1⟩ : ∃ y, xs (Int32.toNatClampNeg (Int32.ofNat (n + 1))) = y := ⟨_, rfl⟩
  obtain ⟨x2, v2⟩ : ∃ y, xs (Int32.toNatClampNeg (Int32.ofNat (n + 2))) = y := ⟨_, rfl⟩
  obtain ⟨I, WW, KK, RR⟩ := I
  obtain ⟨ck, E, m, o, mr, wr, G, T, Tr, Y, e0, S, R, hc⟩ := I
  refine pm_R_lo pm_M0 (pc_q := 363) (pm_q0_2 (Nat.le_of_ble_eq_true rfl)) rfl rfl ?_
  refine pm_R_lo pm_M0 (pc_q := 364) (pm_q0_2 (Nat.le_of_ble_eq_true rfl)) rfl rfl ?_
  refine pm_R_lo pm_M0 (pc_q := 365) (pm_q0_2 (Nat.le_of_ble_eq_true rfl)) rfl rfl ?_
  refine pm_R_op pm_M0 (pc_q := 366) (st_q := [.int 1, .int (Int32.ofNat n), .ref 0, .ref 16]) (pm_q0_2 (Nat.le_of_ble_eq_true rfl)) rfl rfl ?_
  refine pm_R_op pm_M0 (pc_q := 367) (st_q := [.int (Int32.ofNat (n + 1)), .ref 0, .ref 16]) (pm_q0_2 (Nat.le_of_ble_eq_true rfl)) (congrArg (fun z => some (Value.int z :: [.ref 0, .ref 16])) (p2_ad (n := n) (c := 1) (k := 1) rfl)) rfl ?_
  refine pm_R_iald pm_M0 (pc_q := 368) (v := x1) (pm_q0_2 (Nat.le_of_ble_eq_true rfl)) ((T.old (by decide)).trans e0) (T.lt (by decide)) (p2_in (by omega) hL) v1 rfl ?_
  refine pm_R_lo pm_M0 (pc_q := 369) (pm_q0_2 (Nat.le_of_ble_eq_true rfl)) rfl rfl ?_
  refine pm_R_lo pm_M0 (pc_q := 370) (pm_q0_2 (Nat.le_of_ble_eq_true rfl)) rfl rfl ?_
  refine pm_R_op pm_M0 (pc_q := 371) (st_q := [.int 2, .int (Int32.ofNat n), .ref 0, .int x1, .ref 16]) (pm_q0_2 (Nat.le_of_ble_eq_true rfl)) rfl rfl ?_
  refine pm_R_op pm_M0 (pc_q := 372) (st_q := [.int (Int32.ofNat (n + 2)), .ref 0, .int x1, .ref 16]) (pm_q0_2 (Nat.le_of_ble_eq_true rfl)) (congrArg (fun z => some (Value.int z :: [.ref 0, .int x1, .ref 16])) (p2_ad (n := n) (c := 2) (k := 2) rfl)) rfl ?_
  refine pm_R_iald pm_M0 (pc_q := 373) (v := x2) (pm_q0_2 (Nat.le_of_ble_eq_true rfl)) ((T.old (by decide)).trans e0) (T.lt (by decide)) (p2_in (by omega) hL) v2 rfl ?_
  refine pm_R_cv pm_M0 (pc_q := 376) (a := 16) (ra := [.int x2, .int x1]) (rest := []) (ls_q := [.ref 16, .int x1, .int x2, pm_no]) (pm_q0_2 (Nat.le_of_ble_eq_true rfl)) rfl (Or.inl rfl) pm_M61 T.e16 rfl (by decide) (T.lt (by decide)) rfl rfl (Nat.le_of_ble_eq_true rfl) rfl rfl ?_
  refine ex_inj WW KK rfl ?_
  refine cl_c61 G T (fun r1 _ => ?_)
  intro WW KK
  show pm_R 100 0 376 [.ref 0, .ref 16, .ref 41, .int (Int32.ofNat n)] [.int r1] _ _
  have I := p2_up (⟨ck, E, m, o, mr, wr, G, T, Tr, Y, e0, S, R, hc⟩ : p2_I L xs j h)
  obtain ⟨ck, E, m, o, mr, wr, G, T, Tr, Y, e0, S, R, hc⟩ := I
  refine pm_R_op pm_M0 (pc_q := 377) (st_q := []) (pm_q0_2 (Nat.le_of_ble_eq_true rfl)) rfl rfl ?_
  refine pm_R_lo pm_M0 (pc_q := 378) (pm_q0_2 (Nat.le_of_ble_eq_true rfl)) rfl rfl ?_
  refine pm_R_lo pm_M0 (pc_q := 379) (pm_q0_2 (Nat.le_of_ble_eq_true rfl)) rfl rfl ?_
  refine pm_R_lo pm_M0 (pc_q := 380) (pm_q0_2 (Nat.le_of_ble_eq_true rfl)) rfl rfl ?_
  refine pm_R_op pm_M0 (pc_q := 381) (st_q := [.int 1, .int (Int32.ofNat n), .ref 0, .ref 41]) (pm_q0_2 (Nat.le_of_ble_eq_true rfl)) rfl rfl ?_
  refine pm_R_op pm_M0 (pc_q := 382) (st_q := [.int (Int32.ofNat (n + 1)), .ref 0, .ref 41]) (pm_q0_2 (Nat.le_of_ble_eq_true rfl)) (congrArg (fun z => some (Value.int z :: [.ref 0, .ref 41])) (p2_ad (n := n) (c := 1) (k := 1) rfl)) rfl ?_
  refine pm_R_iald pm_M0 (pc_q := 383) (v := x1) (pm_q0_2 (Nat.le_of_ble_eq_true rfl)) ((T.old (by decide)).trans e0) (T.lt (by decide)) (p2_in (by omega) hL) v1 rfl ?_
  refine pm_R_lo pm_M0 (pc_q := 384) (pm_q0_2 (Nat.le_of_ble_eq_true rfl)) rfl rfl ?_
  refine pm_R_lo pm_M0 (pc_q := 385) (pm_q0_2 (Nat.le_of_ble_eq_true rfl)) rfl rfl ?_
  refine pm_R_op pm_M0 (pc_q := 386) (st_q := [.int 2, .int (Int32.ofNat n), .ref 0, .int x1, .ref 41]) (pm_q0_2 (Nat.le_of_ble_eq_true rfl)) rfl rfl ?_
  refine pm_R_op pm_M0 (pc_q := 387) (st_q := [.int (Int32.ofNat (n + 2)), .ref 0, .int x1, .ref 41]) (pm_q0_2 (Nat.le_of_ble_eq_true rfl)) (congrArg (fun z => some (Value.int z :: [.ref 0, .int x1, .ref 41])) (p2_ad (n := n) (c := 2) (k := 2) rfl)) rfl ?_
  refine pm_R_iald pm_M0 (pc_q := 388) (v := x2) (pm_q0_2 (Nat.le_of_ble_eq_true rfl)) ((T.old (by decide)).trans e0) (T.lt (by decide)) (p2_in (by omega) hL) v2 rfl ?_
  refine pm_R_cv pm_M0 (pc_q := 391) (a := 41) (ra := [.int x2, .int x1]) (rest := []) (ls_q := [.ref 41, .int x1, .int x2]) (pm_q0_2 (Nat.le_of_ble_eq_true rfl)) rfl (Or.inl rfl) pm_M195 Tr.2.1 rfl (by decide) (Nat.lt_of_lt_of_le (by decide) Tr.1) rfl rfl (Nat.le_of_ble_eq_true rfl) rfl rfl ?_
  refine ex_inj WW KK rfl ?_
  refine rf_c195 Tr (fun r2 m1 w1 h1 T1 F1 W1 => ?_)
  intro WW KK
  show pm_R 100 0 391 [.ref 0, .ref 16, .ref 41, .int (Int32.ofNat n)] [.int r2] _ _
  have RR := R2_rf F1 (by decide) RR
  have I := p2_rf G T Y e0 S R hc T1 F1 (by decide)
  refine pm_R_op pm_M0 (pc_q := 392) (st_q := []) (pm_q0_2 (Nat.le_of_ble_eq_true rfl)) rfl rfl ?_
  refine pm_R_br pm_M0 (pc_q := 2117) (pm_q0_2 (Nat.le_of_ble_eq_true rfl)) rfl ?_
  exact K _ ⟨I, WW, KK, RR⟩

set_option maxRecDepth 100000 in
set_option maxHeartbeats 4000000 in
theorem p6_k5 {L n j : Nat} {xs : Nat → Int32} {h : pm_H} {Q : Option Value → pm_H → Prop} (I : p6_I L xs j h) (hn : n + 7 ≤ L) (hL : L ≤ 3584) (K : ∀ h_q, p6_I L xs (j + 1) h_q → pm_R 100 0 2117 [.ref 0, .ref 16, .ref 41, .int (Int32.ofNat n)] [] h_q Q) : pm_R 100 0 395 [.ref 0, .ref 16, .ref 41, .int (Int32.ofNat n)] [] h Q := by
  obtain ⟨x1, v1⟩ : ∃ y, xs (Int32.toNatClampNeg (Int32.ofNat (n + 1))) = y := ⟨_, rfl⟩
  obtain ⟨x2, v2⟩ : ∃ y, xs (Int32.toNatClampNeg (Int32.ofNat (n + 2))) = y := ⟨_, rfl⟩
  obtain ⟨x3, v3⟩ : ∃ y, xs (Int32.toNatClampNeg (Int32.ofNat (n + 3))) = y := ⟨_, rfl⟩
  obtain ⟨I, WW, KK, RR⟩ := I
  obtain ⟨ck, E, m, o, mr, wr, G, T, Tr, Y, e0, S, R, hc⟩ := I
  refine pm_R_lo pm_M0 (pc_q := 396) (pm_q0_2 (Nat.le_of_ble_eq_true rfl)) rfl rfl ?_
  refine pm_R_lo pm_M0 (pc_q := 397) (pm_q0_2 (Nat.le_of_ble_eq_true rfl)) rfl rfl ?_
  refine pm_R_lo pm_M0 (pc_q := 398) (pm_q0_2 (Nat.le_of_ble_eq_true rfl)) rfl rfl ?_
  refine pm_R_op pm_M0 (pc_q := 399) (st_q := [.int 1, .int (Int32.ofNat n), .ref 0, .ref 16]) (pm_q0_2 (Nat.le_of_ble_eq_true rfl)) rfl rfl ?_
  refine pm_R_op pm_M0 (pc_q := 400) (st_q := [.int (Int32.ofNat (n + 1)), .ref 0, .ref 16]) (pm_q0_2 (Nat.le_of_ble_eq_true rfl)) (congrArg (fun z => some (Value.int z :: [.ref 0, .ref 16])) (p2_ad (n := n) (c := 1) (k := 1) rfl)) rfl ?_
  refine pm_R_iald pm_M0 (pc_q := 401) (v := x1) (pm_q0_2 (Nat.le_of_ble_eq_true rfl)) ((T.old (by decide)).trans e0) (T.lt (by decide)) (p2_in (by omega) hL) v1 rfl ?_
  refine pm_R_lo pm_M0 (pc_q := 402) (pm_q0_2 (Nat.le_of_ble_eq_true rfl)) rfl rfl ?_
  refine pm_R_lo pm_M0 (pc_q := 403) (pm_q0_2 (Nat.le_of_ble_eq_true rfl)) rfl rfl ?_
  refine pm_R_op pm_M0 (pc_q := 404) (st_q := [.int 2, .int (Int32.ofNat n), .ref 0, .int x1, .ref 16]) (pm_q0_2 (Nat.le_of_ble_eq_true rfl)) rfl rfl ?_
  refine pm_R_op pm_M0 (pc_q := 405) (st_q := [.int (Int32.ofNat (n + 2)), .ref 0, .int x1, .ref 16]) (pm_q0_2 (Nat.le_of_ble_eq_true rfl)) (congrArg (fun z => some (Value.int z :: [.ref 0, .int x1, .ref 16])) (p2_ad (n := n) (c := 2) (k := 2) rfl)) rfl ?_
  refine pm_R_iald pm_M0 (pc_q := 406) (v := x2) (pm_q0_2 (Nat.le_of_ble_eq_true rfl)) ((T.old (by decide)).trans e0) (T.lt (by decide)) (p2_in (by omega) hL) v2 rfl ?_
  refine pm_R_lo pm_M0 (pc_q := 407) (pm_q0_2 (Nat.le_of_ble_eq_true rfl)) rfl rfl ?_
  refine pm_R_lo pm_M0 (pc_q := 408) (pm_q0_2 (Nat.le_of_ble_eq_true rfl)) rfl rfl ?_
  refine pm_R_op pm_M0 (pc_q := 409) (st_q := [.int 3, .int (Int32.ofNat n), .ref 0, .int x2, .int x1, .ref 16]) (pm_q0_3 (Nat.le_of_ble_eq_true rfl)) rfl rfl ?_
  refine pm_R_op pm_M0 (pc_q := 410) (st_q := [.int (Int32.ofNat (n + 3)), .ref 0, .int x2, .int x1, .ref 16]) (pm_q0_3 (Nat.le_of_ble_eq_true rfl)) (congrArg (fun z => some (Value.int z :: [.ref 0, .int x2, .int x1, .ref 16])) (p2_ad (n := n) (c := 3) (k := 3) rfl)) rfl ?_
  refine pm_R_iald pm_M0 (pc_q := 411) (v := x3) (pm_q0_3 (Nat.le_of_ble_eq_true rfl)) ((T.old (by decide)).trans e0) (T.lt (by decide)) (p2_in (by omega) hL) v3 rfl ?_
  refine pm_R_cv pm_M0 (pc_q := 414) (a := 16) (ra := [.int x3, .int x2, .int x1]) (rest := []) (ls_q := [.ref 16, .int x1, .int x2, .int x3, pm_no]) (pm_q0_3 (Nat.le_of_ble_eq_true rfl)) rfl (Or.inl rfl) pm_M63 T.e16 rfl (by decide) (T.lt (by decide)) rfl rfl (Nat.le_of_ble_eq_true rfl) rfl rfl ?_
  have CN := cnq_of T
  refine ex_injP WW KK (fun N => ec63 N _ _ _ _ _) ?_
  refine cl_c63 G T (fun r1 => ?_)
  intro WW KK P1
  obtain ⟨v1r, ev1r, P1⟩ := P1
  rw [ex_vi ev1r] at P1
  show pm_R 100 0 414 [.ref 0, .ref 16, .ref 41, .int (Int32.ofNat n)] [.int r1] _ _
  have RR0 := RR
  have I := p2_up (⟨ck, E, m, o, mr, wr, G, T, Tr, Y, e0, S, R, hc⟩ : p2_I L xs j h)
  obtain ⟨ck, E, m, o, mr, wr, G, T, Tr, Y, e0, S, R, hc⟩ := I
  refine pm_R_lo pm_M0 (pc_q := 415) (pm_q0_3 (Nat.le_of_ble_eq_true rfl)) rfl rfl ?_
  refine pm_R_lo pm_M0 (pc_q := 416) (pm_q0_3 (Nat.le_of_ble_eq_true rfl)) rfl rfl ?_
  refine pm_R_lo pm_M0 (pc_q := 417) (pm_q0_3 (Nat.le_of_ble_eq_true rfl)) rfl rfl ?_
  refine pm_R_op pm_M0 (pc_q := 418) (st_q := [.int 1, .int (Int32.ofNat n), .ref 0, .ref 41, .int r1]) (pm_q0_3 (Nat.le_of_ble_eq_true rfl)) rfl rfl ?_
  refine pm_R_op pm_M0 (pc_q := 419) (st_q := [.int (Int32.ofNat (n + 1)), .ref 0, .ref 41, .int r1]) (pm_q0_3 (Nat.le_of_ble_eq_true rfl)) (congrArg (fun z => some (Value.int z :: [.ref 0, .ref 41, .int r1])) (p2_ad (n := n) (c := 1) (k := 1) rfl)) rfl ?_
  refine pm_R_iald pm_M0 (pc_q := 420) (v := x1) (pm_q0_3 (Nat.le_of_ble_eq_true rfl)) ((T.old (by decide)).trans e0) (T.lt (by decide)) (p2_in (by omega) hL) v1 rfl ?_
  refine pm_R_lo pm_M0 (pc_q := 421) (pm_q0_3 (Nat.le_of_ble_eq_true rfl)) rfl rfl ?_
  refine pm_R_lo pm_M0 (pc_q := 422) (pm_q0_3 (Nat.le_of_ble_eq_true rfl)) rfl rfl ?_
  refine pm_R_op pm_M0 (pc_q := 423) (st_q := [.int 2, .int (Int32.ofNat n), .ref 0, .int x1, .ref 41, .int r1]) (pm_q0_3 (Nat.le_of_ble_eq_true rfl)) rfl rfl ?_
  refine pm_R_op pm_M0 (pc_q := 424) (st_q := [.int (Int32.ofNat (n + 2)), .ref 0, .int x1, .ref 41, .int r1]) (pm_q0_3 (Nat.le_of_ble_eq_true rfl)) (congrArg (fun z => some (Value.int z :: [.ref 0, .int x1, .ref 41, .int r1])) (p2_ad (n := n) (c := 2) (k := 2) rfl)) rfl ?_
  refine pm_R_iald pm_M0 (pc_q := 425) (v := x2) (pm_q0_3 (Nat.le_of_ble_eq_true rfl)) ((T.old (by decide)).trans e0) (T.lt (by decide)) (p2_in (by omega) hL) v2 rfl ?_
  refine pm_R_lo pm_M0 (pc_q := 426) (pm_q0_3 (Nat.le_of_ble_eq_true rfl)) rfl rfl ?_
  refine pm_R_lo pm_M0 (pc_q := 427) (pm_q0_3 (Nat.le_of_ble_eq_true rfl)) rfl rfl ?_
  refine pm_R_op pm_M0 (pc_q := 428) (st_q := [.int 3, .int (Int32.ofNat n), .ref 0, .int x2, .int x1, .ref 41, .int r1]) (pm_q0_3 (Nat.le_of_ble_eq_true rfl)) rfl rfl ?_
  refine pm_R_op pm_M0 (pc_q := 429) (st_q := [.int (Int32.ofNat (n + 3)), .ref 0, .int x2, .int x1, .ref 41, .int r1]) (pm_q0_3 (Nat.le_of_ble_eq_true rfl)) (congrArg (fun z => some (Value.int z :: [.ref 0, .int x2, .int x1, .ref 41, .int r1])) (p2_ad (n := n) (c := 3) (k := 3) rfl)) rfl ?_
  refine pm_R_iald pm_M0 (pc_q := 430) (v := x3) (pm_q0_3 (Nat.le_of_ble_eq_true rfl)) ((T.old (by decide)).trans e0) (T.lt (by decide)) (p2_in (by omega) hL) v3 rfl ?_
  refine pm_R_cv pm_M0 (pc_q := 433) (a := 41) (ra := [.int x3, .int x2, .int x1]) (rest := [.int r1]) (ls_q := [.ref 41, .int x1, .int x2, .int x3]) (pm_q0_3 (Nat.le_of_ble_eq_true rfl)) rfl (Or.inl rfl) pm_M196 Tr.2.1 rfl (by decide) (Nat.lt_of_lt_of_le (by decide) Tr.1) rfl rfl (Nat.le_of_ble_eq_true rfl) rfl rfl ?_
  refine ex_injP WW KK (fun N => ec196 N _ _ _ _ _) ?_
  refine rf_c196 Tr (fun r2 m1 w1 h1 T1 F1 W1 => ?_)
  intro WW KK P2
  obtain ⟨v2r, ev2r, P2⟩ := P2
  rw [ex_vi ev2r] at P2
  show pm_R 100 0 433 [.ref 0, .ref 16, .ref 41, .int (Int32.ofNat n)] [.int r2, .int r1] _ _
  have e12 : r1 = r2 := R_rule CN RR0 P1 P2
  have RR := R2_rf F1 (by decide) RR
  have I := p2_rf G T Y e0 S R hc T1 F1 (by decide)
  refine pm_R_icmp pm_M0 (t := 2117) (pc_q := 436) (pm_q0_3 (Nat.le_of_ble_eq_true rfl)) rfl rfl (fun _ => ?_) (fun c => absurd e12 c)
  exact K _ ⟨I, WW, KK, RR⟩

set_option maxRecDepth 100000 in
set_option maxHeartbeats 4000000 in
theorem p6_k6 {L n j : Nat} {xs : Nat → Int32} {h : pm_H} {Q : Option Value → pm_H → Prop} (I : p6_I L xs j h) (hn : n + 7 ≤ L) (hL : L ≤ 3584) (K : ∀ h_q, p6_I L xs (j + 1) h_q → pm_R 100 0 2117 [.ref 0, .ref 16, .ref 41, .int (Int32.ofNat n)] [] h_q Q) : pm_R 100 0 438 [.ref 0, .ref 16, .ref 41, .int (Int32.ofNat n)] [] h Q := by
  obtain ⟨x1, v1⟩ : ∃ y, xs (Int32.toNatClampNeg (Int32.ofNat (n + 1))) = y := ⟨_, rfl⟩
  obtain ⟨x2, v2⟩ : ∃ y, xs (Int32.toNatClampNeg (Int32.ofNat (n + 2))) = y := ⟨_, rfl⟩
  obtain ⟨x3, v3⟩ : ∃ y, xs (Int32.toNatClampNeg (Int32.ofNat (n + 3))) = y := ⟨_, rfl⟩
  obtain ⟨I, WW, KK, RR⟩ := I
  obtain ⟨ck, E, m, o, mr, wr, G, T, Tr, Y, e0, S, R, hc⟩ := I
  refine pm_R_lo pm_M0 (pc_q := 439) (pm_q0_3 (Nat.le_of_ble_eq_true rfl)) rfl rfl ?_
  refine pm_R_lo pm_M0 (pc_q := 440) (pm_q0_3 (Nat.le_of_ble_eq_true rfl)) rfl rfl ?_
  refine pm_R_lo pm_M0 (pc_q := 441) (pm_q0_3 (Nat.le_of_ble_eq_true rfl)) rfl rfl ?_
  refine pm_R_op pm_M0 (pc_q := 442) (st_q := [.int 1, .int (Int32.ofNat n), .ref 0, .ref 16]) (pm_q0_3 (Nat.le_of_ble_eq_true rfl)) rfl rfl ?_
  refine pm_R_op pm_M0 (pc_q := 443) (st_q := [.int (Int32.ofNat (n + 1)), .ref 0, .ref 16]) (pm_q0_3 (Nat.le_of_ble_eq_true rfl)) (congrArg (fun z => some (Value.int z :: [.ref 0, .ref 16])) (p2_ad (n := n) (c := 1) (k := 1) rfl)) rfl ?_
  refine pm_R_iald pm_M0 (pc_q := 444) (v := x1) (pm_q0_3 (Nat.le_of_ble_eq_true rfl)) ((T.old (by decide)).trans e0) (T.lt (by decide)) (p2_in (by omega) hL) v1 rfl ?_
  refine pm_R_lo pm_M0 (pc_q := 445) (pm_q0_3 (Nat.le_of_ble_eq_true rfl)) rfl rfl ?_
  refine pm_R_lo pm_M0 (pc_q := 446) (pm_q0_3 (Nat.le_of_ble_eq_true rfl)) rfl rfl ?_
  refine pm_R_op pm_M0 (pc_q := 447) (st_q := [.int 2, .int (Int32.ofNat n), .ref 0, .int x1, .ref 16]) (pm_q0_3 (Nat.le_of_ble_eq_true rfl)) rfl rfl ?_
  refine pm_R_op pm_M0 (pc_q := 448) (st_q := [.int (Int32.ofNat (n + 2)), .ref 0, .int x1, .ref 16]) (pm_q0_3 (Nat.le_of_ble_eq_true rfl)) (congrArg (fun z => some (Value.int z :: [.ref 0, .int x1, .ref 16])) (p2_ad (n := n) (c := 2) (k := 2) rfl)) rfl ?_
  refine pm_R_iald pm_M0 (pc_q := 449) (v := x2) (pm_q0_3 (Nat.le_of_ble_eq_true rfl)) ((T.old (by decide)).trans e0) (T.lt (by decide)) (p2_in (by omega) hL) v2 rfl ?_
  refine pm_R_lo pm_M0 (pc_q := 450) (pm_q0_3 (Nat.le_of_ble_eq_true rfl)) rfl rfl ?_
  refine pm_R_lo pm_M0 (pc_q := 451) (pm_q0_3 (Nat.le_of_ble_eq_true rfl)) rfl rfl ?_
  refine pm_R_op pm_M0 (pc_q := 452) (st_q := [.int 3, .int (Int32.ofNat n), .ref 0, .int x2, .int x1, .ref 16]) (pm_q0_3 (Nat.le_of_ble_eq_true rfl)) rfl rfl ?_
  refine pm_R_op pm_M0 (pc_q := 453) (st_q := [.int (Int32.ofNat (n + 3)), .ref 0, .int x2, .int x1, .ref 16]) (pm_q0_3 (Nat.le_of_ble_eq_true rfl)) (congrArg (fun z => some (Value.int z :: [.ref 0, .int x2, .int x1, .ref 16])) (p2_ad (n := n) (c := 3) (k := 3) rfl)) rfl ?_
  refine pm_R_iald pm_M0 (pc_q := 454) (v := x3) (pm_q0_3 (Nat.le_of_ble_eq_true rfl)) ((T.old (by decide)).trans e0) (T.lt (by decide)) (p2_in (by omega) hL) v3 rfl ?_
  refine pm_R_cv pm_M0 (pc_q := 457) (a := 16) (ra := [.int x3, .int x2, .int x1]) (rest := []) (ls_q := [.ref 16, .int x1, .int x2, .int x3, pm_no]) (pm_q0_3 (Nat.le_of_ble_eq_true rfl)) rfl (Or.inl rfl) pm_M64 T.e16 rfl (by decide) (T.lt (by decide)) rfl rfl (Nat.le_of_ble_eq_true rfl) rfl rfl ?_
  refine ex_inj WW KK rfl ?_
  refine cl_c64 G T (fun r1 => ?_)
  intro WW KK
  show pm_R 100 0 457 [.ref 0, .ref 16, .ref 41, .int (Int32.ofNat n)] [.int r1] _ _
  have I := p2_up (⟨ck, E, m, o, mr, wr, G, T, Tr, Y, e0, S, R, hc⟩ : p2_I L xs j h)
  obtain ⟨ck, E, m, o, mr, wr, G, T, Tr, Y, e0, S, R, hc⟩ := I
  refine pm_R_op pm_M0 (pc_q := 458) (st_q := []) (pm_q0_3 (Nat.le_of_ble_eq_true rfl)) rfl rfl ?_
  refine pm_R_lo pm_M0 (pc_q := 459) (pm_q0_3 (Nat.le_of_ble_eq_true rfl)) rfl rfl ?_
  refine pm_R_lo pm_M0 (pc_q := 460) (pm_q0_3 (Nat.le_of_ble_eq_true rfl)) rfl rfl ?_
  refine pm_R_lo pm_M0 (pc_q := 461) (pm_q0_3 (Nat.le_of_ble_eq_true rfl)) rfl rfl ?_
  refine pm_R_op pm_M0 (pc_q := 462) (st_q := [.int 1, .int (Int32.ofNat n), .ref 0, .ref 41]) (pm_q0_3 (Nat.le_of_ble_eq_true rfl)) rfl rfl ?_
  refine pm_R_op pm_M0 (pc_q := 463) (st_q := [.int (Int32.ofNat (n + 1)), .ref 0, .ref 41]) (pm_q0_3 (Nat.le_of_ble_eq_true rfl)) (congrArg (fun z => some (Value.int z :: [.ref 0, .ref 41])) (p2_ad (n := n) (c := 1) (k := 1) rfl)) rfl ?_
  refine pm_R_iald pm_M0 (pc_q := 464) (v := x1) (pm_q0_3 (Nat.le_of_ble_eq_true rfl)) ((T.old (by decide)).trans e0) (T.lt (by decide)) (p2_in (by omega) hL) v1 rfl ?_
  refine pm_R_lo pm_M0 (pc_q := 465) (pm_q0_3 (Nat.le_of_ble_eq_true rfl)) rfl rfl ?_
  refine pm_R_lo pm_M0 (pc_q := 466) (pm_q0_3 (Nat.le_of_ble_eq_true rfl)) rfl rfl ?_
  refine pm_R_op pm_M0 (pc_q := 467) (st_q := [.int 2, .int (Int32.ofNat n), .ref 0, .int x1, .ref 41]) (pm_q0_3 (Nat.le_of_ble_eq_true rfl)) rfl rfl ?_
  refine pm_R_op pm_M0 (pc_q := 468) (st_q := [.int (Int32.ofNat (n + 2)), .ref 0, .int x1, .ref 41]) (pm_q0_3 (Nat.le_of_ble_eq_true rfl)) (congrArg (fun z => some (Value.int z :: [.ref 0, .int x1, .ref 41])) (p2_ad (n := n) (c := 2) (k := 2) rfl)) rfl ?_
  refine pm_R_iald pm_M0 (pc_q := 469) (v := x2) (pm_q0_3 (Nat.le_of_ble_eq_true rfl)) ((T.old (by decide)).trans e0) (T.lt (by decide)) (p2_in (by omega) hL) v2 rfl ?_
  refine pm_R_lo pm_M0 (pc_q := 470) (pm_q0_3 (Nat.le_of_ble_eq_true rfl)) rfl rfl ?_
  refine pm_R_lo pm_M0 (pc_q := 471) (pm_q0_3 (Nat.le_of_ble_eq_true rfl)) rfl rfl ?_
  refine pm_R_op pm_M0 (pc_q := 472) (st_q := [.int 3, .int (Int32.ofNat n), .ref 0, .int x2, .int x1, .ref 41]) (pm_q0_3 (Nat.le_of_ble_eq_true rfl)) rfl rfl ?_
  refine pm_R_op pm_M0 (pc_q := 473) (st_q := [.int (Int32.ofNat (n + 3)), .ref 0, .int x2, .int x1, .ref 41]) (pm_q0_3 (Nat.le_of_ble_eq_true rfl)) (congrArg (fun z => some (Value.int z :: [.ref 0, .int x2, .int x1, .ref 41])) (p2_ad (n := n) (c := 3) (k := 3) rfl)) rfl ?_
  refine pm_R_iald pm_M0 (pc_q := 474) (v := x3) (pm_q0_3 (Nat.le_of_ble_eq_true rfl)) ((T.old (by decide)).trans e0) (T.lt (by decide)) (p2_in (by omega) hL) v3 rfl ?_
  refine pm_R_cv pm_M0 (pc_q := 477) (a := 41) (ra := [.int x3, .int x2, .int x1]) (rest := []) (ls_q := [.ref 41, .int x1, .int x2, .int x3]) (pm_q0_3 (Nat.le_of_ble_eq_true rfl)) rfl (Or.inl rfl) pm_M197 Tr.2.1 rfl (by decide) (Nat.lt_of_lt_of_le (by decide) Tr.1) rfl rfl (Nat.le_of_ble_eq_true rfl) rfl rfl ?_
  refine ex_inj WW KK rfl ?_
  refine rf_c197 Tr (fun r2 m1 w1 h1 T1 F1 W1 => ?_)
  intro WW KK
  show pm_R 100 0 477 [.ref 0, .ref 16, .ref 41, .int (Int32.ofNat n)] [.int r2] _ _
  have RR := R2_rf F1 (by decide) RR
  have I := p2_rf G T Y e0 S R hc T1 F1 (by decide)
  refine pm_R_op pm_M0 (pc_q := 478) (st_q := []) (pm_q0_3 (Nat.le_of_ble_eq_true rfl)) rfl rfl ?_
  refine pm_R_br pm_M0 (pc_q := 2117) (pm_q0_4 (Nat.le_of_ble_eq_true rfl)) rfl ?_
  exact K _ ⟨I, WW, KK, RR⟩

set_option maxRecDepth 100000 in
set_option maxHeartbeats 4000000 in
theorem p6_k7 {L n j : Nat} {xs : Nat → Int32} {h : pm_H} {Q : Option Value → pm_H → Prop} (I : p6_I L xs j h) (hn : n + 7 ≤ L) (hL : L ≤ 3584) (K : ∀ h_q, p6_I L xs (j + 1) h_q → pm_R 100 0 2117 [.ref 0, .ref 16, .ref 41, .int (Int32.ofNat n)] [] h_q Q) : pm_R 100 0 481 [.ref 0, .ref 16, .ref 41, .int (Int32.ofNat n)] [] h Q := by
  obtain ⟨x1, v1⟩ : ∃ y, xs (Int32.toNatClampNeg (Int32.ofNat (n + 1))) = y := ⟨_, rfl⟩
  obtain ⟨x2, v2⟩ : ∃ y, xs (Int32.toNatClampNeg (Int32.ofNat (n + 2))) = y := ⟨_, rfl⟩
  obtain ⟨I, WW, KK, RR⟩ := I
  obtain ⟨ck, E, m, o, mr, wr, G, T, Tr, Y, e0, S, R, hc⟩ := I
  refine pm_R_lo pm_M0 (pc_q := 482) (pm_q0_4 (Nat.le_of_ble_eq_true rfl)) rfl rfl ?_
  refine pm_R_lo pm_M0 (pc_q := 483) (pm_q0_4 (Nat.le_of_ble_eq_true rfl)) rfl rfl ?_
  refine pm_R_lo pm_M0 (pc_q := 484) (pm_q0_4 (Nat.le_of_ble_eq_true rfl)) rfl rfl ?_
  refine pm_R_op pm_M0 (pc_q := 485) (st_q := [.int 1, .int (Int32.ofNat n), .ref 0, .ref 16]) (pm_q0_4 (Nat.le_of_ble_eq_true rfl)) rfl rfl ?_
  refine pm_R_op pm_M0 (pc_q := 486) (st_q := [.int (Int32.ofNat (n + 1)), .ref 0, .ref 16]) (pm_q0_4 (Nat.le_of_ble_eq_true rfl)) (congrArg (fun z => some (Value.int z :: [.ref 0, .ref 16])) (p2_ad (n := n) (c := 1) (k := 1) rfl)) rfl ?_
  refine pm_R_iald pm_M0 (pc_q := 487) (v := x1) (pm_q0_4 (Nat.le_of_ble_eq_true rfl)) ((T.old (by decide)).trans e0) (T.lt (by decide)) (p2_in (by omega) hL) v1 rfl ?_
  refine pm_R_lo pm_M0 (pc_q := 488) (pm_q0_4 (Nat.le_of_ble_eq_true rfl)) rfl rfl ?_
  refine pm_R_lo pm_M0 (pc_q := 489) (pm_q0_4 (Nat.le_of_ble_eq_true rfl)) rfl rfl ?_
  refine pm_R_op pm_M0 (pc_q := 490) (st_q := [.int 2, .int (Int32.ofNat n), .ref 0, .int x1, .ref 16]) (pm_q0_4 (Nat.le_of_ble_eq_true rfl)) rfl rfl ?_
  refine pm_R_op pm_M0 (pc_q := 491) (st_q := [.int (Int32.ofNat (n + 2)), .ref 0, .int x1, .ref 16]) (pm_q0_4 (Nat.le_of_ble_eq_true rfl)) (congrArg (fun z => some (Value.int z :: [.ref 0, .int x1, .ref 16])) (p2_ad (n := n) (c := 2) (k := 2) rfl)) rfl ?_
  refine pm_R_iald pm_M0 (pc_q := 492) (v := x2) (pm_q0_4 (Nat.le_of_ble_eq_true rfl)) ((T.old (by decide)).trans e0) (T.lt (by decide)) (p2_in (by omega) hL) v2 rfl ?_
  refine pm_R_cv pm_M0 (pc_q := 495) (a := 16) (ra := [.int x2, .int x1]) (rest := []) (ls_q := [.ref 16, .int x1, .int x2, pm_no]) (pm_q0_4 (Nat.le_of_ble_eq_true rfl)) rfl (Or.inl rfl) pm_M65 T.e16 rfl (by decide) (T.lt (by decide)) rfl rfl (Nat.le_of_ble_eq_true rfl) rfl rfl ?_
  refine ex_inj WW KK rfl ?_
  refine cl_c65 G T (fun r1 _ => ?_)
  intro WW KK
  show pm_R 100 0 495 [.ref 0, .ref 16, .ref 41, .int (Int32.ofNat n)] [.int r1] _ _
  have I := p2_up (⟨ck, E, m, o, mr, wr, G, T, Tr, Y, e0, S, R, hc⟩ : p2_I L xs j h)
  obtain ⟨ck, E, m, o, mr, wr, G, T, Tr, Y, e0, S, R, hc⟩ := I
  refine pm_R_op pm_M0 (pc_q := 496) (st_q := []) (pm_q0_4 (Nat.le_of_ble_eq_true rfl)) rfl rfl ?_
  refine pm_R_lo pm_M0 (pc_q := 497) (pm_q0_4 (Nat.le_of_ble_eq_true rfl)) rfl rfl ?_
  refine pm_R_lo pm_M0 (pc_q := 498) (pm_q0_4 (Nat.le_of_ble_eq_true rfl)) rfl rfl ?_
  refine pm_R_lo pm_M0 (pc_q := 499) (pm_q0_4 (Nat.le_of_ble_eq_true rfl)) rfl rfl ?_
  refine pm_R_op pm_M0 (pc_q := 500) (st_q := [.int 1, .int (Int32.ofNat n), .ref 0, .ref 41]) (pm_q0_4 (Nat.le_of_ble_eq_true rfl)) rfl rfl ?_
  refine pm_R_op pm_M0 (pc_q := 501) (st_q := [.int (Int32.ofNat (n + 1)), .ref 0, .ref 41]) (pm_q0_4 (Nat.le_of_ble_eq_true rfl)) (congrArg (fun z => some (Value.int z :: [.ref 0, .ref 41])) (p2_ad (n := n) (c := 1) (k := 1) rfl)) rfl ?_
  refine pm_R_iald pm_M0 (pc_q := 502) (v := x1) (pm_q0_4 (Nat.le_of_ble_eq_true rfl)) ((T.old (by decide)).trans e0) (T.lt (by decide)) (p2_in (by omega) hL) v1 rfl ?_
  refine pm_R_lo pm_M0 (pc_q := 503) (pm_q0_4 (Nat.le_of_ble_eq_true rfl)) rfl rfl ?_
  refine pm_R_lo pm_M0 (pc_q := 504) (pm_q0_4 (Nat.le_of_ble_eq_true rfl)) rfl rfl ?_
  refine pm_R_op pm_M0 (pc_q := 505) (st_q := [.int 2, .int (Int32.ofNat n), .ref 0, .int x1, .ref 41]) (pm_q0_4 (Nat.le_of_ble_eq_true rfl)) rfl rfl ?_
  refine pm_R_op pm_M0 (pc_q := 506) (st_q := [.int (Int32.ofNat (n + 2)), .ref 0, .int x1, .ref 41]) (pm_q0_4 (Nat.le_of_ble_eq_true rfl)) (congrArg (fun z => some (Value.int z :: [.ref 0, .int x1, .ref 41])) (p2_ad (n := n) (c := 2) (k := 2) rfl)) rfl ?_
  refine pm_R_iald pm_M0 (pc_q := 507) (v := x2) (pm_q0_4 (Nat.le_of_ble_eq_true rfl)) ((T.old (by decide)).trans e0) (T.lt (by decide)) (p2_in (by omega) hL) v2 rfl ?_
  refine pm_R_cv pm_M0 (pc_q := 510) (a := 41) (ra := [.int x2, .int x1]) (rest := []) (ls_q := [.ref 41, .int x1, .int x2]) (pm_q0_4 (Nat.le_of_ble_eq_true rfl)) rfl (Or.inl rfl) pm_M198 Tr.2.1 rfl (by decide) (Nat.lt_of_lt_of_le (by decide) Tr.1) rfl rfl (Nat.le_of_ble_eq_true rfl) rfl rfl ?_
  refine ex_inj WW KK rfl ?_
  refine rf_c198 Tr (fun r2 m1 w1 h1 T1 F1 W1 _ => ?_)
  intro WW KK
  show pm_R 100 0 510 [.ref 0, .ref 16, .ref 41, .int (Int32.ofNat n)] [.int r2] _ _
  have RR := R2_rf F1 (by decide) RR
  have I := p2_rf G T Y e0 S R hc T1 F1 (by decide)
  refine pm_R_op pm_M0 (pc_q := 511) (st_q := []) (pm_q0_4 (Nat.le_of_ble_eq_true rfl)) rfl rfl ?_
  refine pm_R_br pm_M0 (pc_q := 2117) (pm_q0_4 (Nat.le_of_ble_eq_true rfl)) rfl ?_
  exact K _ ⟨I, WW, KK, RR⟩

set_option maxRecDepth 100000 in
set_option maxHeartbeats 4000000 in
theorem p6_k8 {L n j : Nat} {xs : Nat → Int32} {h : pm_H} {Q : Option Value → pm_H → Prop} (I : p6_I L xs j h) (hn : n + 7 ≤ L) (hL : L ≤ 3584) (K : ∀ h_q, p6_I L xs (j + 1) h_q → pm_R 100 0 2117 [.ref 0, .ref 16, .ref 41, .int (Int32.ofNat n)] [] h_q Q) : pm_R 100 0 514 [.ref 0, .ref 16, .ref 41, .int (Int32.ofNat n)] [] h Q := by
  obtain ⟨x1, v1⟩ : ∃ y, xs (Int32.toNatClampNeg (Int32.ofNat (n + 1))) = y := ⟨_, rfl⟩
  obtain ⟨x2, v2⟩ : ∃ y, xs (Int32.toNatClampNeg (Int32.ofNat (n + 2))) = y := ⟨_, rfl⟩
  obtain ⟨x3, v3⟩ : ∃ y, xs (Int32.toNatClampNeg (Int32.ofNat (n + 3))) = y := ⟨_, rfl⟩
  obtain ⟨x4, v4⟩ : ∃ y, xs (Int32.toNatClampNeg (Int32.ofNat (n + 4))) = y := ⟨_, rfl⟩
  obtain ⟨x5, v5⟩ : ∃ y, xs (Int32.toNatClampNeg (Int32.ofNat (n + 5))) = y := ⟨_, rfl⟩
  obtain ⟨I, WW, KK, RR⟩ := I
  obtain ⟨ck, E, m, o, mr, wr, G, T, Tr, Y, e0, S, R, hc⟩ := I
  refine pm_R_lo pm_M0 (pc_q := 515) (pm_q0_4 (Nat.le_of_ble_eq_true rfl)) rfl rfl ?_
  refine pm_R_lo pm_M0 (pc_q := 516) (pm_q0_4 (Nat.le_of_ble_eq_true rfl)) rfl rfl ?_
  refine pm_R_lo pm_M0 (pc_q := 517) (pm_q0_4 (Nat.le_of_ble_eq_true rfl)) rfl rfl ?_
  refine pm_R_op pm_M0 (pc_q := 518) (st_q := [.int 1, .int (Int32.ofNat n), .ref 0, .ref 16]) (pm_q0_4 (Nat.le_of_ble_eq_true rfl)) rfl rfl ?_
  refine pm_R_op pm_M0 (pc_q := 519) (st_q := [.int (Int32.ofNat (n + 1)), .ref 0, .ref 16]) (pm_q0_4 (Nat.le_of_ble_eq_true rfl)) (congrArg (fun z => some (Value.int z :: [.ref 0, .ref 16])) (p2_ad (n := n) (c := 1) (k := 1) rfl)) rfl ?_
  refine pm_R_iald pm_M0 (pc_q := 520) (v := x1) (pm_q0_4 (Nat.le_of_ble_eq_true rfl)) ((T.old (by decide)).trans e0) (T.lt (by decide)) (p2_in (by omega) hL) v1 rfl ?_
  refine pm_R_lo pm_M0 (pc_q := 521) (pm_q0_4 (Nat.le_of_ble_eq_true rfl)) rfl rfl ?_
  refine pm_R_lo pm_M0 (pc_q := 522) (pm_q0_4 (Nat.le_of_ble_eq_true rfl)) rfl rfl ?_
  refine pm_R_op pm_M0 (pc_q := 523) (st_q := [.int 2, .int (Int32.ofNat n), .ref 0, .int x1, .ref 16]) (pm_q0_4 (Nat.le_of_ble_eq_true rfl)) rfl rfl ?_
  refine pm_R_op pm_M0 (pc_q := 524) (st_q := [.int (Int32.ofNat (n + 2)), .ref 0, .int x1, .ref 16]) (pm_q0_4 (Nat.le_of_ble_eq_true rfl)) (congrArg (fun z => some (Value.int z :: [.ref 0, .int x1, .ref 16])) (p2_ad (n := n) (c := 2) (k := 2) rfl)) rfl ?_
  refine pm_R_iald pm_M0 (pc_q := 525) (v := x2) (pm_q0_4 (Nat.le_of_ble_eq_true rfl)) ((T.old (by decide)).trans e0) (T.lt (by decide)) (p2_in (by omega) hL) v2 rfl ?_
  refine pm_R_lo pm_M0 (pc_q := 526) (pm_q0_4 (Nat.le_of_ble_eq_true rfl)) rfl rfl ?_
  refine pm_R_lo pm_M0 (pc_q := 527) (pm_q0_4 (Nat.le_of_ble_eq_true rfl)) rfl rfl ?_
  refine pm_R_op pm_M0 (pc_q := 528) (st_q := [.int 3, .int (Int32.ofNat n), .ref 0, .int x2, .int x1, .ref 16]) (pm_q0_4 (Nat.le_of_ble_eq_true rfl)) rfl rfl ?_
  refine pm_R_op pm_M0 (pc_q := 529) (st_q := [.int (Int32.ofNat (n + 3)), .ref 0, .int x2, .int x1, .ref 16]) (pm_q0_4 (Nat.le_of_ble_eq_true rfl)) (congrArg (fun z => some (Value.int z :: [.ref 0, .int x2, .int x1, .ref 16])) (p2_ad (n := n) (c := 3) (k := 3) rfl)) rfl ?_
  refine pm_R_iald pm_M0 (pc_q := 530) (v := x3) (pm_q0_4 (Nat.le_of_ble_eq_true rfl)) ((T.old (by decide)).trans e0) (T.lt (by decide)) (p2_in (by omega) hL) v3 rfl ?_
  refine pm_R_lo pm_M0 (pc_q := 531) (pm_q0_4 (Nat.le_of_ble_eq_true rfl)) rfl rfl ?_
  refine pm_R_lo pm_M0 (pc_q := 532) (pm_q0_4 (Nat.le_of_ble_eq_true rfl)) rfl rfl ?_
  refine pm_R_op pm_M0 (pc_q := 533) (st_q := [.int 4, .int (Int32.ofNat n), .ref 0, .int x3, .int x2, .int x1, .ref 16]) (pm_q0_4 (Nat.le_of_ble_eq_true rfl)) rfl rfl ?_
  refine pm_R_op pm_M0 (pc_q := 534) (st_q := [.int (Int32.ofNat (n + 4)), .ref 0, .int x3, .int x2, .int x1, .ref 16]) (pm_q0_4 (Nat.le_of_ble_eq_true rfl)) (congrArg (fun z => some (Value.int z :: [.ref 0, .int x3, .int x2, .int x1, .ref 16])) (p2_ad (n := n) (c := 4) (k := 4) rfl)) rfl ?_
  refine pm_R_iald pm_M0 (pc_q := 535) (v := x4) (pm_q0_4 (Nat.le_of_ble_eq_true rfl)) ((T.old (by decide)).trans e0) (T.lt (by decide)) (p2_in (by omega) hL) v4 rfl ?_
  refine pm_R_lo pm_M0 (pc_q := 536) (pm_q0_4 (Nat.le_of_ble_eq_true rfl)) rfl rfl ?_
  refine pm_R_lo pm_M0 (pc_q := 537) (pm_q0_4 (Nat.le_of_ble_eq_true rfl)) rfl rfl ?_
  refine pm_R_op pm_M0 (pc_q := 538) (st_q := [.int 5, .int (Int32.ofNat n), .ref 0, .int x4, .int x3, .int x2, .int x1, .ref 16]) (pm_q0_4 (Nat.le_of_ble_eq_true rfl)) rfl rfl ?_
  refine pm_R_op pm_M0 (pc_q := 539) (st_q := [.int (Int32.ofNat (n + 5)), .ref 0, .int x4, .int x3, .int x2, .int x1, .ref 16]) (pm_q0_4 (Nat.le_of_ble_eq_true rfl)) (congrArg (fun z => some (Value.int z :: [.ref 0, .int x4, .int x3, .int x2, .int x1, .ref 16])) (p2_ad (n := n) (c := 5) (k := 5) rfl)) rfl ?_
  refine pm_R_iald pm_M0 (pc_q := 540) (v := x5) (pm_q0_4 (Nat.le_of_ble_eq_true rfl)) ((T.old (by decide)).trans e0) (T.lt (by decide)) (p2_in (by omega) hL) v5 rfl ?_
  refine pm_R_cv pm_M0 (pc_q := 543) (a := 16) (ra := [.int x5, .int x4, .int x3, .int x2, .int x1]) (rest := []) (ls_q := [.ref 16, .int x1, .int x2, .int x3, .int x4, .int x5, pm_no, pm_no]) (pm_q0_4 (Nat.le_of_ble_eq_true rfl)) rfl (Or.inl rfl) pm_M68 T.e16 rfl (by decide) (T.lt (by decide)) rfl rfl (Nat.le_of_ble_eq_true rfl) rfl rfl ?_
  refine ex_inj WW KK rfl ?_
  refine cl_c68 G T (fun r1 m1 o1 h1 T1 F1 W1 => ?_)
  intro WW KK
  show pm_R 100 0 543 [.ref 0, .ref 16, .ref 41, .int (Int32.ofNat n)] [.long r1] _ _
  have RR := R2_cl G T F1 (by decide) RR
  have I := p2_cl (j := j) G T Tr Y e0 S R hc T1 F1 (W1 0 (by decide)) (by decide) (by decide) (by decide) (by decide) (by decide) (by decide) (by decide)
  obtain ⟨ck, E, m, o, mr, wr, G, T, Tr, Y, e0, S, R, hc⟩ := I
  refine pm_R_op pm_M0 (pc_q := 544) (st_q := []) (pm_q0_4 (Nat.le_of_ble_eq_true rfl)) rfl rfl ?_
  refine pm_R_lo pm_M0 (pc_q := 545) (pm_q0_4 (Nat.le_of_ble_eq_true rfl)) rfl rfl ?_
  refine pm_R_lo pm_M0 (pc_q := 546) (pm_q0_4 (Nat.le_of_ble_eq_true rfl)) rfl rfl ?_
  refine pm_R_lo pm_M0 (pc_q := 547) (pm_q0_4 (Nat.le_of_ble_eq_true rfl)) rfl rfl ?_
  refine pm_R_op pm_M0 (pc_q := 548) (st_q := [.int 1, .int (Int32.ofNat n), .ref 0, .ref 41]) (pm_q0_4 (Nat.le_of_ble_eq_true rfl)) rfl rfl ?_
  refine pm_R_op pm_M0 (pc_q := 549) (st_q := [.int (Int32.ofNat (n + 1)), .ref 0, .ref 41]) (pm_q0_5 (Nat.le_of_ble_eq_true rfl)) (congrArg (fun z => some (Value.int z :: [.ref 0, .ref 41])) (p2_ad (n := n) (c := 1) (k := 1) rfl)) rfl ?_
  refine pm_R_iald pm_M0 (pc_q := 550) (v := x1) (pm_q0_5 (Nat.le_of_ble_eq_true rfl)) ((T.old (by decide)).trans e0) (T.lt (by decide)) (p2_in (by omega) hL) v1 rfl ?_
  refine pm_R_lo pm_M0 (pc_q := 551) (pm_q0_5 (Nat.le_of_ble_eq_true rfl)) rfl rfl ?_
  refine pm_R_lo pm_M0 (pc_q := 552) (pm_q0_5 (Nat.le_of_ble_eq_true rfl)) rfl rfl ?_
  refine pm_R_op pm_M0 (pc_q := 553) (st_q := [.int 2, .int (Int32.ofNat n), .ref 0, .int x1, .ref 41]) (pm_q0_5 (Nat.le_of_ble_eq_true rfl)) rfl rfl ?_
  refine pm_R_op pm_M0 (pc_q := 554) (st_q := [.int (Int32.ofNat (n + 2)), .ref 0, .int x1, .ref 41]) (pm_q0_5 (Nat.le_of_ble_eq_true rfl)) (congrArg (fun z => some (Value.int z :: [.ref 0, .int x1, .ref 41])) (p2_ad (n := n) (c := 2) (k := 2) rfl)) rfl ?_
  refine pm_R_iald pm_M0 (pc_q := 555) (v := x2) (pm_q0_5 (Nat.le_of_ble_eq_true rfl)) ((T.old (by decide)).trans e0) (T.lt (by decide)) (p2_in (by omega) hL) v2 rfl ?_
  refine pm_R_lo pm_M0 (pc_q := 556) (pm_q0_5 (Nat.le_of_ble_eq_true rfl)) rfl rfl ?_
  refine pm_R_lo pm_M0 (pc_q := 557) (pm_q0_5 (Nat.le_of_ble_eq_true rfl)) rfl rfl ?_
  refine pm_R_op pm_M0 (pc_q := 558) (st_q := [.int 3, .int (Int32.ofNat n), .ref 0, .int x2, .int x1, .ref 41]) (pm_q0_5 (Nat.le_of_ble_eq_true rfl)) rfl rfl ?_
  refine pm_R_op pm_M0 (pc_q := 559) (st_q := [.int (Int32.ofNat (n + 3)), .ref 0, .int x2, .int x1, .ref 41]) (pm_q0_5 (Nat.le_of_ble_eq_true rfl)) (congrArg (fun z => some (Value.int z :: [.ref 0, .int x2, .int x1, .ref 41])) (p2_ad (n := n) (c := 3) (k := 3) rfl)) rfl ?_
  refine pm_R_iald pm_M0 (pc_q := 560) (v := x3) (pm_q0_5 (Nat.le_of_ble_eq_true rfl)) ((T.old (by decide)).trans e0) (T.lt (by decide)) (p2_in (by omega) hL) v3 rfl ?_
  refine pm_R_lo pm_M0 (pc_q := 561) (pm_q0_5 (Nat.le_of_ble_eq_true rfl)) rfl rfl ?_
  refine pm_R_lo pm_M0 (pc_q := 562) (pm_q0_5 (Nat.le_of_ble_eq_true rfl)) rfl rfl ?_
  refine pm_R_op pm_M0 (pc_q := 563) (st_q := [.int 4, .int (Int32.ofNat n), .ref 0, .int x3, .int x2, .int x1, .ref 41]) (pm_q0_5 (Nat.le_of_ble_eq_true rfl)) rfl rfl ?_
  refine pm_R_op pm_M0 (pc_q := 564) (st_q := [.int (Int32.ofNat (n + 4)), .ref 0, .int x3, .int x2, .int x1, .ref 41]) (pm_q0_5 (Nat.le_of_ble_eq_true rfl)) (congrArg (fun z => some (Value.int z :: [.ref 0, .int x3, .int x2, .int x1, .ref 41])) (p2_ad (n := n) (c := 4) (k := 4) rfl)) rfl ?_
  refine pm_R_iald pm_M0 (pc_q := 565) (v := x4) (pm_q0_5 (Nat.le_of_ble_eq_true rfl)) ((T.old (by decide)).trans e0) (T.lt (by decide)) (p2_in (by omega) hL) v4 rfl ?_
  refine pm_R_lo pm_M0 (pc_q := 566) (pm_q0_5 (Nat.le_of_ble_eq_true rfl)) rfl rfl ?_
  refine pm_R_lo pm_M0 (pc_q := 567) (pm_q0_5 (Nat.le_of_ble_eq_true rfl)) rfl rfl ?_
  refine pm_R_op pm_M0 (pc_q := 568) (st_q := [.int 5, .int (Int32.ofNat n), .ref 0, .int x4, .int x3, .int x2, .int x1, .ref 41]) (pm_q0_5 (Nat.le_of_ble_eq_true rfl)) rfl rfl ?_
  refine pm_R_op pm_M0 (pc_q := 569) (st_q := [.int (Int32.ofNat (n + 5)), .ref 0, .int x4, .int x3, .int x2, .int x1, .ref 41]) (pm_q0_5 (Nat.le_of_ble_eq_true rfl)) (congrArg (fun z => some (Value.int z :: [.ref 0, .int x4, .int x3, .int x2, .int x1, .ref 41])) (p2_ad (n := n) (c := 5) (k := 5) rfl)) rfl ?_
  refine pm_R_iald pm_M0 (pc_q := 570) (v := x5) (pm_q0_5 (Nat.le_of_ble_eq_true rfl)) ((T.old (by decide)).trans e0) (T.lt (by decide)) (p2_in (by omega) hL) v5 rfl ?_
  refine pm_R_cv pm_M0 (pc_q := 573) (a := 41) (ra := [.int x5, .int x4, .int x3, .int x2, .int x1]) (rest := []) (ls_q := [.ref 41, .int x1, .int x2, .int x3, .int x4, .int x5]) (pm_q0_5 (Nat.le_of_ble_eq_true rfl)) rfl (Or.inl rfl) pm_M199 Tr.2.1 rfl (by decide) (Nat.lt_of_lt_of_le (by decide) Tr.1) rfl rfl (Nat.le_of_ble_eq_true rfl) rfl rfl ?_
  refine ex_inj WW KK rfl ?_
  refine rf_c199 Tr (fun r2 m1 w1 h1 T1 F1 W1 _ => ?_)
  intro WW KK
  show pm_R 100 0 573 [.ref 0, .ref 16, .ref 41, .int (Int32.ofNat n)] [.long r2] _ _
  have RR := R2_rf F1 (by decide) RR
  have I := p2_rf G T Y e0 S R hc T1 F1 (by decide)
  refine pm_R_op pm_M0 (pc_q := 574) (st_q := []) (pm_q0_5 (Nat.le_of_ble_eq_true rfl)) rfl rfl ?_
  refine pm_R_br pm_M0 (pc_q := 2117) (pm_q0_5 (Nat.le_of_ble_eq_true rfl)) rfl ?_
  exact K _ ⟨I, WW, KK, RR⟩

set_option maxRecDepth 100000 in
set_option maxHeartbeats 4000000 in
theorem p6_k9 {L n j : Nat} {xs : Nat → Int32} {h : pm_H} {Q : Option Value → pm_H → Prop} (I : p6_I L xs j h) (hn : n + 7 ≤ L) (hL : L ≤ 3584) (K : ∀ h_q, p6_I L xs (j + 1) h_q → pm_R 100 0 2117 [.ref 0, .ref 16, .ref 41, .int (Int32.ofNat n)] [] h_q Q) : pm_R 100 0 577 [.ref 0, .ref 16, .ref 41, .int (Int32.ofNat n)] [] h Q := by
  obtain ⟨x1, v1⟩ : ∃ y, xs (Int32.toNatClampNeg (Int32.ofNat (n + 1))) = y := ⟨_, rfl⟩
  obtain ⟨x2, v2⟩ : ∃ y, xs (Int32.toNatClampNeg (Int32.ofNat (n + 2))) = y := ⟨_, rfl⟩
  obtain ⟨x3, v3⟩ : ∃ y, xs (Int32.toNatClampNeg (Int32.ofNat (n + 3))) = y := ⟨_, rfl⟩
  obtain ⟨I, WW, KK, RR⟩ := I
  obtain ⟨ck, E, m, o, mr, wr, G, T, Tr, Y, e0, S, R, hc⟩ := I
  refine pm_R_lo pm_M0 (pc_q := 578) (pm_q0_5 (Nat.le_of_ble_eq_true rfl)) rfl rfl ?_
  refine pm_R_lo pm_M0 (pc_q := 579) (pm_q0_5 (Nat.le_of_ble_eq_true rfl)) rfl rfl ?_
  refine pm_R_lo pm_M0 (pc_q := 580) (pm_q0_5 (Nat.le_of_ble_eq_true rfl)) rfl rfl ?_
  refine pm_R_op pm_M0 (pc_q := 581) (st_q := [.int 1, .int (Int32.ofNat n), .ref 0, .ref 16]) (pm_q0_5 (Nat.le_of_ble_eq_true rfl)) rfl rfl ?_
  refine pm_R_op pm_M0 (pc_q := 582) (st_q := [.int (Int32.ofNat (n + 1)), .ref 0, .ref 16]) (pm_q0_5 (Nat.le_of_ble_eq_true rfl)) (congrArg (fun z => some (Value.int z :: [.ref 0, .ref 16])) (p2_ad (n := n) (c := 1) (k := 1) rfl)) rfl ?_
  refine pm_R_iald pm_M0 (pc_q := 583) (v := x1) (pm_q0_5 (Nat.le_of_ble_eq_true rfl)) ((T.old (by decide)).trans e0) (T.lt (by decide)) (p2_in (by omega) hL) v1 rfl ?_
  refine pm_R_lo pm_M0 (pc_q := 584) (pm_q0_5 (Nat.le_of_ble_eq_true rfl)) rfl rfl ?_
  refine pm_R_lo pm_M0 (pc_q := 585) (pm_q0_5 (Nat.le_of_ble_eq_true rfl)) rfl rfl ?_
  refine pm_R_op pm_M0 (pc_q := 586) (st_q := [.int 2, .int (Int32.ofNat n), .ref 0, .int x1, .ref 16]) (pm_q0_5 (Nat.le_of_ble_eq_true rfl)) rfl rfl ?_
  refine pm_R_op pm_M0 (pc_q := 587) (st_q := [.int (Int32.ofNat (n + 2)), .ref 0, .int x1, .ref 16]) (pm_q0_5 (Nat.le_of_ble_eq_true rfl)) (congrArg (fun z => some (Value.int z :: [.ref 0, .int x1, .ref 16])) (p2_ad (n := n) (c := 2) (k := 2) rfl)) rfl ?_
  refine pm_R_iald pm_M0 (pc_q := 588) (v := x2) (pm_q0_5 (Nat.le_of_ble_eq_true rfl)) ((T.old (by decide)).trans e0) (T.lt (by decide)) (p2_in (by omega) hL) v2 rfl ?_
  refine pm_R_lo pm_M0 (pc_q := 589) (pm_q0_5 (Nat.le_of_ble_eq_true rfl)) rfl rfl ?_
  refine pm_R_lo pm_M0 (pc_q := 590) (pm_q0_5 (Nat.le_of_ble_eq_true rfl)) rfl rfl ?_
  refine pm_R_op pm_M0 (pc_q := 591) (st_q := [.int 3, .int (Int32.ofNat n), .ref 0, .int x2, .int x1, .ref 16]) (pm_q0_5 (Nat.le_of_ble_eq_true rfl)) rfl rfl ?_
  refine pm_R_op pm_M0 (pc_q := 592) (st_q := [.int (Int32.ofNat (n + 3)), .ref 0, .int x2, .int x1, .ref 16]) (pm_q0_5 (Nat.le_of_ble_eq_true rfl)) (congrArg (fun z => some (Value.int z :: [.ref 0, .int x2, .int x1, .ref 16])) (p2_ad (n := n) (c := 3) (k := 3) rfl)) rfl ?_
  refine pm_R_iald pm_M0 (pc_q := 593) (v := x3) (pm_q0_5 (Nat.le_of_ble_eq_true rfl)) ((T.old (by decide)).trans e0) (T.lt (by decide)) (p2_in (by omega) hL) v3 rfl ?_
  refine pm_R_cv pm_M0 (pc_q := 596) (a := 16) (ra := [.int x3, .int x2, .int x1]) (rest := []) (ls_q := [.ref 16, .int x1, .int x2, .int x3, pm_no, pm_no]) (pm_q0_5 (Nat.le_of_ble_eq_true rfl)) rfl (Or.inl rfl) pm_M97 T.e16 rfl (by decide) (T.lt (by decide)) rfl rfl (Nat.le_of_ble_eq_true rfl) rfl rfl ?_
  refine ex_inj WW KK rfl ?_
  refine cl_c97 G T (fun r1 m1 h1 T1 F1 W1 _ => ?_)
  intro WW KK
  show pm_R 100 0 596 [.ref 0, .ref 16, .ref 41, .int (Int32.ofNat n)] [.int r1] _ _
  have RR := R2_cl G T F1 (by decide) RR
  have I := p2_cl (j := j) G T Tr Y e0 S R hc T1 F1 (W1 0 (by decide)) (by decide) (by decide) (by decide) (by decide) (by decide) (by decide) (by decide)
  obtain ⟨ck, E, m, o, mr, wr, G, T, Tr, Y, e0, S, R, hc⟩ := I
  refine pm_R_op pm_M0 (pc_q := 597) (st_q := []) (pm_q0_5 (Nat.le_of_ble_eq_true rfl)) rfl rfl ?_
  refine pm_R_lo pm_M0 (pc_q := 598) (pm_q0_5 (Nat.le_of_ble_eq_true rfl)) rfl rfl ?_
  refine pm_R_lo pm_M0 (pc_q := 599) (pm_q0_5 (Nat.le_of_ble_eq_true rfl)) rfl rfl ?_
  refine pm_R_lo pm_M0 (pc_q := 600) (pm_q0_5 (Nat.le_of_ble_eq_true rfl)) rfl rfl ?_
  refine pm_R_op pm_M0 (pc_q := 601) (st_q := [.int 1, .int (Int32.ofNat n), .ref 0, .ref 41]) (pm_q0_5 (Nat.le_of_ble_eq_true rfl)) rfl rfl ?_
  refine pm_R_op pm_M0 (pc_q := 602) (st_q := [.int (Int32.ofNat (n + 1)), .ref 0, .ref 41]) (pm_q0_5 (Nat.le_of_ble_eq_true rfl)) (congrArg (fun z => some (Value.int z :: [.ref 0, .ref 41])) (p2_ad (n := n) (c := 1) (k := 1) rfl)) rfl ?_
  refine pm_R_iald pm_M0 (pc_q := 603) (v := x1) (pm_q0_5 (Nat.le_of_ble_eq_true rfl)) ((T.old (by decide)).trans e0) (T.lt (by decide)) (p2_in (by omega) hL) v1 rfl ?_
  refine pm_R_lo pm_M0 (pc_q := 604) (pm_q0_5 (Nat.le_of_ble_eq_true rfl)) rfl rfl ?_
  refine pm_R_lo pm_M0 (pc_q := 605) (pm_q0_5 (Nat.le_of_ble_eq_true rfl)) rfl rfl ?_
  refine pm_R_op pm_M0 (pc_q := 606) (st_q := [.int 2, .int (Int32.ofNat n), .ref 0, .int x1, .ref 41]) (pm_q0_5 (Nat.le_of_ble_eq_true rfl)) rfl rfl ?_
  refine pm_R_op pm_M0 (pc_q := 607) (st_q := [.int (Int32.ofNat (n + 2)), .ref 0, .int x1, .ref 41]) (pm_q0_5 (Nat.le_of_ble_eq_true rfl)) (congrArg (fun z => some (Value.int z :: [.ref 0, .int x1, .ref 41])) (p2_ad (n := n) (c := 2) (k := 2) rfl)) rfl ?_
  refine pm_R_iald pm_M0 (pc_q := 608) (v := x2) (pm_q0_5 (Nat.le_of_ble_eq_true rfl)) ((T.old (by decide)).trans e0) (T.lt (by decide)) (p2_in (by omega) hL) v2 rfl ?_
  refine pm_R_lo pm_M0 (pc_q := 609) (pm_q0_5 (Nat.le_of_ble_eq_true rfl)) rfl rfl ?_
  refine pm_R_lo pm_M0 (pc_q := 610) (pm_q0_5 (Nat.le_of_ble_eq_true rfl)) rfl rfl ?_
  refine pm_R_op pm_M0 (pc_q := 611) (st_q := [.int 3, .int (Int32.ofNat n), .ref 0, .int x2, .int x1, .ref 41]) (pm_q0_5 (Nat.le_of_ble_eq_true rfl)) rfl rfl ?_
  refine pm_R_op pm_M0 (pc_q := 612) (st_q := [.int (Int32.ofNat (n + 3)), .ref 0, .int x2, .int x1, .ref 41]) (pm_q0_5 (Nat.le_of_ble_eq_true rfl)) (congrArg (fun z => some (Value.int z :: [.ref 0, .int x2, .int x1, .ref 41])) (p2_ad (n := n) (c := 3) (k := 3) rfl)) rfl ?_
  refine pm_R_iald pm_M0 (pc_q := 613) (v := x3) (pm_q0_5 (Nat.le_of_ble_eq_true rfl)) ((T.old (by decide)).trans e0) (T.lt (by decide)) (p2_in (by omega) hL) v3 rfl ?_
  refine pm_R_cv pm_M0 (pc_q := 616) (a := 41) (ra := [.int x3, .int x2, .int x1]) (rest := []) (ls_q := [.ref 41, .int x1, .int x2, .int x3]) (pm_q0_5 (Nat.le_of_ble_eq_true rfl)) rfl (Or.inl rfl) pm_M214 Tr.2.1 rfl (by decide) (Nat.lt_of_lt_of_le (by decide) Tr.1) rfl rfl (Nat.le_of_ble_eq_true rfl) rfl rfl ?_
  refine ex_inj WW KK rfl ?_
  refine rf_c214 Tr (fun r2 m1 w1 h1 T1 F1 W1 _ => ?_)
  intro WW KK
  show pm_R 100 0 616 [.ref 0, .ref 16, .ref 41, .int (Int32.ofNat n)] [.int r2] _ _
  have RR := R2_rf F1 (by decide) RR
  have I := p2_rf G T Y e0 S R hc T1 F1 (by decide)
  refine pm_R_op pm_M0 (pc_q := 617) (st_q := []) (pm_q0_6 (Nat.le_of_ble_eq_true rfl)) rfl rfl ?_
  refine pm_R_br pm_M0 (pc_q := 2117) (pm_q0_6 (Nat.le_of_ble_eq_true rfl)) rfl ?_
  exact K _ ⟨I, WW, KK, RR⟩

set_option maxRecDepth 100000 in
set_option maxHeartbeats 4000000 in
theorem p6_k10 {L n j : Nat} {xs : Nat → Int32} {h : pm_H} {Q : Option Value → pm_H → Prop} (I : p6_I L xs j h) (hn : n + 7 ≤ L) (hL : L ≤ 3584) (K : ∀ h_q, p6_I L xs (j + 1) h_q → pm_R 100 0 2117 [.ref 0, .ref 16, .ref 41, .int (Int32.ofNat n)] [] h_q Q) : pm_R 100 0 620 [.ref 0, .ref 16, .ref 41, .int (Int32.ofNat n)] [] h Q := by
  obtain ⟨x1, v1⟩ : ∃ y, xs (Int32.toNatClampNeg (Int32.ofNat (n + 1))) = y := ⟨_, rfl⟩
  obtain ⟨x2, v2⟩ : ∃ y, xs (Int32.toNatClampNeg (Int32.ofNat (n + 2))) = y := ⟨_, rfl⟩
  obtain ⟨x3, v3⟩ : ∃ y, xs (Int32.toNatClampNeg (Int32.ofNat (n + 3))) = y := ⟨_, rfl⟩
  obtain ⟨I, WW, KK, RR⟩ := I
  obtain ⟨ck, E, m, o, mr, wr, G, T, Tr, Y, e0, S, R, hc⟩ := I
  refine pm_R_lo pm_M0 (pc_q := 621) (pm_q0_6 (Nat.le_of_ble_eq_true rfl)) rfl rfl ?_
  refine pm_R_lo pm_M0 (pc_q := 622) (pm_q0_6 (Nat.le_of_ble_eq_true rfl)) rfl rfl ?_
  refine pm_R_lo pm_M0 (pc_q := 623) (pm_q0_6 (Nat.le_of_ble_eq_true rfl)) rfl rfl ?_
  refine pm_R_op pm_M0 (pc_q := 624) (st_q := [.int 1, .int (Int32.ofNat n), .ref 0, .ref 16]) (pm_q0_6 (Nat.le_of_ble_eq_true rfl)) rfl rfl ?_
  refine pm_R_op pm_M0 (pc_q := 625) (st_q := [.int (Int32.ofNat (n + 1)), .ref 0, .ref 16]) (pm_q0_6 (Nat.le_of_ble_eq_true rfl)) (congrArg (fun z => some (Value.int z :: [.ref 0, .ref 16])) (p2_ad (n := n) (c := 1) (k := 1) rfl)) rfl ?_
  refine pm_R_iald pm_M0 (pc_q := 626) (v := x1) (pm_q0_6 (Nat.le_of_ble_eq_true rfl)) ((T.old (by decide)).trans e0) (T.lt (by decide)) (p2_in (by omega) hL) v1 rfl ?_
  refine pm_R_lo pm_M0 (pc_q := 627) (pm_q0_6 (Nat.le_of_ble_eq_true rfl)) rfl rfl ?_
  refine pm_R_lo pm_M0 (pc_q := 628) (pm_q0_6 (Nat.le_of_ble_eq_true rfl)) rfl rfl ?_
  refine pm_R_op pm_M0 (pc_q := 629) (st_q := [.int 2, .int (Int32.ofNat n), .ref 0, .int x1, .ref 16]) (pm_q0_6 (Nat.le_of_ble_eq_true rfl)) rfl rfl ?_
  refine pm_R_op pm_M0 (pc_q := 630) (st_q := [.int (Int32.ofNat (n + 2)), .ref 0, .int x1, .ref 16]) (pm_q0_6 (Nat.le_of_ble_eq_true rfl)) (congrArg (fun z => some (Value.int z :: [.ref 0, .int x1, .ref 16])) (p2_ad (n := n) (c := 2) (k := 2) rfl)) rfl ?_
  refine pm_R_iald pm_M0 (pc_q := 631) (v := x2) (pm_q0_6 (Nat.le_of_ble_eq_true rfl)) ((T.old (by decide)).trans e0) (T.lt (by decide)) (p2_in (by omega) hL) v2 rfl ?_
  refine pm_R_lo pm_M0 (pc_q := 632) (pm_q0_6 (Nat.le_of_ble_eq_true rfl)) rfl rfl ?_
  refine pm_R_lo pm_M0 (pc_q := 633) (pm_q0_6 (Nat.le_of_ble_eq_true rfl)) rfl rfl ?_
  refine pm_R_op pm_M0 (pc_q := 634) (st_q := [.int 3, .int (Int32.ofNat n), .ref 0, .int x2, .int x1, .ref 16]) (pm_q0_6 (Nat.le_of_ble_eq_true rfl)) rfl rfl ?_
  refine pm_R_op pm_M0 (pc_q := 635) (st_q := [.int (Int32.ofNat (n + 3)), .ref 0, .int x2, .int x1, .ref 16]) (pm_q0_6 (Nat.le_of_ble_eq_true rfl)) (congrArg (fun z => some (Value.int z :: [.ref 0, .int x2, .int x1, .ref 16])) (p2_ad (n := n) (c := 3) (k := 3) rfl)) rfl ?_
  refine pm_R_iald pm_M0 (pc_q := 636) (v := x3) (pm_q0_6 (Nat.le_of_ble_eq_true rfl)) ((T.old (by decide)).trans e0) (T.lt (by decide)) (p2_in (by omega) hL) v3 rfl ?_
  refine pm_R_cv pm_M0 (pc_q := 639) (a := 16) (ra := [.int x3, .int x2, .int x1]) (rest := []) (ls_q := [.ref 16, .int x1, .int x2, .int x3, pm_no, pm_no]) (pm_q0_6 (Nat.le_of_ble_eq_true rfl)) rfl (Or.inl rfl) pm_M81 T.e16 rfl (by decide) (T.lt (by decide)) rfl rfl (Nat.le_of_ble_eq_true rfl) rfl rfl ?_
  suffices go : ∀ (r1 : Int64) (h1 : pm_H), p2_I L xs (j + 1) h1 → ex_W h1 → ex_K h1 → R2 (ex_V h1) → pm_R 100 0 639 [.ref 0, .ref 16, .ref 41, .int (Int32.ofNat n)] [.long r1] h1 Q by
    refine ex_inj WW KK rfl ?_
    refine cl_c81_x G T (fun r1 m1 o1 h1 T1 F1 W1 X1 => ?_) (fun r1 m1 o1 ck1 h1 A1 G1 T1 F1 W1 X1 => ?_)
    · exact fun WW KK => go _ _ (p2_clg (j := j) G T Tr S hc G T1 e0 (Y.cl G F1 (by decide)) (by obtain ⟨f, e, b⟩ := R; exact ⟨f, F1.cell G (by decide) (by decide) e, by omega⟩) F1 (W1 0 (by decide)) (by decide) (by decide) (by decide)) WW KK (R2_cl G T F1 (by decide) RR)
    · exact fun WW KK => go _ _ (p2_clg (j := j) G T Tr S hc G1 T1 e0 (Y.cl G F1 (by decide)) (by obtain ⟨f, e, b⟩ := R; exact ⟨f, F1.cell G (by decide) (by decide) e, by omega⟩) F1 (W1 0 (by decide)) (by decide) (by decide) (by decide)) WW KK (R2_cl G T F1 (by decide) RR)
  intro r1 h1 I WW KK RR
  obtain ⟨ck, E, m, o, mr, wr, G, T, Tr, Y, e0, S, R, hc⟩ := I
  refine pm_R_op pm_M0 (pc_q := 640) (st_q := []) (pm_q0_6 (Nat.le_of_ble_eq_true rfl)) rfl rfl ?_
  refine pm_R_lo pm_M0 (pc_q := 641) (pm_q0_6 (Nat.le_of_ble_eq_true rfl)) rfl rfl ?_
  refine pm_R_lo pm_M0 (pc_q := 642) (pm_q0_6 (Nat.le_of_ble_eq_true rfl)) rfl rfl ?_
  refine pm_R_lo pm_M0 (pc_q := 643) (pm_q0_6 (Nat.le_of_ble_eq_true rfl)) rfl rfl ?_
  refine pm_R_op pm_M0 (pc_q := 644) (st_q := [.int 1, .int (Int32.ofNat n), .ref 0, .ref 41]) (pm_q0_6 (Nat.le_of_ble_eq_true rfl)) rfl rfl ?_
  refine pm_R_op pm_M0 (pc_q := 645) (st_q := [.int (Int32.ofNat (n + 1)), .ref 0, .ref 41]) (pm_q0_6 (Nat.le_of_ble_eq_true rfl)) (congrArg (fun z => some (Value.int z :: [.ref 0, .ref 41])) (p2_ad (n := n) (c := 1) (k := 1) rfl)) rfl ?_
  refine pm_R_iald pm_M0 (pc_q := 646) (v := x1) (pm_q0_6 (Nat.le_of_ble_eq_true rfl)) ((T.old (by decide)).trans e0) (T.lt (by decide)) (p2_in (by omega) hL) v1 rfl ?_
  refine pm_R_lo pm_M0 (pc_q := 647) (pm_q0_6 (Nat.le_of_ble_eq_true rfl)) rfl rfl ?_
  refine pm_R_lo pm_M0 (pc_q := 648) (pm_q0_6 (Nat.le_of_ble_eq_true rfl)) rfl rfl ?_
  refine pm_R_op pm_M0 (pc_q := 649) (st_q := [.int 2, .int (Int32.ofNat n), .ref 0, .int x1, .ref 41]) (pm_q0_6 (Nat.le_of_ble_eq_true rfl)) rfl rfl ?_
  refine pm_R_op pm_M0 (pc_q := 650) (st_q := [.int (Int32.ofNat (n + 2)), .ref 0, .int x1, .ref 41]) (pm_q0_6 (Nat.le_of_ble_eq_true rfl)) (congrArg (fun z => some (Value.int z :: [.ref 0, .int x1, .ref 41])) (p2_ad (n := n) (c := 2) (k := 2) rfl)) rfl ?_
  refine pm_R_iald pm_M0 (pc_q := 651) (v := x2) (pm_q0_6 (Nat.le_of_ble_eq_true rfl)) ((T.old (by decide)).trans e0) (T.lt (by decide)) (p2_in (by omega) hL) v2 rfl ?_
  refine pm_R_lo pm_M0 (pc_q := 652) (pm_q0_6 (Nat.le_of_ble_eq_true rfl)) rfl rfl ?_
  refine pm_R_lo pm_M0 (pc_q := 653) (pm_q0_6 (Nat.le_of_ble_eq_true rfl)) rfl rfl ?_
  refine pm_R_op pm_M0 (pc_q := 654) (st_q := [.int 3, .int (Int32.ofNat n), .ref 0, .int x2, .int x1, .ref 41]) (pm_q0_6 (Nat.le_of_ble_eq_true rfl)) rfl rfl ?_
  refine pm_R_op pm_M0 (pc_q := 655) (st_q := [.int (Int32.ofNat (n + 3)), .ref 0, .int x2, .int x1, .ref 41]) (pm_q0_6 (Nat.le_of_ble_eq_true rfl)) (congrArg (fun z => some (Value.int z :: [.ref 0, .int x2, .int x1, .ref 41])) (p2_ad (n := n) (c := 3) (k := 3) rfl)) rfl ?_
  refine pm_R_iald pm_M0 (pc_q := 656) (v := x3) (pm_q0_6 (Nat.le_of_ble_eq_true rfl)) ((T.old (by decide)).trans e0) (T.lt (by decide)) (p2_in (by omega) hL) v3 rfl ?_
  refine pm_R_cv pm_M0 (pc_q := 659) (a := 41) (ra := [.int x3, .int x2, .int x1]) (rest := []) (ls_q := [.ref 41, .int x1, .int x2, .int x3]) (pm_q0_6 (Nat.le_of_ble_eq_true rfl)) rfl (Or.inl rfl) pm_M223 Tr.2.1 rfl (by decide) (Nat.lt_of_lt_of_le (by decide) Tr.1) rfl rfl (Nat.le_of_ble_eq_true rfl) rfl rfl ?_
  refine ex_inj WW KK rfl ?_
  refine rf_c223 Tr (fun r2 m1 w1 h1 T1 F1 W1 => ?_)
  intro WW KK
  show pm_R 100 0 659 [.ref 0, .ref 16, .ref 41, .int (Int32.ofNat n)] [.long r2] _ _
  have RR := R2_rf F1 (by decide) RR
  have I := p2_rf G T Y e0 S R hc T1 F1 (by decide)
  refine pm_R_op pm_M0 (pc_q := 660) (st_q := []) (pm_q0_6 (Nat.le_of_ble_eq_true rfl)) rfl rfl ?_
  refine pm_R_br pm_M0 (pc_q := 2117) (pm_q0_6 (Nat.le_of_ble_eq_true rfl)) rfl ?_
  exact K _ ⟨I, WW, KK, RR⟩

set_option maxRecDepth 100000 in
set_option maxHeartbeats 4000000 in
theorem p6_k11 {L n j : Nat} {xs : Nat → Int32} {h : pm_H} {Q : Option Value → pm_H → Prop} (I : p6_I L xs j h) (hn : n + 7 ≤ L) (hL : L ≤ 3584) (K : ∀ h_q, p6_I L xs (j + 1) h_q → pm_R 100 0 2117 [.ref 0, .ref 16, .ref 41, .int (Int32.ofNat n)] [] h_q Q) : pm_R 100 0 663 [.ref 0, .ref 16, .ref 41, .int (Int32.ofNat n)] [] h Q := by
  obtain ⟨x1, v1⟩ : ∃ y, xs (Int32.toNatClampNeg (Int32.ofNat (n + 1))) = y := ⟨_, rfl⟩
  obtain ⟨x2, v2⟩ : ∃ y, xs (Int32.toNatClampNeg (Int32.ofNat (n + 2))) = y := ⟨_, rfl⟩
  obtain ⟨x3, v3⟩ : ∃ y, xs (Int32.toNatClampNeg (Int32.ofNat (n + 3))) = y := ⟨_, rfl⟩
  obtain ⟨x4, v4⟩ : ∃ y, xs (Int32.toNatClampNeg (Int32.ofNat (n + 4))) = y := ⟨_, rfl⟩
  obtain ⟨x5, v5⟩ : ∃ y, xs (Int32.toNatClampNeg (Int32.ofNat (n + 5))) = y := ⟨_, rfl⟩
  obtain ⟨I, WW, KK, RR⟩ := I
  obtain ⟨ck, E, m, o, mr, wr, G, T, Tr, Y, e0, S, R, hc⟩ := I
  refine pm_R_lo pm_M0 (pc_q := 664) (pm_q0_6 (Nat.le_of_ble_eq_true rfl)) rfl rfl ?_
  refine pm_R_lo pm_M0 (pc_q := 665) (pm_q0_6 (Nat.le_of_ble_eq_true rfl)) rfl rfl ?_
  refine pm_R_lo pm_M0 (pc_q := 666) (pm_q0_6 (Nat.le_of_ble_eq_true rfl)) rfl rfl ?_
  refine pm_R_op pm_M0 (pc_q := 667) (st_q := [.int 1, .int (Int32.ofNat n), .ref 0, .ref 16]) (pm_q0_6 (Nat.le_of_ble_eq_true rfl)) rfl rfl ?_
  refine pm_R_op pm_M0 (pc_q := 668) (st_q := [.int (Int32.ofNat (n + 1)), .ref 0, .ref 16]) (pm_q0_6 (Nat.le_of_ble_eq_true rfl)) (congrArg (fun z => some (Value.int z :: [.ref 0, .ref 16])) (p2_ad (n := n) (c := 1) (k := 1) rfl)) rfl ?_
  refine pm_R_iald pm_M0 (pc_q := 669) (v := x1) (pm_q0_6 (Nat.le_of_ble_eq_true rfl)) ((T.old (by decide)).trans e0) (T.lt (by decide)) (p2_in (by omega) hL) v1 rfl ?_
  refine pm_R_lo pm_M0 (pc_q := 670) (pm_q0_6 (Nat.le_of_ble_eq_true rfl)) rfl rfl ?_
  refine pm_R_lo pm_M0 (pc_q := 671) (pm_q0_6 (Nat.le_of_ble_eq_true rfl)) rfl rfl ?_
  refine pm_R_op pm_M0 (pc_q := 672) (st_q := [.int 2, .int (Int32.ofNat n), .ref 0, .int x1, .ref 16]) (pm_q0_6 (Nat.le_of_ble_eq_true rfl)) rfl rfl ?_
  refine pm_R_op pm_M0 (pc_q := 673) (st_q := [.int (Int32.ofNat (n + 2)), .ref 0, .int x1, .ref 16]) (pm_q0_6 (Nat.le_of_ble_eq_true rfl)) (congrArg (fun z => some (Value.int z :: [.ref 0, .int x1, .ref 16])) (p2_ad (n := n) (c := 2) (k := 2) rfl)) rfl ?_
  refine pm_R_iald pm_M0 (pc_q := 674) (v := x2) (pm_q0_6 (Nat.le_of_ble_eq_true rfl)) ((T.old (by decide)).trans e0) (T.lt (by decide)) (p2_in (by omega) hL) v2 rfl ?_
  refine pm_R_lo pm_M0 (pc_q := 675) (pm_q0_6 (Nat.le_of_ble_eq_true rfl)) rfl rfl ?_
  refine pm_R_lo pm_M0 (pc_q := 676) (pm_q0_6 (Nat.le_of_ble_eq_true rfl)) rfl rfl ?_
  refine pm_R_op pm_M0 (pc_q := 677) (st_q := [.int 3, .int (Int32.ofNat n), .ref 0, .int x2, .int x1, .ref 16]) (pm_q0_6 (Nat.le_of_ble_eq_true rfl)) rfl rfl ?_
  refine pm_R_op pm_M0 (pc_q := 678) (st_q := [.int (Int32.ofNat (n + 3)), .ref 0, .int x2, .int x1, .ref 16]) (pm_q0_6 (Nat.le_of_ble_eq_true rfl)) (congrArg (fun z => some (Value.int z :: [.ref 0, .int x2, .int x1, .ref 16])) (p2_ad (n := n) (c := 3) (k := 3) rfl)) rfl ?_
  refine pm_R_iald pm_M0 (pc_q := 679) (v := x3) (pm_q0_6 (Nat.le_of_ble_eq_true rfl)) ((T.old (by decide)).trans e0) (T.lt (by decide)) (p2_in (by omega) hL) v3 rfl ?_
  refine pm_R_op pm_M0 (pc_q := 680) (st_q := [.long x3.toInt64, .int x2, .int x1, .ref 16]) (pm_q0_6 (Nat.le_of_ble_eq_true rfl)) rfl rfl ?_
  refine pm_R_op pm_M0 (pc_q := 682) (st_q := [.int 32, .long x3.toInt64, .int x2, .int x1, .ref 16]) (pm_q0_6 (Nat.le_of_ble_eq_true rfl)) rfl rfl ?_
  refine sf_R_lany pm_M0 (pc_q := 683) (st := [.int x2, .int x1, .ref 16]) (pm_q0_6 (Nat.le_of_ble_eq_true rfl)) rfl rfl (fun z1 => ?_)
  refine pm_R_lo pm_M0 (pc_q := 684) (pm_q0_6 (Nat.le_of_ble_eq_true rfl)) rfl rfl ?_
  refine pm_R_lo pm_M0 (pc_q := 685) (pm_q0_6 (Nat.le_of_ble_eq_true rfl)) rfl rfl ?_
  refine pm_R_op pm_M0 (pc_q := 686) (st_q := [.int 4, .int (Int32.ofNat n), .ref 0, .long z1, .int x2, .int x1, .ref 16]) (pm_q0_7 (Nat.le_of_ble_eq_true rfl)) rfl rfl ?_
  refine pm_R_op pm_M0 (pc_q := 687) (st_q := [.int (Int32.ofNat (n + 4)), .ref 0, .long z1, .int x2, .int x1, .ref 16]) (pm_q0_7 (Nat.le_of_ble_eq_true rfl)) (congrArg (fun z => some (Value.int z :: [.ref 0, .long z1, .int x2, .int x1, .ref 16])) (p2_ad (n := n) (c := 4) (k := 4) rfl)) rfl ?_
  refine pm_R_iald pm_M0 (pc_q := 688) (v := x4) (pm_q0_7 (Nat.le_of_ble_eq_true rfl)) ((T.old (by decide)).trans e0) (T.lt (by decide)) (p2_in (by omega) hL) v4 rfl ?_
  refine pm_R_op pm_M0 (pc_q := 689) (st_q := [.long x4.toInt64, .long z1, .int x2, .int x1, .ref 16]) (pm_q0_7 (Nat.le_of_ble_eq_true rfl)) rfl rfl ?_
  refine pm_R_ldc2 pm_M0 (pc_q := 692) (pm_q0_7 (Nat.le_of_ble_eq_true rfl)) rfl rfl ?_
  refine sf_R_lany pm_M0 (pc_q := 693) (st := [.long z1, .int x2, .int x1, .ref 16]) (pm_q0_7 (Nat.le_of_ble_eq_true rfl)) rfl rfl (fun z2 => ?_)
  refine sf_R_lany pm_M0 (pc_q := 694) (st := [.int x2, .int x1, .ref 16]) (pm_q0_7 (Nat.le_of_ble_eq_true rfl)) rfl rfl (fun z3 => ?_)
  refine pm_R_lo pm_M0 (pc_q := 695) (pm_q0_7 (Nat.le_of_ble_eq_true rfl)) rfl rfl ?_
  refine pm_R_lo pm_M0 (pc_q := 696) (pm_q0_7 (Nat.le_of_ble_eq_true rfl)) rfl rfl ?_
  refine pm_R_op pm_M0 (pc_q := 697) (st_q := [.int 5, .int (Int32.ofNat n), .ref 0, .long z3, .int x2, .int x1, .ref 16]) (pm_q0_7 (Nat.le_of_ble_eq_true rfl)) rfl rfl ?_
  refine pm_R_op pm_M0 (pc_q := 698) (st_q := [.int (Int32.ofNat (n + 5)), .ref 0, .long z3, .int x2, .int x1, .ref 16]) (pm_q0_7 (Nat.le_of_ble_eq_true rfl)) (congrArg (fun z => some (Value.int z :: [.ref 0, .long z3, .int x2, .int x1, .ref 16])) (p2_ad (n := n) (c := 5) (k := 5) rfl)) rfl ?_
  refine pm_R_iald pm_M0 (pc_q := 699) (v := x5) (pm_q0_7 (Nat.le_of_ble_eq_true rfl)) ((T.old (by decide)).trans e0) (T.lt (by decide)) (p2_in (by omega) hL) v5 rfl ?_
  refine pm_R_cv pm_M0 (pc_q := 702) (a := 16) (ra := [.int x5, .long z3, .int x2, .int x1]) (rest := []) (ls_q := [.ref 16, .int x1, .int x2, .long z3, pm_no, .int x5, pm_no, pm_no, pm_no, pm_no, pm_no]) (pm_q0_7 (Nat.le_of_ble_eq_true rfl)) rfl (Or.inl rfl) pm_M90 T.e16 rfl (by decide) (T.lt (by decide)) rfl rfl (Nat.le_of_ble_eq_true rfl) rfl rfl ?_
  refine ex_inj WW KK rfl ?_
  refine cl_c90 G T (fun r4 m1 o1 h1 T1 F1 W1 => ?_)
  intro WW KK
  show pm_R 100 0 702 [.ref 0, .ref 16, .ref 41, .int (Int32.ofNat n)] [.int r4] _ _
  have RR := R2_cl G T F1 (by decide) RR
  have I := p2_cl (j := j) G T Tr Y e0 S R hc T1 F1 (W1 0 (by decide)) (by decide) (by decide) (by decide) (by decide) (by decide) (by decide) (by decide)
  obtain ⟨ck, E, m, o, mr, wr, G, T, Tr, Y, e0, S, R, hc⟩ := I
  refine pm_R_op pm_M0 (pc_q := 703) (st_q := []) (pm_q0_7 (Nat.le_of_ble_eq_true rfl)) rfl rfl ?_
  refine pm_R_lo pm_M0 (pc_q := 704) (pm_q0_7 (Nat.le_of_ble_eq_true rfl)) rfl rfl ?_
  refine pm_R_lo pm_M0 (pc_q := 705) (pm_q0_7 (Nat.le_of_ble_eq_true rfl)) rfl rfl ?_
  refine pm_R_lo pm_M0 (pc_q := 706) (pm_q0_7 (Nat.le_of_ble_eq_true rfl)) rfl rfl ?_
  refine pm_R_op pm_M0 (pc_q := 707) (st_q := [.int 1, .int (Int32.ofNat n), .ref 0, .ref 41]) (pm_q0_7 (Nat.le_of_ble_eq_true rfl)) rfl rfl ?_
  refine pm_R_op pm_M0 (pc_q := 708) (st_q := [.int (Int32.ofNat (n + 1)), .ref 0, .ref 41]) (pm_q0_7 (Nat.le_of_ble_eq_true rfl)) (congrArg (fun z => some (Value.int z :: [.ref 0, .ref 41])) (p2_ad (n := n) (c := 1) (k := 1) rfl)) rfl ?_
  refine pm_R_iald pm_M0 (pc_q := 709) (v := x1) (pm_q0_7 (Nat.le_of_ble_eq_true rfl)) ((T.old (by decide)).trans e0) (T.lt (by decide)) (p2_in (by omega) hL) v1 rfl ?_
  refine pm_R_lo pm_M0 (pc_q := 710) (pm_q0_7 (Nat.le_of_ble_eq_true rfl)) rfl rfl ?_
  refine pm_R_lo pm_M0 (pc_q := 711) (pm_q0_7 (Nat.le_of_ble_eq_true rfl)) rfl rfl ?_
  refine pm_R_op pm_M0 (pc_q := 712) (st_q := [.int 2, .int (Int32.ofNat n), .ref 0, .int x1, .ref 41]) (pm_q0_7 (Nat.le_of_ble_eq_true rfl)) rfl rfl ?_
  refine pm_R_op pm_M0 (pc_q := 713) (st_q := [.int (Int32.ofNat (n + 2)), .ref 0, .int x1, .ref 41]) (pm_q0_7 (Nat.le_of_ble_eq_true rfl)) (congrArg (fun z => some (Value.int z :: [.ref 0, .int x1, .ref 41])) (p2_ad (n := n) (c := 2) (k := 2) rfl)) rfl ?_
  refine pm_R_iald pm_M0 (pc_q := 714) (v := x2) (pm_q0_7 (Nat.le_of_ble_eq_true rfl)) ((T.old (by decide)).trans e0) (T.lt (by decide)) (p2_in (by omega) hL) v2 rfl ?_
  refine pm_R_lo pm_M0 (pc_q := 715) (pm_q0_7 (Nat.le_of_ble_eq_true rfl)) rfl rfl ?_
  refine pm_R_lo pm_M0 (pc_q := 716) (pm_q0_7 (Nat.le_of_ble_eq_true rfl)) rfl rfl ?_
  refine pm_R_op pm_M0 (pc_q := 717) (st_q := [.int 3, .int (Int32.ofNat n), .ref 0, .int x2, .int x1, .ref 41]) (pm_q0_7 (Nat.le_of_ble_eq_true rfl)) rfl rfl ?_
  refine pm_R_op pm_M0 (pc_q := 718) (st_q := [.int (Int32.ofNat (n + 3)), .ref 0, .int x2, .int x1, .ref 41]) (pm_q0_7 (Nat.le_of_ble_eq_true rfl)) (congrArg (fun z => some (Value.int z :: [.ref 0, .int x2, .int x1, .ref 41])) (p2_ad (n := n) (c := 3) (k := 3) rfl)) rfl ?_
  refine pm_R_iald pm_M0 (pc_q := 719) (v := x3) (pm_q0_7 (Nat.le_of_ble_eq_true rfl)) ((T.old (by decide)).trans e0) (T.lt (by decide)) (p2_in (by omega) hL) v3 rfl ?_
  refine pm_R_op pm_M0 (pc_q := 720) (st_q := [.long x3.toInt64, .int x2, .int x1, .ref 41]) (pm_q0_7 (Nat.le_of_ble_eq_true rfl)) rfl rfl ?_
  refine pm_R_op pm_M0 (pc_q := 722) (st_q := [.int 32, .long x3.toInt64, .int x2, .int x1, .ref 41]) (pm_q0_7 (Nat.le_of_ble_eq_true rfl)) rfl rfl ?_
  refine sf_R_lany pm_M0 (pc_q := 723) (st := [.int x2, .int x1, .ref 41]) (pm_q0_7 (Nat.le_of_ble_eq_true rfl)) rfl rfl (fun z5 => ?_)
  refine pm_R_lo pm_M0 (pc_q := 724) (pm_q0_7 (Nat.le_of_ble_eq_true rfl)) rfl rfl ?_
  refine pm_R_lo pm_M0 (pc_q := 725) (pm_q0_7 (Nat.le_of_ble_eq_true rfl)) rfl rfl ?_
  refine pm_R_op pm_M0 (pc_q := 726) (st_q := [.int 4, .int (Int32.ofNat n), .ref 0, .long z5, .int x2, .int x1, .ref 41]) (pm_q0_7 (Nat.le_of_ble_eq_true rfl)) rfl rfl ?_
  refine pm_R_op pm_M0 (pc_q := 727) (st_q := [.int (Int32.ofNat (n + 4)), .ref 0, .long z5, .int x2, .int x1, .ref 41]) (pm_q0_7 (Nat.le_of_ble_eq_true rfl)) (congrArg (fun z => some (Value.int z :: [.ref 0, .long z5, .int x2, .int x1, .ref 41])) (p2_ad (n := n) (c := 4) (k := 4) rfl)) rfl ?_
  refine pm_R_iald pm_M0 (pc_q := 728) (v := x4) (pm_q0_7 (Nat.le_of_ble_eq_true rfl)) ((T.old (by decide)).trans e0) (T.lt (by decide)) (p2_in (by omega) hL) v4 rfl ?_
  refine pm_R_op pm_M0 (pc_q := 729) (st_q := [.long x4.toInt64, .long z5, .int x2, .int x1, .ref 41]) (pm_q0_7 (Nat.le_of_ble_eq_true rfl)) rfl rfl ?_
  refine pm_R_ldc2 pm_M0 (pc_q := 732) (pm_q0_7 (Nat.le_of_ble_eq_true rfl)) rfl rfl ?_
  refine sf_R_lany pm_M0 (pc_q := 733) (st := [.long z5, .int x2, .int x1, .ref 41]) (pm_q0_7 (Nat.le_of_ble_eq_true rfl)) rfl rfl (fun z6 => ?_)
  refine sf_R_lany pm_M0 (pc_q := 734) (st := [.int x2, .int x1, .ref 41]) (pm_q0_7 (Nat.le_of_ble_eq_true rfl)) rfl rfl (fun z7 => ?_)
  refine pm_R_lo pm_M0 (pc_q := 735) (pm_q0_7 (Nat.le_of_ble_eq_true rfl)) rfl rfl ?_
  refine pm_R_lo pm_M0 (pc_q := 736) (pm_q0_7 (Nat.le_of_ble_eq_true rfl)) rfl rfl ?_
  refine pm_R_op pm_M0 (pc_q := 737) (st_q := [.int 5, .int (Int32.ofNat n), .ref 0, .long z7, .int x2, .int x1, .ref 41]) (pm_q0_7 (Nat.le_of_ble_eq_true rfl)) rfl rfl ?_
  refine pm_R_op pm_M0 (pc_q := 738) (st_q := [.int (Int32.ofNat (n + 5)), .ref 0, .long z7, .int x2, .int x1, .ref 41]) (pm_q0_7 (Nat.le_of_ble_eq_true rfl)) (congrArg (fun z => some (Value.int z :: [.ref 0, .long z7, .int x2, .int x1, .ref 41])) (p2_ad (n := n) (c := 5) (k := 5) rfl)) rfl ?_
  refine pm_R_iald pm_M0 (pc_q := 739) (v := x5) (pm_q0_7 (Nat.le_of_ble_eq_true rfl)) ((T.old (by decide)).trans e0) (T.lt (by decide)) (p2_in (by omega) hL) v5 rfl ?_
  refine pm_R_cv pm_M0 (pc_q := 742) (a := 41) (ra := [.int x5, .long z7, .int x2, .int x1]) (rest := []) (ls_q := [.ref 41, .int x1, .int x2, .long z7, pm_no, .int x5, pm_no]) (pm_q0_7 (Nat.le_of_ble_eq_true rfl)) rfl (Or.inl rfl) pm_M228 Tr.2.1 rfl (by decide) (Nat.lt_of_lt_of_le (by decide) Tr.1) rfl rfl (Nat.le_of_ble_eq_true rfl) rfl rfl ?_
  refine ex_inj WW KK rfl ?_
  refine rf_c228 Tr (fun r8 m1 w1 h1 T1 F1 W1 => ?_)
  intro WW KK
  show pm_R 100 0 742 [.ref 0, .ref 16, .ref 41, .int (Int32.ofNat n)] [.int r8] _ _
  have RR := R2_rf F1 (by decide) RR
  have I := p2_rf G T Y e0 S R hc T1 F1 (by decide)
  refine pm_R_op pm_M0 (pc_q := 743) (st_q := []) (pm_q0_7 (Nat.le_of_ble_eq_true rfl)) rfl rfl ?_
  refine pm_R_br pm_M0 (pc_q := 2117) (pm_q0_7 (Nat.le_of_ble_eq_true rfl)) rfl ?_
  exact K _ ⟨I, WW, KK, RR⟩

set_option maxRecDepth 100000 in
set_option maxHeartbeats 4000000 in
theorem p6_k12 {L n j : Nat} {xs : Nat → Int32} {h : pm_H} {Q : Option Value → pm_H → Prop} (I : p6_I L xs j h) (hn : n + 7 ≤ L) (hL : L ≤ 3584) (K : ∀ h_q, p6_I L xs (j + 1) h_q → pm_R 100 0 2117 [.ref 0, .ref 16, .ref 41, .int (Int32.ofNat n)] [] h_q Q) : pm_R 100 0 746 [.ref 0, .ref 16, .ref 41, .int (Int32.ofNat n)] [] h Q := by
  obtain ⟨x1, v1⟩ : ∃ y, xs (Int32.toNatClampNeg (Int32.ofNat (n + 1))) = y := ⟨_, rfl⟩
  obtain ⟨x2, v2⟩ : ∃ y, xs (Int32.toNatClampNeg (Int32.ofNat (n + 2))) = y := ⟨_, rfl⟩
  obtain ⟨x3, v3⟩ : ∃ y, xs (Int32.toNatClampNeg (Int32.ofNat (n + 3))) = y := ⟨_, rfl⟩
  obtain ⟨x4, v4⟩ : ∃ y, xs (Int32.toNatClampNeg (Int32.ofNat (n + 4))) = y := ⟨_, rfl⟩
  obtain ⟨I, WW, KK, RR⟩ := I
  obtain ⟨ck, E, m, o, mr, wr, G, T, Tr, Y, e0, S, R, hc⟩ := I
  refine pm_R_lo pm_M0 (pc_q := 747) (pm_q0_7 (Nat.le_of_ble_eq_true rfl)) rfl rfl ?_
  refine pm_R_lo pm_M0 (pc_q := 748) (pm_q0_7 (Nat.le_of_ble_eq_true rfl)) rfl rfl ?_
  refine pm_R_lo pm_M0 (pc_q := 749) (pm_q0_7 (Nat.le_of_ble_eq_true rfl)) rfl rfl ?_
  refine pm_R_op pm_M0 (pc_q := 750) (st_q := [.int 1, .int (Int32.ofNat n), .ref 0, .ref 16]) (pm_q0_7 (Nat.le_of_ble_eq_true rfl)) rfl rfl ?_
  refine pm_R_op pm_M0 (pc_q := 751) (st_q := [.int (Int32.ofNat (n + 1)), .ref 0, .ref 16]) (pm_q0_7 (Nat.le_of_ble_eq_true rfl)) (congrArg (fun z => some (Value.int z :: [.ref 0, .ref 16])) (p2_ad (n := n) (c := 1) (k := 1) rfl)) rfl ?_
  refine pm_R_iald pm_M0 (pc_q := 752) (v := x1) (pm_q0_7 (Nat.le_of_ble_eq_true rfl)) ((T.old (by decide)).trans e0) (T.lt (by decide)) (p2_in (by omega) hL) v1 rfl ?_
  refine pm_R_lo pm_M0 (pc_q := 753) (pm_q0_7 (Nat.le_of_ble_eq_true rfl)) rfl rfl ?_
  refine pm_R_lo pm_M0 (pc_q := 754) (pm_q0_7 (Nat.le_of_ble_eq_true rfl)) rfl rfl ?_
  refine pm_R_op pm_M0 (pc_q := 755) (st_q := [.int 2, .int (Int32.ofNat n), .ref 0, .int x1, .ref 16]) (pm_q0_7 (Nat.le_of_ble_eq_true rfl)) rfl rfl ?_
  refine pm_R_op pm_M0 (pc_q := 756) (st_q := [.int (Int32.ofNat (n + 2)), .ref 0, .int x1, .ref 16]) (pm_q0_7 (Nat.le_of_ble_eq_true rfl)) (congrArg (fun z => some (Value.int z :: [.ref 0, .int x1, .ref 16])) (p2_ad (n := n) (c := 2) (k := 2) rfl)) rfl ?_
  refine pm_R_iald pm_M0 (pc_q := 757) (v := x2) (pm_q0_8 (Nat.le_of_ble_eq_true rfl)) ((T.old (by decide)).trans e0) (T.lt (by decide)) (p2_in (by omega) hL) v2 rfl ?_
  refine pm_R_lo pm_M0 (pc_q := 758) (pm_q0_8 (Nat.le_of_ble_eq_true rfl)) rfl rfl ?_
  refine pm_R_lo pm_M0 (pc_q := 759) (pm_q0_8 (Nat.le_of_ble_eq_true rfl)) rfl rfl ?_
  refine pm_R_op pm_M0 (pc_q := 760) (st_q := [.int 3, .int (Int32.ofNat n), .ref 0, .int x2, .int x1, .ref 16]) (pm_q0_8 (Nat.le_of_ble_eq_true rfl)) rfl rfl ?_
  refine pm_R_op pm_M0 (pc_q := 761) (st_q := [.int (Int32.ofNat (n + 3)), .ref 0, .int x2, .int x1, .ref 16]) (pm_q0_8 (Nat.le_of_ble_eq_true rfl)) (congrArg (fun z => some (Value.int z :: [.ref 0, .int x2, .int x1, .ref 16])) (p2_ad (n := n) (c := 3) (k := 3) rfl)) rfl ?_
  refine pm_R_iald pm_M0 (pc_q := 762) (v := x3) (pm_q0_8 (Nat.le_of_ble_eq_true rfl)) ((T.old (by decide)).trans e0) (T.lt (by decide)) (p2_in (by omega) hL) v3 rfl ?_
  refine pm_R_lo pm_M0 (pc_q := 763) (pm_q0_8 (Nat.le_of_ble_eq_true rfl)) rfl rfl ?_
  refine pm_R_lo pm_M0 (pc_q := 764) (pm_q0_8 (Nat.le_of_ble_eq_true rfl)) rfl rfl ?_
  refine pm_R_op pm_M0 (pc_q := 765) (st_q := [.int 4, .int (Int32.ofNat n), .ref 0, .int x3, .int x2, .int x1, .ref 16]) (pm_q0_8 (Nat.le_of_ble_eq_true rfl)) rfl rfl ?_
  refine pm_R_op pm_M0 (pc_q := 766) (st_q := [.int (Int32.ofNat (n + 4)), .ref 0, .int x3, .int x2, .int x1, .ref 16]) (pm_q0_8 (Nat.le_of_ble_eq_true rfl)) (congrArg (fun z => some (Value.int z :: [.ref 0, .int x3, .int x2, .int x1, .ref 16])) (p2_ad (n := n) (c := 4) (k := 4) rfl)) rfl ?_
  refine pm_R_iald pm_M0 (pc_q := 767) (v := x4) (pm_q0_8 (Nat.le_of_ble_eq_true rfl)) ((T.old (by decide)).trans e0) (T.lt (by decide)) (p2_in (by omega) hL) v4 rfl ?_
  refine pm_R_cv pm_M0 (pc_q := 770) (a := 16) (ra := [.int x4, .int x3, .int x2, .int x1]) (rest := []) (ls_q := [.ref 16, .int x1, .int x2, .int x3, .int x4, pm_no, pm_no]) (pm_q0_8 (Nat.le_of_ble_eq_true rfl)) rfl (Or.inl rfl) pm_M109 T.e16 rfl (by decide) (T.lt (by decide)) rfl rfl (Nat.le_of_ble_eq_true rfl) rfl rfl ?_
  refine ex_inj WW KK rfl ?_
  refine cl_c109 G T (fun r1 m1 h1 T1 F1 W1 _ => ?_)
  intro WW KK
  show pm_R 100 0 770 [.ref 0, .ref 16, .ref 41, .int (Int32.ofNat n)] [.int r1] _ _
  have RR := R2_cl G T F1 (by decide) RR
  have I := p2_cl (j := j) G T Tr Y e0 S R hc T1 F1 (W1 0 (by decide)) (by decide) (by decide) (by decide) (by decide) (by decide) (by decide) (by decide)
  obtain ⟨ck, E, m, o, mr, wr, G, T, Tr, Y, e0, S, R, hc⟩ := I
  refine pm_R_op pm_M0 (pc_q := 771) (st_q := []) (pm_q0_8 (Nat.le_of_ble_eq_true rfl)) rfl rfl ?_
  refine pm_R_lo pm_M0 (pc_q := 772) (pm_q0_8 (Nat.le_of_ble_eq_true rfl)) rfl rfl ?_
  refine pm_R_lo pm_M0 (pc_q := 773) (pm_q0_8 (Nat.le_of_ble_eq_true rfl)) rfl rfl ?_
  refine pm_R_lo pm_M0 (pc_q := 774) (pm_q0_8 (Nat.le_of_ble_eq_true rfl)) rfl rfl ?_
  refine pm_R_op pm_M0 (pc_q := 775) (st_q := [.int 1, .int (Int32.ofNat n), .ref 0, .ref 41]) (pm_q0_8 (Nat.le_of_ble_eq_true rfl)) rfl rfl ?_
  refine pm_R_op pm_M0 (pc_q := 776) (st_q := [.int (Int32.ofNat (n + 1)), .ref 0, .ref 41]) (pm_q0_8 (Nat.le_of_ble_eq_true rfl)) (congrArg (fun z => some (Value.int z :: [.ref 0, .ref 41])) (p2_ad (n := n) (c := 1) (k := 1) rfl)) rfl ?_
  refine pm_R_iald pm_M0 (pc_q := 777) (v := x1) (pm_q0_8 (Nat.le_of_ble_eq_true rfl)) ((T.old (by decide)).trans e0) (T.lt (by decide)) (p2_in (by omega) hL) v1 rfl ?_
  refine pm_R_lo pm_M0 (pc_q := 778) (pm_q0_8 (Nat.le_of_ble_eq_true rfl)) rfl rfl ?_
  refine pm_R_lo pm_M0 (pc_q := 779) (pm_q0_8 (Nat.le_of_ble_eq_true rfl)) rfl rfl ?_
  refine pm_R_op pm_M0 (pc_q := 780) (st_q := [.int 2, .int (Int32.ofNat n), .ref 0, .int x1, .ref 41]) (pm_q0_8 (Nat.le_of_ble_eq_true rfl)) rfl rfl ?_
  refine pm_R_op pm_M0 (pc_q := 781) (st_q := [.int (Int32.ofNat (n + 2)), .ref 0, .int x1, .ref 41]) (pm_q0_8 (Nat.le_of_ble_eq_true rfl)) (congrArg (fun z => some (Value.int z :: [.ref 0, .int x1, .ref 41])) (p2_ad (n := n) (c := 2) (k := 2) rfl)) rfl ?_
  refine pm_R_iald pm_M0 (pc_q := 782) (v := x2) (pm_q0_8 (Nat.le_of_ble_eq_true rfl)) ((T.old (by decide)).trans e0) (T.lt (by decide)) (p2_in (by omega) hL) v2 rfl ?_
  refine pm_R_lo pm_M0 (pc_q := 783) (pm_q0_8 (Nat.le_of_ble_eq_true rfl)) rfl rfl ?_
  refine pm_R_lo pm_M0 (pc_q := 784) (pm_q0_8 (Nat.le_of_ble_eq_true rfl)) rfl rfl ?_
  refine pm_R_op pm_M0 (pc_q := 785) (st_q := [.int 3, .int (Int32.ofNat n), .ref 0, .int x2, .int x1, .ref 41]) (pm_q0_8 (Nat.le_of_ble_eq_true rfl)) rfl rfl ?_
  refine pm_R_op pm_M0 (pc_q := 786) (st_q := [.int (Int32.ofNat (n + 3)), .ref 0, .int x2, .int x1, .ref 41]) (pm_q0_8 (Nat.le_of_ble_eq_true rfl)) (congrArg (fun z => some (Value.int z :: [.ref 0, .int x2, .int x1, .ref 41])) (p2_ad (n := n) (c := 3) (k := 3) rfl)) rfl ?_
  refine pm_R_iald pm_M0 (pc_q := 787) (v := x3) (pm_q0_8 (Nat.le_of_ble_eq_true rfl)) ((T.old (by decide)).trans e0) (T.lt (by decide)) (p2_in (by omega) hL) v3 rfl ?_
  refine pm_R_lo pm_M0 (pc_q := 788) (pm_q0_8 (Nat.le_of_ble_eq_true rfl)) rfl rfl ?_
  refine pm_R_lo pm_M0 (pc_q := 789) (pm_q0_8 (Nat.le_of_ble_eq_true rfl)) rfl rfl ?_
  refine pm_R_op pm_M0 (pc_q := 790) (st_q := [.int 4, .int (Int32.ofNat n), .ref 0, .int x3, .int x2, .int x1, .ref 41]) (pm_q0_8 (Nat.le_of_ble_eq_true rfl)) rfl rfl ?_
  refine pm_R_op pm_M0 (pc_q := 791) (st_q := [.int (Int32.ofNat (n + 4)), .ref 0, .int x3, .int x2, .int x1, .ref 41]) (pm_q0_8 (Nat.le_of_ble_eq_true rfl)) (congrArg (fun z => some (Value.int z :: [.ref 0, .int x3, .int x2, .int x1, .ref 41])) (p2_ad (n := n) (c := 4) (k := 4) rfl)) rfl ?_
  refine pm_R_iald pm_M0 (pc_q := 792) (v := x4) (pm_q0_8 (Nat.le_of_ble_eq_true rfl)) ((T.old (by decide)).trans e0) (T.lt (by decide)) (p2_in (by omega) hL) v4 rfl ?_
  refine pm_R_cv pm_M0 (pc_q := 795) (a := 41) (ra := [.int x4, .int x3, .int x2, .int x1]) (rest := []) (ls_q := [.ref 41, .int x1, .int x2, .int x3, .int x4]) (pm_q0_8 (Nat.le_of_ble_eq_true rfl)) rfl (Or.inl rfl) pm_M233 Tr.2.1 rfl (by decide) (Nat.lt_of_lt_of_le (by decide) Tr.1) rfl rfl (Nat.le_of_ble_eq_true rfl) rfl rfl ?_
  refine ex_inj WW KK rfl ?_
  refine rf_c233 Tr (fun r2 m1 w1 h1 T1 F1 W1 _ => ?_)
  intro WW KK
  show pm_R 100 0 795 [.ref 0, .ref 16, .ref 41, .int (Int32.ofNat n)] [.int r2] _ _
  have RR := R2_rf F1 (by decide) RR
  have I := p2_rf G T Y e0 S R hc T1 F1 (by decide)
  refine pm_R_op pm_M0 (pc_q := 796) (st_q := []) (pm_q0_8 (Nat.le_of_ble_eq_true rfl)) rfl rfl ?_
  refine pm_R_br pm_M0 (pc_q := 2117) (pm_q0_8 (Nat.le_of_ble_eq_true rfl)) rfl ?_
  exact K _ ⟨I, WW, KK, RR⟩

set_option maxRecDepth 100000 in
set_option maxHeartbeats 4000000 in
theorem p6_k13 {L n j : Nat} {xs : Nat → Int32} {h : pm_H} {Q : Option Value → pm_H → Prop} (I : p6_I L xs j h) (hn : n + 7 ≤ L) (hL : L ≤ 3584) (K : ∀ h_q, p6_I L xs (j + 1) h_q → pm_R 100 0 2117 [.ref 0, .ref 16, .ref 41, .int (Int32.ofNat n)] [] h_q Q) : pm_R 100 0 799 [.ref 0, .ref 16, .ref 41, .int (Int32.ofNat n)] [] h Q := by
  obtain ⟨x1, v1⟩ : ∃ y, xs (Int32.toNatClampNeg (Int32.ofNat (n + 1))) = y := ⟨_, rfl⟩
  obtain ⟨x2, v2⟩ : ∃ y, xs (Int32.toNatClampNeg (Int32.ofNat (n + 2))) = y := ⟨_, rfl⟩
  obtain ⟨x3, v3⟩ : ∃ y, xs (Int32.toNatClampNeg (Int32.ofNat (n + 3))) = y := ⟨_, rfl⟩
  obtain ⟨I, WW, KK, RR⟩ := I
  obtain ⟨ck, E, m, o, mr, wr, G, T, Tr, Y, e0, S, R, hc⟩ := I
  refine pm_R_lo pm_M0 (pc_q := 800) (pm_q0_8 (Nat.le_of_ble_eq_true rfl)) rfl rfl ?_
  refine pm_R_lo pm_M0 (pc_q := 801) (pm_q0_8 (Nat.le_of_ble_eq_true rfl)) rfl rfl ?_
  refine pm_R_lo pm_M0 (pc_q := 802) (pm_q0_8 (Nat.le_of_ble_eq_true rfl)) rfl rfl ?_
  refine pm_R_op pm_M0 (pc_q := 803) (st_q := [.int 1, .int (Int32.ofNat n), .ref 0, .ref 16]) (pm_q0_8 (Nat.le_of_ble_eq_true rfl)) rfl rfl ?_
  refine pm_R_op pm_M0 (pc_q := 804) (st_q := [.int (Int32.ofNat (n + 1)), .ref 0, .ref 16]) (pm_q0_8 (Nat.le_of_ble_eq_true rfl)) (congrArg (fun z => some (Value.int z :: [.ref 0, .ref 16])) (p2_ad (n := n) (c := 1) (k := 1) rfl)) rfl ?_
  refine pm_R_iald pm_M0 (pc_q := 805) (v := x1) (pm_q0_8 (Nat.le_of_ble_eq_true rfl)) ((T.old (by decide)).trans e0) (T.lt (by decide)) (p2_in (by omega) hL) v1 rfl ?_
  refine pm_R_lo pm_M0 (pc_q := 806) (pm_q0_8 (Nat.le_of_ble_eq_true rfl)) rfl rfl ?_
  refine pm_R_lo pm_M0 (pc_q := 807) (pm_q0_8 (Nat.le_of_ble_eq_true rfl)) rfl rfl ?_
  refine pm_R_op pm_M0 (pc_q := 808) (st_q := [.int 2, .int (Int32.ofNat n), .ref 0, .int x1, .ref 16]) (pm_q0_8 (Nat.le_of_ble_eq_true rfl)) rfl rfl ?_
  refine pm_R_op pm_M0 (pc_q := 809) (st_q := [.int (Int32.ofNat (n + 2)), .ref 0, .int x1, .ref 16]) (pm_q0_8 (Nat.le_of_ble_eq_true rfl)) (congrArg (fun z => some (Value.int z :: [.ref 0, .int x1, .ref 16])) (p2_ad (n := n) (c := 2) (k := 2) rfl)) rfl ?_
  refine pm_R_iald pm_M0 (pc_q := 810) (v := x2) (pm_q0_8 (Nat.le_of_ble_eq_true rfl)) ((T.old (by decide)).trans e0) (T.lt (by decide)) (p2_in (by omega) hL) v2 rfl ?_
  refine pm_R_lo pm_M0 (pc_q := 811) (pm_q0_8 (Nat.le_of_ble_eq_true rfl)) rfl rfl ?_
  refine pm_R_lo pm_M0 (pc_q := 812) (pm_q0_8 (Nat.le_of_ble_eq_true rfl)) rfl rfl ?_
  refine pm_R_op pm_M0 (pc_q := 813) (st_q := [.int 3, .int (Int32.ofNat n), .ref 0, .int x2, .int x1, .ref 16]) (pm_q0_8 (Nat.le_of_ble_eq_true rfl)) rfl rfl ?_
  refine pm_R_op pm_M0 (pc_q := 814) (st_q := [.int (Int32.ofNat (n + 3)), .ref 0, .int x2, .int x1, .ref 16]) (pm_q0_8 (Nat.le_of_ble_eq_true rfl)) (congrArg (fun z => some (Value.int z :: [.ref 0, .int x2, .int x1, .ref 16])) (p2_ad (n := n) (c := 3) (k := 3) rfl)) rfl ?_
  refine pm_R_iald pm_M0 (pc_q := 815) (v := x3) (pm_q0_8 (Nat.le_of_ble_eq_true rfl)) ((T.old (by decide)).trans e0) (T.lt (by decide)) (p2_in (by omega) hL) v3 rfl ?_
  refine pm_R_cv pm_M0 (pc_q := 818) (a := 16) (ra := [.int x3, .int x2, .int x1]) (rest := []) (ls_q := [.ref 16, .int x1, .int x2, .int x3, pm_no, pm_no, pm_no, pm_no, pm_no]) (pm_q0_8 (Nat.le_of_ble_eq_true rfl)) rfl (Or.inl rfl) pm_M115 T.e16 rfl (by decide) (T.lt (by decide)) rfl rfl (Nat.le_of_ble_eq_true rfl) rfl rfl ?_
  refine ex_inj WW KK rfl ?_
  refine cl_c115 G T (fun r1 => ?_)
  intro WW KK
  show pm_R 100 0 818 [.ref 0, .ref 16, .ref 41, .int (Int32.ofNat n)] [.long r1] _ _
  have I := p2_up (⟨ck, E, m, o, mr, wr, G, T, Tr, Y, e0, S, R, hc⟩ : p2_I L xs j h)
  obtain ⟨ck, E, m, o, mr, wr, G, T, Tr, Y, e0, S, R, hc⟩ := I
  refine pm_R_op pm_M0 (pc_q := 819) (st_q := []) (pm_q0_8 (Nat.le_of_ble_eq_true rfl)) rfl rfl ?_
  refine pm_R_lo pm_M0 (pc_q := 820) (pm_q0_8 (Nat.le_of_ble_eq_true rfl)) rfl rfl ?_
  refine pm_R_lo pm_M0 (pc_q := 821) (pm_q0_8 (Nat.le_of_ble_eq_true rfl)) rfl rfl ?_
  refine pm_R_lo pm_M0 (pc_q := 822) (pm_q0_8 (Nat.le_of_ble_eq_true rfl)) rfl rfl ?_
  refine pm_R_op pm_M0 (pc_q := 823) (st_q := [.int 1, .int (Int32.ofNat n), .ref 0, .ref 41]) (pm_q0_8 (Nat.le_of_ble_eq_true rfl)) rfl rfl ?_
  refine pm_R_op pm_M0 (pc_q := 824) (st_q := [.int (Int32.ofNat (n + 1)), .ref 0, .ref 41]) (pm_q0_8 (Nat.le_of_ble_eq_true rfl)) (congrArg (fun z => some (Value.int z :: [.ref 0, .ref 41])) (p2_ad (n := n) (c := 1) (k := 1) rfl)) rfl ?_
  refine pm_R_iald pm_M0 (pc_q := 825) (v := x1) (pm_q0_9 (Nat.le_of_ble_eq_true rfl)) ((T.old (by decide)).trans e0) (T.lt (by decide)) (p2_in (by omega) hL) v1 rfl ?_
  refine pm_R_lo pm_M0 (pc_q := 826) (pm_q0_9 (Nat.le_of_ble_eq_true rfl)) rfl rfl ?_
  refine pm_R_lo pm_M0 (pc_q := 827) (pm_q0_9 (Nat.le_of_ble_eq_true rfl)) rfl rfl ?_
  refine pm_R_op pm_M0 (pc_q := 828) (st_q := [.int 2, .int (Int32.ofNat n), .ref 0, .int x1, .ref 41]) (pm_q0_9 (Nat.le_of_ble_eq_true rfl)) rfl rfl ?_
  refine pm_R_op pm_M0 (pc_q := 829) (st_q := [.int (Int32.ofNat (n + 2)), .ref 0, .int x1, .ref 41]) (pm_q0_9 (Nat.le_of_ble_eq_true rfl)) (congrArg (fun z => some (Value.int z :: [.ref 0, .int x1, .ref 41])) (p2_ad (n := n) (c := 2) (k := 2) rfl)) rfl ?_
  refine pm_R_iald pm_M0 (pc_q := 830) (v := x2) (pm_q0_9 (Nat.le_of_ble_eq_true rfl)) ((T.old (by decide)).trans e0) (T.lt (by decide)) (p2_in (by omega) hL) v2 rfl ?_
  refine pm_R_lo pm_M0 (pc_q := 831) (pm_q0_9 (Nat.le_of_ble_eq_true rfl)) rfl rfl ?_
  refine pm_R_lo pm_M0 (pc_q := 832) (pm_q0_9 (Nat.le_of_ble_eq_true rfl)) rfl rfl ?_
  refine pm_R_op pm_M0 (pc_q := 833) (st_q := [.int 3, .int (Int32.ofNat n), .ref 0, .int x2, .int x1, .ref 41]) (pm_q0_9 (Nat.le_of_ble_eq_true rfl)) rfl rfl ?_
  refine pm_R_op pm_M0 (pc_q := 834) (st_q := [.int (Int32.ofNat (n + 3)), .ref 0, .int x2, .int x1, .ref 41]) (pm_q0_9 (Nat.le_of_ble_eq_true rfl)) (congrArg (fun z => some (Value.int z :: [.ref 0, .int x2, .int x1, .ref 41])) (p2_ad (n := n) (c := 3) (k := 3) rfl)) rfl ?_
  refine pm_R_iald pm_M0 (pc_q := 835) (v := x3) (pm_q0_9 (Nat.le_of_ble_eq_true rfl)) ((T.old (by decide)).trans e0) (T.lt (by decide)) (p2_in (by omega) hL) v3 rfl ?_
  refine pm_R_cv pm_M0 (pc_q := 838) (a := 41) (ra := [.int x3, .int x2, .int x1]) (rest := []) (ls_q := [.ref 41, .int x1, .int x2, .int x3, pm_no, pm_no, pm_no]) (pm_q0_9 (Nat.le_of_ble_eq_true rfl)) rfl (Or.inl rfl) pm_M237 Tr.2.1 rfl (by decide) (Nat.lt_of_lt_of_le (by decide) Tr.1) rfl rfl (Nat.le_of_ble_eq_true rfl) rfl rfl ?_
  refine ex_inj WW KK rfl ?_
  refine rf_c237 Tr (fun r2 m1 w1 h1 T1 F1 W1 => ?_)
  intro WW KK
  show pm_R 100 0 838 [.ref 0, .ref 16, .ref 41, .int (Int32.ofNat n)] [.long r2] _ _
  have RR := R2_rf F1 (by decide) RR
  have I := p2_rf G T Y e0 S R hc T1 F1 (by decide)
  refine pm_R_op pm_M0 (pc_q := 839) (st_q := []) (pm_q0_9 (Nat.le_of_ble_eq_true rfl)) rfl rfl ?_
  refine pm_R_br pm_M0 (pc_q := 2117) (pm_q0_9 (Nat.le_of_ble_eq_true rfl)) rfl ?_
  exact K _ ⟨I, WW, KK, RR⟩

set_option maxRecDepth 100000 in
set_option maxHeartbeats 4000000 in
theorem p6_k14 {L n j : Nat} {xs : Nat → Int32} {h : pm_H} {Q : Option Value → pm_H → Prop} (I : p6_I L xs j h) (hn : n + 7 ≤ L) (hL : L ≤ 3584) (K : ∀ h_q, p6_I L xs (j + 1) h_q → pm_R 100 0 2117 [.ref 0, .ref 16, .ref 41, .int (Int32.ofNat n)] [] h_q Q) : pm_R 100 0 842 [.ref 0, .ref 16, .ref 41, .int (Int32.ofNat n)] [] h Q := by
  obtain ⟨x1, v1⟩ : ∃ y, xs (Int32.toNatClampNeg (Int32.ofNat (n + 1))) = y := ⟨_, rfl⟩
  obtain ⟨x2, v2⟩ : ∃ y, xs (Int32.toNatClampNeg (Int32.ofNat (n + 2))) = y := ⟨_, rfl⟩
  obtain ⟨I, WW, KK, RR⟩ := I
  obtain ⟨ck, E, m, o, mr, wr, G, T, Tr, Y, e0, S, R, hc⟩ := I
  refine pm_R_lo pm_M0 (pc_q := 843) (pm_q0_9 (Nat.le_of_ble_eq_true rfl)) rfl rfl ?_
  refine pm_R_lo pm_M0 (pc_q := 844) (pm_q0_9 (Nat.le_of_ble_eq_true rfl)) rfl rfl ?_
  refine pm_R_lo pm_M0 (pc_q := 845) (pm_q0_9 (Nat.le_of_ble_eq_true rfl)) rfl rfl ?_
  refine pm_R_op pm_M0 (pc_q := 846) (st_q := [.int 1, .int (Int32.ofNat n), .ref 0, .ref 16]) (pm_q0_9 (Nat.le_of_ble_eq_true rfl)) rfl rfl ?_
  refine pm_R_op pm_M0 (pc_q := 847) (st_q := [.int (Int32.ofNat (n + 1)), .ref 0, .ref 16]) (pm_q0_9 (Nat.le_of_ble_eq_true rfl)) (congrArg (fun z => some (Value.int z :: [.ref 0, .ref 16])) (p2_ad (n := n) (c := 1) (k := 1) rfl)) rfl ?_
  refine pm_R_iald pm_M0 (pc_q := 848) (v := x1) (pm_q0_9 (Nat.le_of_ble_eq_true rfl)) ((T.old (by decide)).trans e0) (T.lt (by decide)) (p2_in (by omega) hL) v1 rfl ?_
  refine pm_R_lo pm_M0 (pc_q := 849) (pm_q0_9 (Nat.le_of_ble_eq_true rfl)) rfl rfl ?_
  refine pm_R_lo pm_M0 (pc_q := 850) (pm_q0_9 (Nat.le_of_ble_eq_true rfl)) rfl rfl ?_
  refine pm_R_op pm_M0 (pc_q := 851) (st_q := [.int 2, .int (Int32.ofNat n), .ref 0, .int x1, .ref 16]) (pm_q0_9 (Nat.le_of_ble_eq_true rfl)) rfl rfl ?_
  refine pm_R_op pm_M0 (pc_q := 852) (st_q := [.int (Int32.ofNat (n + 2)), .ref 0, .int x1, .ref 16]) (pm_q0_9 (Nat.le_of_ble_eq_true rfl)) (congrArg (fun z => some (Value.int z :: [.ref 0, .int x1, .ref 16])) (p2_ad (n := n) (c := 2) (k := 2) rfl)) rfl ?_
  refine pm_R_iald pm_M0 (pc_q := 853) (v := x2) (pm_q0_9 (Nat.le_of_ble_eq_true rfl)) ((T.old (by decide)).trans e0) (T.lt (by decide)) (p2_in (by omega) hL) v2 rfl ?_
  refine pm_R_cv pm_M0 (pc_q := 856) (a := 16) (ra := [.int x2, .int x1]) (rest := []) (ls_q := [.ref 16, .int x1, .int x2, pm_no, pm_no, pm_no, pm_no, pm_no]) (pm_q0_9 (Nat.le_of_ble_eq_true rfl)) rfl (Or.inl rfl) pm_M117 T.e16 rfl (by decide) (T.lt (by decide)) rfl rfl (Nat.le_of_ble_eq_true rfl) rfl rfl ?_
  refine ex_inj WW KK rfl ?_
  refine cl_c117 G T (fun r1 m1 h1 T1 F1 W1 _ => ?_)
  intro WW KK
  show pm_R 100 0 856 [.ref 0, .ref 16, .ref 41, .int (Int32.ofNat n)] [.int r1] _ _
  have RR := R2_cl G T F1 (by decide) RR
  have I := p2_cl (j := j) G T Tr Y e0 S R hc T1 F1 (W1 0 (by decide)) (by decide) (by decide) (by decide) (by decide) (by decide) (by decide) (by decide)
  obtain ⟨ck, E, m, o, mr, wr, G, T, Tr, Y, e0, S, R, hc⟩ := I
  refine pm_R_op pm_M0 (pc_q := 857) (st_q := []) (pm_q0_9 (Nat.le_of_ble_eq_true rfl)) rfl rfl ?_
  refine pm_R_lo pm_M0 (pc_q := 858) (pm_q0_9 (Nat.le_of_ble_eq_true rfl)) rfl rfl ?_
  refine pm_R_lo pm_M0 (pc_q := 859) (pm_q0_9 (Nat.le_of_ble_eq_true rfl)) rfl rfl ?_
  refine pm_R_lo pm_M0 (pc_q := 860) (pm_q0_9 (Nat.le_of_ble_eq_true rfl)) rfl rfl ?_
  refine pm_R_op pm_M0 (pc_q := 861) (st_q := [.int 1, .int (Int32.ofNat n), .ref 0, .ref 41]) (pm_q0_9 (Nat.le_of_ble_eq_true rfl)) rfl rfl ?_
  refine pm_R_op pm_M0 (pc_q := 862) (st_q := [.int (Int32.ofNat (n + 1)), .ref 0, .ref 41]) (pm_q0_9 (Nat.le_of_ble_eq_true rfl)) (congrArg (fun z => some (Value.int z :: [.ref 0, .ref 41])) (p2_ad (n := n) (c := 1) (k := 1) rfl)) rfl ?_
  refine pm_R_iald pm_M0 (pc_q := 863) (v := x1) (pm_q0_9 (Nat.le_of_ble_eq_true rfl)) ((T.old (by decide)).trans e0) (T.lt (by decide)) (p2_in (by omega) hL) v1 rfl ?_
  refine pm_R_lo pm_M0 (pc_q := 864) (pm_q0_9 (Nat.le_of_ble_eq_true rfl)) rfl rfl ?_
  refine pm_R_lo pm_M0 (pc_q := 865) (pm_q0_9 (Nat.le_of_ble_eq_true rfl)) rfl rfl ?_
  refine pm_R_op pm_M0 (pc_q := 866) (st_q := [.int 2, .int (Int32.ofNat n), .ref 0, .int x1, .ref 41]) (pm_q0_9 (Nat.le_of_ble_eq_true rfl)) rfl rfl ?_
  refine pm_R_op pm_M0 (pc_q := 867) (st_q := [.int (Int32.ofNat (n + 2)), .ref 0, .int x1, .ref 41]) (pm_q0_9 (Nat.le_of_ble_eq_true rfl)) (congrArg (fun z => some (Value.int z :: [.ref 0, .int x1, .ref 41])) (p2_ad (n := n) (c := 2) (k := 2) rfl)) rfl ?_
  refine pm_R_iald pm_M0 (pc_q := 868) (v := x2) (pm_q0_9 (Nat.le_of_ble_eq_true rfl)) ((T.old (by decide)).trans e0) (T.lt (by decide)) (p2_in (by omega) hL) v2 rfl ?_
  refine pm_R_cv pm_M0 (pc_q := 871) (a := 41) (ra := [.int x2, .int x1]) (rest := []) (ls_q := [.ref 41, .int x1, .int x2, pm_no, pm_no]) (pm_q0_9 (Nat.le_of_ble_eq_true rfl)) rfl (Or.inl rfl) pm_M238 Tr.2.1 rfl (by decide) (Nat.lt_of_lt_of_le (by decide) Tr.1) rfl rfl (Nat.le_of_ble_eq_true rfl) rfl rfl ?_
  refine ex_inj WW KK rfl ?_
  refine rf_c238 Tr (fun r2 m1 w1 h1 T1 F1 W1 _ => ?_)
  intro WW KK
  show pm_R 100 0 871 [.ref 0, .ref 16, .ref 41, .int (Int32.ofNat n)] [.int r2] _ _
  have RR := R2_rf F1 (by decide) RR
  have I := p2_rf G T Y e0 S R hc T1 F1 (by decide)
  refine pm_R_op pm_M0 (pc_q := 872) (st_q := []) (pm_q0_9 (Nat.le_of_ble_eq_true rfl)) rfl rfl ?_
  refine pm_R_br pm_M0 (pc_q := 2117) (pm_q0_9 (Nat.le_of_ble_eq_true rfl)) rfl ?_
  exact K _ ⟨I, WW, KK, RR⟩

set_option maxRecDepth 100000 in
set_option maxHeartbeats 4000000 in
theorem p6_k15 {L n j : Nat} {xs : Nat → Int32} {h : pm_H} {Q : Option Value → pm_H → Prop} (I : p6_I L xs j h) (hn : n + 7 ≤ L) (hL : L ≤ 3584) (K : ∀ h_q, p6_I L xs (j + 1) h_q → pm_R 100 0 2117 [.ref 0, .ref 16, .ref 41, .int (Int32.ofNat n)] [] h_q Q) : pm_R 100 0 875 [.ref 0, .ref 16, .ref 41, .int (Int32.ofNat n)] [] h Q := by
  obtain ⟨x1, v1⟩ : ∃ y, xs (Int32.toNatClampNeg (Int32.ofNat (n + 1))) = y := ⟨_, rfl⟩
  obtain ⟨x2, v2⟩ : ∃ y, xs (Int32.toNatClampNeg (Int32.ofNat (n + 2))) = y := ⟨_, rfl⟩
  obtain ⟨x3, v3⟩ : ∃ y, xs (Int32.toNatClampNeg (Int32.ofNat (n + 3))) = y := ⟨_, rfl⟩
  obtain ⟨x4, v4⟩ : ∃ y, xs (Int32.toNatClampNeg (Int32.ofNat (n + 4))) = y := ⟨_, rfl⟩
  obtain ⟨I, WW, KK, RR⟩ := I
  obtain ⟨ck, E, m, o, mr, wr, G, T, Tr, Y, e0, S, R, hc⟩ := I
  refine pm_R_lo pm_M0 (pc_q := 876) (pm_q0_9 (Nat.le_of_ble_eq_true rfl)) rfl rfl ?_
  refine pm_R_lo pm_M0 (pc_q := 877) (pm_q0_9 (Nat.le_of_ble_eq_true rfl)) rfl rfl ?_
  refine pm_R_lo pm_M0 (pc_q := 878) (pm_q0_9 (Nat.le_of_ble_eq_true rfl)) rfl rfl ?_
  refine pm_R_op pm_M0 (pc_q := 879) (st_q := [.int 1, .int (Int32.ofNat n), .ref 0, .ref 16]) (pm_q0_9 (Nat.le_of_ble_eq_true rfl)) rfl rfl ?_
  refine pm_R_op pm_M0 (pc_q := 880) (st_q := [.int (Int32.ofNat (n + 1)), .ref 0, .ref 16]) (pm_q0_9 (Nat.le_of_ble_eq_true rfl)) (congrArg (fun z => some (Value.int z :: [.ref 0, .ref 16])) (p2_ad (n := n) (c := 1) (k := 1) rfl)) rfl ?_
  refine pm_R_iald pm_M0 (pc_q := 881) (v := x1) (pm_q0_9 (Nat.le_of_ble_eq_true rfl)) ((T.old (by decide)).trans e0) (T.lt (by decide)) (p2_in (by omega) hL) v1 rfl ?_
  refine pm_R_lo pm_M0 (pc_q := 882) (pm_q0_9 (Nat.le_of_ble_eq_true rfl)) rfl rfl ?_
  refine pm_R_lo pm_M0 (pc_q := 883) (pm_q0_9 (Nat.le_of_ble_eq_true rfl)) rfl rfl ?_
  refine pm_R_op pm_M0 (pc_q := 884) (st_q := [.int 2, .int (Int32.ofNat n), .ref 0, .int x1, .ref 16]) (pm_q0_9 (Nat.le_of_ble_eq_true rfl)) rfl rfl ?_
  refine pm_R_op pm_M0 (pc_q := 885) (st_q := [.int (Int32.ofNat (n + 2)), .ref 0, .int x1, .ref 16]) (pm_q0_9 (Nat.le_of_ble_eq_true rfl)) (congrArg (fun z => some (Value.int z :: [.ref 0, .int x1, .ref 16])) (p2_ad (n := n) (c := 2) (k := 2) rfl)) rfl ?_
  refine pm_R_iald pm_M0 (pc_q := 886) (v := x2) (pm_q0_9 (Nat.le_of_ble_eq_true rfl)) ((T.old (by decide)).trans e0) (T.lt (by decide)) (p2_in (by omega) hL) v2 rfl ?_
  refine pm_R_lo pm_M0 (pc_q := 887) (pm_q0_9 (Nat.le_of_ble_eq_true rfl)) rfl rfl ?_
  refine pm_R_lo pm_M0 (pc_q := 888) (pm_q0_9 (Nat.le_of_ble_eq_true rfl)) rfl rfl ?_
  refine pm_R_op pm_M0 (pc_q := 889) (st_q := [.int 3, .int (Int32.ofNat n), .ref 0, .int x2, .int x1, .ref 16]) (pm_q0_9 (Nat.le_of_ble_eq_true rfl)) rfl rfl ?_
  refine pm_R_op pm_M0 (pc_q := 890) (st_q := [.int (Int32.ofNat (n + 3)), .ref 0, .int x2, .int x1, .ref 16]) (pm_q0_9 (Nat.le_of_ble_eq_true rfl)) (congrArg (fun z => some (Value.int z :: [.ref 0, .int x2, .int x1, .ref 16])) (p2_ad (n := n) (c := 3) (k := 3) rfl)) rfl ?_
  refine pm_R_iald pm_M0 (pc_q := 891) (v := x3) (pm_q0_9 (Nat.le_of_ble_eq_true rfl)) ((T.old (by decide)).trans e0) (T.lt (by decide)) (p2_in (by omega) hL) v3 rfl ?_
  refine pm_R_lo pm_M0 (pc_q := 892) (pm_q0_9 (Nat.le_of_ble_eq_true rfl)) rfl rfl ?_
  refine pm_R_lo pm_M0 (pc_q := 893) (pm_q0_9 (Nat.le_of_ble_eq_true rfl)) rfl rfl ?_
  refine pm_R_op pm_M0 (pc_q := 894) (st_q := [.int 4, .int (Int32.ofNat n), .ref 0, .int x3, .int x2, .int x1, .ref 16]) (pm_q0_9 (Nat.le_of_ble_eq_true rfl)) rfl rfl ?_
  refine pm_R_op pm_M0 (pc_q := 895) (st_q := [.int (Int32.ofNat (n + 4)), .ref 0, .int x3, .int x2, .int x1, .ref 16]) (pm_q0_10 (Nat.le_of_ble_eq_true rfl)) (congrArg (fun z => some (Value.int z :: [.ref 0, .int x3, .int x2, .int x1, .ref 16])) (p2_ad (n := n) (c := 4) (k := 4) rfl)) rfl ?_
  refine pm_R_iald pm_M0 (pc_q := 896) (v := x4) (pm_q0_10 (Nat.le_of_ble_eq_true rfl)) ((T.old (by decide)).trans e0) (T.lt (by decide)) (p2_in (by omega) hL) v4 rfl ?_
  refine pm_R_cv pm_M0 (pc_q := 899) (a := 16) (ra := [.int x4, .int x3, .int x2, .int x1]) (rest := []) (ls_q := [.ref 16, .int x1, .int x2, .int x3, .int x4]) (pm_q0_10 (Nat.le_of_ble_eq_true rfl)) rfl (Or.inl rfl) pm_M121 T.e16 rfl (by decide) (T.lt (by decide)) rfl rfl (Nat.le_of_ble_eq_true rfl) rfl rfl ?_
  suffices go : ∀ (r1 : Int32) (h1 : pm_H), p2_I L xs (j + 1) h1 → ex_W h1 → ex_K h1 → R2 (ex_V h1) → pm_R 100 0 899 [.ref 0, .ref 16, .ref 41, .int (Int32.ofNat n)] [.int r1] h1 Q by
    refine ex_inj WW KK rfl ?_
    refine cl_c121_x G T (fun r1 m1 h1 T1 F1 W1 X1 => ?_) (fun r1 m1 ck1 h1 A1 G1 T1 F1 W1 X1 => ?_)
    · exact fun WW KK => go _ _ (p2_clg (j := j) G T Tr S hc G T1 e0 (Y.cl G F1 (by decide)) (by obtain ⟨f, e, b⟩ := R; obtain ⟨f1, e1, b1⟩ := X1 f e; exact ⟨f1, e1, by omega⟩) F1 (W1 0 (by decide)) (by decide) (by decide) (by decide)) WW KK (R2_cl G T F1 (by decide) RR)
    · exact fun WW KK => go _ _ (p2_clg (j := j) G T Tr S hc G1 T1 e0 (Y.cl G F1 (by decide)) (by obtain ⟨f, e, b⟩ := R; obtain ⟨f1, e1, b1⟩ := X1 f e; exact ⟨f1, e1, by omega⟩) F1 (W1 0 (by decide)) (by decide) (by decide) (by decide)) WW KK (R2_cl G T F1 (by decide) RR)
  intro r1 h1 I WW KK RR
  obtain ⟨ck, E, m, o, mr, wr, G, T, Tr, Y, e0, S, R, hc⟩ := I
  refine pm_R_op pm_M0 (pc_q := 900) (st_q := []) (pm_q0_10 (Nat.le_of_ble_eq_true rfl)) rfl rfl ?_
  refine pm_R_lo pm_M0 (pc_q := 901) (pm_q0_10 (Nat.le_of_ble_eq_true rfl)) rfl rfl ?_
  refine pm_R_lo pm_M0 (pc_q := 902) (pm_q0_10 (Nat.le_of_ble_eq_true rfl)) rfl rfl ?_
  refine pm_R_lo pm_M0 (pc_q := 903) (pm_q0_10 (Nat.le_of_ble_eq_true rfl)) rfl rfl ?_
  refine pm_R_op pm_M0 (pc_q := 904) (st_q := [.int 1, .int (Int32.ofNat n), .ref 0, .ref 41]) (pm_q0_10 (Nat.le_of_ble_eq_true rfl)) rfl rfl ?_
  refine pm_R_op pm_M0 (pc_q := 905) (st_q := [.int (Int32.ofNat (n + 1)), .ref 0, .ref 41]) (pm_q0_10 (Nat.le_of_ble_eq_true rfl)) (congrArg (fun z => some (Value.int z :: [.ref 0, .ref 41])) (p2_ad (n := n) (c := 1) (k := 1) rfl)) rfl ?_
  refine pm_R_iald pm_M0 (pc_q := 906) (v := x1) (pm_q0_10 (Nat.le_of_ble_eq_true rfl)) ((T.old (by decide)).trans e0) (T.lt (by decide)) (p2_in (by omega) hL) v1 rfl ?_
  refine pm_R_lo pm_M0 (pc_q := 907) (pm_q0_10 (Nat.le_of_ble_eq_true rfl)) rfl rfl ?_
  refine pm_R_lo pm_M0 (pc_q := 908) (pm_q0_10 (Nat.le_of_ble_eq_true rfl)) rfl rfl ?_
  refine pm_R_op pm_M0 (pc_q := 909) (st_q := [.int 2, .int (Int32.ofNat n), .ref 0, .int x1, .ref 41]) (pm_q0_10 (Nat.le_of_ble_eq_true rfl)) rfl rfl ?_
  refine pm_R_op pm_M0 (pc_q := 910) (st_q := [.int (Int32.ofNat (n + 2)), .ref 0, .int x1, .ref 41]) (pm_q0_10 (Nat.le_of_ble_eq_true rfl)) (congrArg (fun z => some (Value.int z :: [.ref 0, .int x1, .ref 41])) (p2_ad (n := n) (c := 2) (k := 2) rfl)) rfl ?_
  refine pm_R_iald pm_M0 (pc_q := 911) (v := x2) (pm_q0_10 (Nat.le_of_ble_eq_true rfl)) ((T.old (by decide)).trans e0) (T.lt (by decide)) (p2_in (by omega) hL) v2 rfl ?_
  refine pm_R_lo pm_M0 (pc_q := 912) (pm_q0_10 (Nat.le_of_ble_eq_true rfl)) rfl rfl ?_
  refine pm_R_lo pm_M0 (pc_q := 913) (pm_q0_10 (Nat.le_of_ble_eq_true rfl)) rfl rfl ?_
  refine pm_R_op pm_M0 (pc_q := 914) (st_q := [.int 3, .int (Int32.ofNat n), .ref 0, .int x2, .int x1, .ref 41]) (pm_q0_10 (Nat.le_of_ble_eq_true rfl)) rfl rfl ?_
  refine pm_R_op pm_M0 (pc_q := 915) (st_q := [.int (Int32.ofNat (n + 3)), .ref 0, .int x2, .int x1, .ref 41]) (pm_q0_10 (Nat.le_of_ble_eq_true rfl)) (congrArg (fun z => some (Value.int z :: [.ref 0, .int x2, .int x1, .ref 41])) (p2_ad (n := n) (c := 3) (k := 3) rfl)) rfl ?_
  refine pm_R_iald pm_M0 (pc_q := 916) (v := x3) (pm_q0_10 (Nat.le_of_ble_eq_true rfl)) ((T.old (by decide)).trans e0) (T.lt (by decide)) (p2_in (by omega) hL) v3 rfl ?_
  refine pm_R_lo pm_M0 (pc_q := 917) (pm_q0_10 (Nat.le_of_ble_eq_true rfl)) rfl rfl ?_
  refine pm_R_lo pm_M0 (pc_q := 918) (pm_q0_10 (Nat.le_of_ble_eq_true rfl)) rfl rfl ?_
  refine pm_R_op pm_M0 (pc_q := 919) (st_q := [.int 4, .int (Int32.ofNat n), .ref 0, .int x3, .int x2, .int x1, .ref 41]) (pm_q0_10 (Nat.le_of_ble_eq_true rfl)) rfl rfl ?_
  refine pm_R_op pm_M0 (pc_q := 920) (st_q := [.int (Int32.ofNat (n + 4)), .ref 0, .int x3, .int x2, .int x1, .ref 41]) (pm_q0_10 (Nat.le_of_ble_eq_true rfl)) (congrArg (fun z => some (Value.int z :: [.ref 0, .int x3, .int x2, .int x1, .ref 41])) (p2_ad (n := n) (c := 4) (k := 4) rfl)) rfl ?_
  refine pm_R_iald pm_M0 (pc_q := 921) (v := x4) (pm_q0_10 (Nat.le_of_ble_eq_true rfl)) ((T.old (by decide)).trans e0) (T.lt (by decide)) (p2_in (by omega) hL) v4 rfl ?_
  refine pm_R_cv pm_M0 (pc_q := 924) (a := 41) (ra := [.int x4, .int x3, .int x2, .int x1]) (rest := []) (ls_q := [.ref 41, .int x1, .int x2, .int x3, .int x4]) (pm_q0_10 (Nat.le_of_ble_eq_true rfl)) rfl (Or.inl rfl) pm_M240 Tr.2.1 rfl (by decide) (Nat.lt_of_lt_of_le (by decide) Tr.1) rfl rfl (Nat.le_of_ble_eq_true rfl) rfl rfl ?_
  refine ex_inj WW KK rfl ?_
  refine rf_c240 Tr (fun r2 m1 w1 h1 T1 F1 W1 _ => ?_)
  intro WW KK
  show pm_R 100 0 924 [.ref 0, .ref 16, .ref 41, .int (Int32.ofNat n)] [.int r2] _ _
  have RR := R2_rf F1 (by decide) RR
  have I := p2_rf G T Y e0 S R hc T1 F1 (by decide)
  refine pm_R_op pm_M0 (pc_q := 925) (st_q := []) (pm_q0_10 (Nat.le_of_ble_eq_true rfl)) rfl rfl ?_
  refine pm_R_br pm_M0 (pc_q := 2117) (pm_q0_10 (Nat.le_of_ble_eq_true rfl)) rfl ?_
  exact K _ ⟨I, WW, KK, RR⟩

set_option maxRecDepth 100000 in
set_option maxHeartbeats 4000000 in
theorem p6_k16 {L n j : Nat} {xs : Nat → Int32} {h : pm_H} {Q : Option Value → pm_H → Prop} (I : p6_I L xs j h) (hn : n + 7 ≤ L) (hL : L ≤ 3584) (K : ∀ h_q, p6_I L xs (j + 1) h_q → pm_R 100 0 2117 [.ref 0, .ref 16, .ref 41, .int (Int32.ofNat n)] [] h_q Q) : pm_R 100 0 928 [.ref 0, .ref 16, .ref 41, .int (Int32.ofNat n)] [] h Q := by
  obtain ⟨x1, v1⟩ : ∃ y, xs (Int32.toNatClampNeg (Int32.ofNat (n + 1))) = y := ⟨_, rfl⟩
  obtain ⟨x2, v2⟩ : ∃ y, xs (Int32.toNatClampNeg (Int32.ofNat (n + 2))) = y := ⟨_, rfl⟩
  obtain ⟨x3, v3⟩ : ∃ y, xs (Int32.toNatClampNeg (Int32.ofNat (n + 3))) = y := ⟨_, rfl⟩
  obtain ⟨I, WW, KK, RR⟩ := I
  obtain ⟨ck, E, m, o, mr, wr, G, T, Tr, Y, e0, S, R, hc⟩ := I
  refine pm_R_lo pm_M0 (pc_q := 929) (pm_q0_10 (Nat.le_of_ble_eq_true rfl)) rfl rfl ?_
  refine pm_R_lo pm_M0 (pc_q := 930) (pm_q0_10 (Nat.le_of_ble_eq_true rfl)) rfl rfl ?_
  refine pm_R_lo pm_M0 (pc_q := 931) (pm_q0_10 (Nat.le_of_ble_eq_true rfl)) rfl rfl ?_
  refine pm_R_op pm_M0 (pc_q := 932) (st_q := [.int 1, .int (Int32.ofNat n), .ref 0, .ref 16]) (pm_q0_10 (Nat.le_of_ble_eq_true rfl)) rfl rfl ?_
  refine pm_R_op pm_M0 (pc_q := 933) (st_q := [.int (Int32.ofNat (n + 1)), .ref 0, .ref 16]) (pm_q0_10 (Nat.le_of_ble_eq_true rfl)) (congrArg (fun z => some (Value.int z :: [.ref 0, .ref 16])) (p2_ad (n := n) (c := 1) (k := 1) rfl)) rfl ?_
  refine pm_R_iald pm_M0 (pc_q := 934) (v := x1) (pm_q0_10 (Nat.le_of_ble_eq_true rfl)) ((T.old (by decide)).trans e0) (T.lt (by decide)) (p2_in (by omega) hL) v1 rfl ?_
  refine pm_R_lo pm_M0 (pc_q := 935) (pm_q0_10 (Nat.le_of_ble_eq_true rfl)) rfl rfl ?_
  refine pm_R_lo pm_M0 (pc_q := 936) (pm_q0_10 (Nat.le_of_ble_eq_true rfl)) rfl rfl ?_
  refine pm_R_op pm_M0 (pc_q := 937) (st_q := [.int 2, .int (Int32.ofNat n), .ref 0, .int x1, .ref 16]) (pm_q0_10 (Nat.le_of_ble_eq_true rfl)) rfl rfl ?_
  refine pm_R_op pm_M0 (pc_q := 938) (st_q := [.int (Int32.ofNat (n + 2)), .ref 0, .int x1, .ref 16]) (pm_q0_10 (Nat.le_of_ble_eq_true rfl)) (congrArg (fun z => some (Value.int z :: [.ref 0, .int x1, .ref 16])) (p2_ad (n := n) (c := 2) (k := 2) rfl)) rfl ?_
  refine pm_R_iald pm_M0 (pc_q := 939) (v := x2) (pm_q0_10 (Nat.le_of_ble_eq_true rfl)) ((T.old (by decide)).trans e0) (T.lt (by decide)) (p2_in (by omega) hL) v2 rfl ?_
  refine pm_R_lo pm_M0 (pc_q := 940) (pm_q0_10 (Nat.le_of_ble_eq_true rfl)) rfl rfl ?_
  refine pm_R_lo pm_M0 (pc_q := 941) (pm_q0_10 (Nat.le_of_ble_eq_true rfl)) rfl rfl ?_
  refine pm_R_op pm_M0 (pc_q := 942) (st_q := [.int 3, .int (Int32.ofNat n), .ref 0, .int x2, .int x1, .ref 16]) (pm_q0_10 (Nat.le_of_ble_eq_true rfl)) rfl rfl ?_
  refine pm_R_op pm_M0 (pc_q := 943) (st_q := [.int (Int32.ofNat (n + 3)), .ref 0, .int x2, .int x1, .ref 16]) (pm_q0_10 (Nat.le_of_ble_eq_true rfl)) (congrArg (fun z => some (Value.int z :: [.ref 0, .int x2, .int x1, .ref 16])) (p2_ad (n := n) (c := 3) (k := 3) rfl)) rfl ?_
  refine pm_R_iald pm_M0 (pc_q := 944) (v := x3) (pm_q0_10 (Nat.le_of_ble_eq_true rfl)) ((T.old (by decide)).trans e0) (T.lt (by decide)) (p2_in (by omega) hL) v3 rfl ?_
  refine pm_R_cv pm_M0 (pc_q := 947) (a := 16) (ra := [.int x3, .int x2, .int x1]) (rest := []) (ls_q := [.ref 16, .int x1, .int x2, .int x3]) (pm_q0_10 (Nat.le_of_ble_eq_true rfl)) rfl (Or.inl rfl) pm_M135 T.e16 rfl (by decide) (T.lt (by decide)) rfl rfl (Nat.le_of_ble_eq_true rfl) rfl rfl ?_
  suffices go : ∀ (r1 : Int32) (h1 : pm_H), p2_I L xs (j + 1) h1 → ex_W h1 → ex_K h1 → R2 (ex_V h1) → pm_R 100 0 947 [.ref 0, .ref 16, .ref 41, .int (Int32.ofNat n)] [.int r1] h1 Q by
    refine ex_inj WW KK rfl ?_
    refine cl_c135_x G T (fun r1 m1 h1 T1 F1 W1 X1 => ?_) (fun r1 m1 ck1 h1 A1 G1 T1 F1 W1 X1 => ?_)
    · exact fun WW KK => go _ _ (p2_clg (j := j) G T Tr S hc G T1 e0 (Y.cl G F1 (by decide)) (by obtain ⟨f, e, b⟩ := R; obtain ⟨f1, e1, b1⟩ := X1 f e; exact ⟨f1, e1, by omega⟩) F1 (W1 0 (by decide)) (by decide) (by decide) (by decide)) WW KK (R2_cl G T F1 (by decide) RR)
    · exact fun WW KK => go _ _ (p2_clg (j := j) G T Tr S hc G1 T1 e0 (Y.cl G F1 (by decide)) (by obtain ⟨f, e, b⟩ := R; obtain ⟨f1, e1, b1⟩ := X1 f e; exact ⟨f1, e1, by omega⟩) F1 (W1 0 (by decide)) (by decide) (by decide) (by decide)) WW KK (R2_cl G T F1 (by decide) RR)
  intro r1 h1 I WW KK RR
  obtain ⟨ck, E, m, o, mr, wr, G, T, Tr, Y, e0, S, R, hc⟩ := I
  refine pm_R_op pm_M0 (pc_q := 948) (st_q := []) (pm_q0_10 (Nat.le_of_ble_eq_true rfl)) rfl rfl ?_
  refine pm_R_lo pm_M0 (pc_q := 949) (pm_q0_10 (Nat.le_of_ble_eq_true rfl)) rfl rfl ?_
  refine pm_R_lo pm_M0 (pc_q := 950) (pm_q0_10 (Nat.le_of_ble_eq_true rfl)) rfl rfl ?_
  refine pm_R_lo pm_M0 (pc_q := 951) (pm_q0_10 (Nat.le_of_ble_eq_true rfl)) rfl rfl ?_
  refine pm_R_op pm_M0 (pc_q := 952) (st_q := [.int 1, .int (Int32.ofNat n), .ref 0, .ref 41]) (pm_q0_10 (Nat.le_of_ble_eq_true rfl)) rfl rfl ?_
  refine pm_R_op pm_M0 (pc_q := 953) (st_q := [.int (Int32.ofNat (n + 1)), .ref 0, .ref 41]) (pm_q0_10 (Nat.le_of_ble_eq_true rfl)) (congrArg (fun z => some (Value.int z :: [.ref 0, .ref 41])) (p2_ad (n := n) (c := 1) (k := 1) rfl)) rfl ?_
  refine pm_R_iald pm_M0 (pc_q := 954) (v := x1) (pm_q0_10 (Nat.le_of_ble_eq_true rfl)) ((T.old (by decide)).trans e0) (T.lt (by decide)) (p2_in (by omega) hL) v1 rfl ?_
  refine pm_R_lo pm_M0 (pc_q := 955) (pm_q0_10 (Nat.le_of_ble_eq_true rfl)) rfl rfl ?_
  refine pm_R_lo pm_M0 (pc_q := 956) (pm_q0_10 (Nat.le_of_ble_eq_true rfl)) rfl rfl ?_
  refine pm_R_op pm_M0 (pc_q := 957) (st_q := [.int 2, .int (Int32.ofNat n), .ref 0, .int x1, .ref 41]) (pm_q0_10 (Nat.le_of_ble_eq_true rfl)) rfl rfl ?_
  refine pm_R_op pm_M0 (pc_q := 958) (st_q := [.int (Int32.ofNat (n + 2)), .ref 0, .int x1, .ref 41]) (pm_q0_10 (Nat.le_of_ble_eq_true rfl)) (congrArg (fun z => some (Value.int z :: [.ref 0, .int x1, .ref 41])) (p2_ad (n := n) (c := 2) (k := 2) rfl)) rfl ?_
  refine pm_R_iald pm_M0 (pc_q := 959) (v := x2) (pm_q0_10 (Nat.le_of_ble_eq_true rfl)) ((T.old (by decide)).trans e0) (T.lt (by decide)) (p2_in (by omega) hL) v2 rfl ?_
  refine pm_R_lo pm_M0 (pc_q := 960) (pm_q0_10 (Nat.le_of_ble_eq_true rfl)) rfl rfl ?_
  refine pm_R_lo pm_M0 (pc_q := 961) (pm_q0_10 (Nat.le_of_ble_eq_true rfl)) rfl rfl ?_
  refine pm_R_op pm_M0 (pc_q := 962) (st_q := [.int 3, .int (Int32.ofNat n), .ref 0, .int x2, .int x1, .ref 41]) (pm_q0_10 (Nat.le_of_ble_eq_true rfl)) rfl rfl ?_
  refine pm_R_op pm_M0 (pc_q := 963) (st_q := [.int (Int32.ofNat (n + 3)), .ref 0, .int x2, .int x1, .ref 41]) (pm_q0_11 (Nat.le_of_ble_eq_true rfl)) (congrArg (fun z => some (Value.int z :: [.ref 0, .int x2, .int x1, .ref 41])) (p2_ad (n := n) (c := 3) (k := 3) rfl)) rfl ?_
  refine pm_R_iald pm_M0 (pc_q := 964) (v := x3) (pm_q0_11 (Nat.le_of_ble_eq_true rfl)) ((T.old (by decide)).trans e0) (T.lt (by decide)) (p2_in (by omega) hL) v3 rfl ?_
  refine pm_R_cv pm_M0 (pc_q := 967) (a := 41) (ra := [.int x3, .int x2, .int x1]) (rest := []) (ls_q := [.ref 41, .int x1, .int x2, .int x3, pm_no, pm_no]) (pm_q0_11 (Nat.le_of_ble_eq_true rfl)) rfl (Or.inl rfl) pm_M247 Tr.2.1 rfl (by decide) (Nat.lt_of_lt_of_le (by decide) Tr.1) rfl rfl (Nat.le_of_ble_eq_true rfl) rfl rfl ?_
  refine ex_inj WW KK rfl ?_
  refine rf_c247 Tr (fun r2 m1 w1 h1 T1 F1 W1 _ => ?_)
  intro WW KK
  show pm_R 100 0 967 [.ref 0, .ref 16, .ref 41, .int (Int32.ofNat n)] [.int r2] _ _
  have RR := R2_rf F1 (by decide) RR
  have I := p2_rf G T Y e0 S R hc T1 F1 (by decide)
  refine pm_R_op pm_M0 (pc_q := 968) (st_q := []) (pm_q0_11 (Nat.le_of_ble_eq_true rfl)) rfl rfl ?_
  refine pm_R_br pm_M0 (pc_q := 2117) (pm_q0_11 (Nat.le_of_ble_eq_true rfl)) rfl ?_
  exact K _ ⟨I, WW, KK, RR⟩

set_option maxRecDepth 100000 in
set_option maxHeartbeats 4000000 in
theorem p6_k17 {L n j : Nat} {xs : Nat → Int32} {h : pm_H} {Q : Option Value → pm_H → Prop} (I : p6_I L xs j h) (hn : n + 7 ≤ L) (hL : L ≤ 3584) (K : ∀ h_q, p6_I L xs (j + 1) h_q → pm_R 100 0 2117 [.ref 0, .ref 16, .ref 41, .int (Int32.ofNat n)] [] h_q Q) : pm_R 100 0 971 [.ref 0, .ref 16, .ref 41, .int (Int32.ofNat n)] [] h Q := by
  obtain ⟨x1, v1⟩ : ∃ y, xs (Int32.toNatClampNeg (Int32.ofNat (n + 1))) = y := ⟨_, rfl⟩
  obtain ⟨x2, v2⟩ : ∃ y, xs (Int32.toNatClampNeg (Int32.ofNat (n + 2))) = y := ⟨_, rfl⟩
  obtain ⟨x3, v3⟩ : ∃ y, xs (Int32.toNatClampNeg (Int32.ofNat (n + 3))) = y := ⟨_, rfl⟩
  obtain ⟨I, WW, KK, RR⟩ := I
  obtain ⟨ck, E, m, o, mr, wr, G, T, Tr, Y, e0, S, R, hc⟩ := I
  refine pm_R_lo pm_M0 (pc_q := 972) (pm_q0_11 (Nat.le_of_ble_eq_true rfl)) rfl rfl ?_
  refine pm_R_lo pm_M0 (pc_q := 973) (pm_q0_11 (Nat.le_of_ble_eq_true rfl)) rfl rfl ?_
  refine pm_R_lo pm_M0 (pc_q := 974) (pm_q0_11 (Nat.le_of_ble_eq_true rfl)) rfl rfl ?_
  refine pm_R_op pm_M0 (pc_q := 975) (st_q := [.int 1, .int (Int32.ofNat n), .ref 0, .ref 16]) (pm_q0_11 (Nat.le_of_ble_eq_true rfl)) rfl rfl ?_
  refine pm_R_op pm_M0 (pc_q := 976) (st_q := [.int (Int32.ofNat (n + 1)), .ref 0, .ref 16]) (pm_q0_11 (Nat.le_of_ble_eq_true rfl)) (congrArg (fun z => some (Value.int z :: [.ref 0, .ref 16])) (p2_ad (n := n) (c := 1) (k := 1) rfl)) rfl ?_
  refine pm_R_iald pm_M0 (pc_q := 977) (v := x1) (pm_q0_11 (Nat.le_of_ble_eq_true rfl)) ((T.old (by decide)).trans e0) (T.lt (by decide)) (p2_in (by omega) hL) v1 rfl ?_
  refine pm_R_lo pm_M0 (pc_q := 978) (pm_q0_11 (Nat.le_of_ble_eq_true rfl)) rfl rfl ?_
  refine pm_R_lo pm_M0 (pc_q := 979) (pm_q0_11 (Nat.le_of_ble_eq_true rfl)) rfl rfl ?_
  refine pm_R_op pm_M0 (pc_q := 980) (st_q := [.int 2, .int (Int32.ofNat n), .ref 0, .int x1, .ref 16]) (pm_q0_11 (Nat.le_of_ble_eq_true rfl)) rfl rfl ?_
  refine pm_R_op pm_M0 (pc_q := 981) (st_q := [.int (Int32.ofNat (n + 2)), .ref 0, .int x1, .ref 16]) (pm_q0_11 (Nat.le_of_ble_eq_true rfl)) (congrArg (fun z => some (Value.int z :: [.ref 0, .int x1, .ref 16])) (p2_ad (n := n) (c := 2) (k := 2) rfl)) rfl ?_
  refine pm_R_iald pm_M0 (pc_q := 982) (v := x2) (pm_q0_11 (Nat.le_of_ble_eq_true rfl)) ((T.old (by decide)).trans e0) (T.lt (by decide)) (p2_in (by omega) hL) v2 rfl ?_
  refine pm_R_lo pm_M0 (pc_q := 983) (pm_q0_11 (Nat.le_of_ble_eq_true rfl)) rfl rfl ?_
  refine pm_R_lo pm_M0 (pc_q := 984) (pm_q0_11 (Nat.le_of_ble_eq_true rfl)) rfl rfl ?_
  refine pm_R_op pm_M0 (pc_q := 985) (st_q := [.int 3, .int (Int32.ofNat n), .ref 0, .int x2, .int x1, .ref 16]) (pm_q0_11 (Nat.le_of_ble_eq_true rfl)) rfl rfl ?_
  refine pm_R_op pm_M0 (pc_q := 986) (st_q := [.int (Int32.ofNat (n + 3)), .ref 0, .int x2, .int x1, .ref 16]) (pm_q0_11 (Nat.le_of_ble_eq_true rfl)) (congrArg (fun z => some (Value.int z :: [.ref 0, .int x2, .int x1, .ref 16])) (p2_ad (n := n) (c := 3) (k := 3) rfl)) rfl ?_
  refine pm_R_iald pm_M0 (pc_q := 987) (v := x3) (pm_q0_11 (Nat.le_of_ble_eq_true rfl)) ((T.old (by decide)).trans e0) (T.lt (by decide)) (p2_in (by omega) hL) v3 rfl ?_
  refine pm_R_cv pm_M0 (pc_q := 990) (a := 16) (ra := [.int x3, .int x2, .int x1]) (rest := []) (ls_q := [.ref 16, .int x1, .int x2, .int x3, pm_no, pm_no, pm_no, pm_no]) (pm_q0_11 (Nat.le_of_ble_eq_true rfl)) rfl (Or.inl rfl) pm_M112 T.e16 rfl (by decide) (T.lt (by decide)) rfl rfl (Nat.le_of_ble_eq_true rfl) rfl rfl ?_
  refine ex_inj WW KK rfl ?_
  refine cl_c112 G T (fun r1 m1 h1 T1 F1 W1 => ?_)
  intro WW KK
  show pm_R 100 0 990 [.ref 0, .ref 16, .ref 41, .int (Int32.ofNat n)] [.int r1] _ _
  have RR := R2_cl G T F1 (by decide) RR
  have I := p2_cl (j := j) G T Tr Y e0 S R hc T1 F1 (W1 0 (by decide)) (by decide) (by decide) (by decide) (by decide) (by decide) (by decide) (by decide)
  obtain ⟨ck, E, m, o, mr, wr, G, T, Tr, Y, e0, S, R, hc⟩ := I
  refine pm_R_op pm_M0 (pc_q := 991) (st_q := []) (pm_q0_11 (Nat.le_of_ble_eq_true rfl)) rfl rfl ?_
  refine pm_R_lo pm_M0 (pc_q := 992) (pm_q0_11 (Nat.le_of_ble_eq_true rfl)) rfl rfl ?_
  refine pm_R_lo pm_M0 (pc_q := 993) (pm_q0_11 (Nat.le_of_ble_eq_true rfl)) rfl rfl ?_
  refine pm_R_lo pm_M0 (pc_q := 994) (pm_q0_11 (Nat.le_of_ble_eq_true rfl)) rfl rfl ?_
  refine pm_R_op pm_M0 (pc_q := 995) (st_q := [.int 1, .int (Int32.ofNat n), .ref 0, .ref 41]) (pm_q0_11 (Nat.le_of_ble_eq_true rfl)) rfl rfl ?_
  refine pm_R_op pm_M0 (pc_q := 996) (st_q := [.int (Int32.ofNat (n + 1)), .ref 0, .ref 41]) (pm_q0_11 (Nat.le_of_ble_eq_true rfl)) (congrArg (fun z => some (Value.int z :: [.ref 0, .ref 41])) (p2_ad (n := n) (c := 1) (k := 1) rfl)) rfl ?_
  refine pm_R_iald pm_M0 (pc_q := 997) (v := x1) (pm_q0_11 (Nat.le_of_ble_eq_true rfl)) ((T.old (by decide)).trans e0) (T.lt (by decide)) (p2_in (by omega) hL) v1 rfl ?_
  refine pm_R_lo pm_M0 (pc_q := 998) (pm_q0_11 (Nat.le_of_ble_eq_true rfl)) rfl rfl ?_
  refine pm_R_lo pm_M0 (pc_q := 999) (pm_q0_11 (Nat.le_of_ble_eq_true rfl)) rfl rfl ?_
  refine pm_R_op pm_M0 (pc_q := 1000) (st_q := [.int 2, .int (Int32.ofNat n), .ref 0, .int x1, .ref 41]) (pm_q0_11 (Nat.le_of_ble_eq_true rfl)) rfl rfl ?_
  refine pm_R_op pm_M0 (pc_q := 1001) (st_q := [.int (Int32.ofNat (n + 2)), .ref 0, .int x1, .ref 41]) (pm_q0_11 (Nat.le_of_ble_eq_true rfl)) (congrArg (fun z => some (Value.int z :: [.ref 0, .int x1, .ref 41])) (p2_ad (n := n) (c := 2) (k := 2) rfl)) rfl ?_
  refine pm_R_iald pm_M0 (pc_q := 1002) (v := x2) (pm_q0_11 (Nat.le_of_ble_eq_true rfl)) ((T.old (by decide)).trans e0) (T.lt (by decide)) (p2_in (by omega) hL) v2 rfl ?_
  refine pm_R_lo pm_M0 (pc_q := 1003) (pm_q0_11 (Nat.le_of_ble_eq_true rfl)) rfl rfl ?_
  refine pm_R_lo pm_M0 (pc_q := 1004) (pm_q0_11 (Nat.le_of_ble_eq_true rfl)) rfl rfl ?_
  refine pm_R_op pm_M0 (pc_q := 1005) (st_q := [.int 3, .int (Int32.ofNat n), .ref 0, .int x2, .int x1, .ref 41]) (pm_q0_11 (Nat.le_of_ble_eq_true rfl)) rfl rfl ?_
  refine pm_R_op pm_M0 (pc_q := 1006) (st_q := [.int (Int32.ofNat (n + 3)), .ref 0, .int x2, .int x1, .ref 41]) (pm_q0_11 (Nat.le_of_ble_eq_true rfl)) (congrArg (fun z => some (Value.int z :: [.ref 0, .int x2, .int x1, .ref 41])) (p2_ad (n := n) (c := 3) (k := 3) rfl)) rfl ?_
  refine pm_R_iald pm_M0 (pc_q := 1007) (v := x3) (pm_q0_11 (Nat.le_of_ble_eq_true rfl)) ((T.old (by decide)).trans e0) (T.lt (by decide)) (p2_in (by omega) hL) v3 rfl ?_
  refine pm_R_cv pm_M0 (pc_q := 1010) (a := 41) (ra := [.int x3, .int x2, .int x1]) (rest := []) (ls_q := [.ref 41, .int x1, .int x2, .int x3, pm_no, pm_no]) (pm_q0_11 (Nat.le_of_ble_eq_true rfl)) rfl (Or.inl rfl) pm_M249 Tr.2.1 rfl (by decide) (Nat.lt_of_lt_of_le (by decide) Tr.1) rfl rfl (Nat.le_of_ble_eq_true rfl) rfl rfl ?_
  refine ex_inj WW KK rfl ?_
  refine rf_c249 Tr (fun r2 m1 w1 h1 T1 F1 W1 => ?_)
  intro WW KK
  show pm_R 100 0 1010 [.ref 0, .ref 16, .ref 41, .int (Int32.ofNat n)] [.int r2] _ _
  have RR := R2_rf F1 (by decide) RR
  have I := p2_rf G T Y e0 S R hc T1 F1 (by decide)
  refine pm_R_op pm_M0 (pc_q := 1011) (st_q := []) (pm_q0_11 (Nat.le_of_ble_eq_true rfl)) rfl rfl ?_
  refine pm_R_br pm_M0 (pc_q := 2117) (pm_q0_11 (Nat.le_of_ble_eq_true rfl)) rfl ?_
  exact K _ ⟨I, WW, KK, RR⟩

set_option maxRecDepth 100000 in
set_option maxHeartbeats 4000000 in
theorem p6_k18 {L n j : Nat} {xs : Nat → Int32} {h : pm_H} {Q : Option Value → pm_H → Prop} (I : p6_I L xs j h) (hn : n + 7 ≤ L) (hL : L ≤ 3584) (K : ∀ h_q, p6_I L xs (j + 1) h_q → pm_R 100 0 2117 [.ref 0, .ref 16, .ref 41, .int (Int32.ofNat n)] [] h_q Q) : pm_R 100 0 1014 [.ref 0, .ref 16, .ref 41, .int (Int32.ofNat n)] [] h Q := by
  obtain ⟨x1, v1⟩ : ∃ y, xs (Int32.toNatClampNeg (Int32.ofNat (n + 1))) = y := ⟨_, rfl⟩
  obtain ⟨x2, v2⟩ : ∃ y, xs (Int32.toNatClampNeg (Int32.ofNat (n + 2))) = y := ⟨_, rfl⟩
  obtain ⟨I, WW, KK, RR⟩ := I
  obtain ⟨ck, E, m, o, mr, wr, G, T, Tr, Y, e0, S, R, hc⟩ := I
  refine pm_R_lo pm_M0 (pc_q := 1015) (pm_q0_11 (Nat.le_of_ble_eq_true rfl)) rfl rfl ?_
  refine pm_R_lo pm_M0 (pc_q := 1016) (pm_q0_11 (Nat.le_of_ble_eq_true rfl)) rfl rfl ?_
  refine pm_R_lo pm_M0 (pc_q := 1017) (pm_q0_11 (Nat.le_of_ble_eq_true rfl)) rfl rfl ?_
  refine pm_R_op pm_M0 (pc_q := 1018) (st_q := [.int 1, .int (Int32.ofNat n), .ref 0, .ref 16]) (pm_q0_11 (Nat.le_of_ble_eq_true rfl)) rfl rfl ?_
  refine pm_R_op pm_M0 (pc_q := 1019) (st_q := [.int (Int32.ofNat (n + 1)), .ref 0, .ref 16]) (pm_q0_11 (Nat.le_of_ble_eq_true rfl)) (congrArg (fun z => some (Value.int z :: [.ref 0, .ref 16])) (p2_ad (n := n) (c := 1) (k := 1) rfl)) rfl ?_
  refine pm_R_iald pm_M0 (pc_q := 1020) (v := x1) (pm_q0_11 (Nat.le_of_ble_eq_true rfl)) ((T.old (by decide)).trans e0) (T.lt (by decide)) (p2_in (by omega) hL) v1 rfl ?_
  refine pm_R_lo pm_M0 (pc_q := 1021) (pm_q0_11 (Nat.le_of_ble_eq_true rfl)) rfl rfl ?_
  refine pm_R_lo pm_M0 (pc_q := 1022) (pm_q0_11 (Nat.le_of_ble_eq_true rfl)) rfl rfl ?_
  refine pm_R_op pm_M0 (pc_q := 1023) (st_q := [.int 2, .int (Int32.ofNat n), .ref 0, .int x1, .ref 16]) (pm_q0_11 (Nat.le_of_ble_eq_true rfl)) rfl rfl ?_
  refine pm_R_op pm_M0 (pc_q := 1024) (st_q := [.int (Int32.ofNat (n + 2)), .ref 0, .int x1, .ref 16]) (pm_q0_11 (Nat.le_of_ble_eq_true rfl)) (congrArg (fun z => some (Value.int z :: [.ref 0, .int x1, .ref 16])) (p2_ad (n := n) (c := 2) (k := 2) rfl)) rfl ?_
  refine pm_R_iald pm_M0 (pc_q := 1025) (v := x2) (pm_q0_11 (Nat.le_of_ble_eq_true rfl)) ((T.old (by decide)).trans e0) (T.lt (by decide)) (p2_in (by omega) hL) v2 rfl ?_
  refine pm_R_cv pm_M0 (pc_q := 1028) (a := 16) (ra := [.int x2, .int x1]) (rest := []) (ls_q := [.ref 16, .int x1, .int x2, pm_no, pm_no, pm_no, pm_no, pm_no, pm_no]) (pm_q0_11 (Nat.le_of_ble_eq_true rfl)) rfl (Or.inl rfl) pm_M113 T.e16 rfl (by decide) (T.lt (by decide)) rfl rfl (Nat.le_of_ble_eq_true rfl) rfl rfl ?_
  refine ex_inj WW KK rfl ?_
  refine cl_c113 G T (fun r1 m1 h1 T1 F1 W1 => ?_)
  intro WW KK
  show pm_R 100 0 1028 [.ref 0, .ref 16, .ref 41, .int (Int32.ofNat n)] [.int r1] _ _
  have RR := R2_cl G T F1 (by decide) RR
  have I := p2_cl (j := j) G T Tr Y e0 S R hc T1 F1 (W1 0 (by decide)) (by decide) (by decide) (by decide) (by decide) (by decide) (by decide) (by decide)
  obtain ⟨ck, E, m, o, mr, wr, G, T, Tr, Y, e0, S, R, hc⟩ := I
  refine pm_R_op pm_M0 (pc_q := 1029) (st_q := []) (pm_q0_11 (Nat.le_of_ble_eq_true rfl)) rfl rfl ?_
  refine pm_R_lo pm_M0 (pc_q := 1030) (pm_q0_11 (Nat.le_of_ble_eq_true rfl)) rfl rfl ?_
  refine pm_R_lo pm_M0 (pc_q := 1031) (pm_q0_11 (Nat.le_of_ble_eq_true rfl)) rfl rfl ?_
  refine pm_R_lo pm_M0 (pc_q := 1032) (pm_q0_11 (Nat.le_of_ble_eq_true rfl)) rfl rfl ?_
  refine pm_R_op pm_M0 (pc_q := 1033) (st_q := [.int 1, .int (Int32.ofNat n), .ref 0, .ref 41]) (pm_q0_11 (Nat.le_of_ble_eq_true rfl)) rfl rfl ?_
  refine pm_R_op pm_M0 (pc_q := 1034) (st_q := [.int (Int32.ofNat (n + 1)), .ref 0, .ref 41]) (pm_q0_11 (Nat.le_of_ble_eq_true rfl)) (congrArg (fun z => some (Value.int z :: [.ref 0, .ref 41])) (p2_ad (n := n) (c := 1) (k := 1) rfl)) rfl ?_
  refine pm_R_iald pm_M0 (pc_q := 1035) (v := x1) (pm_q0_12 (Nat.le_of_ble_eq_true rfl)) ((T.old (by decide)).trans e0) (T.lt (by decide)) (p2_in (by omega) hL) v1 rfl ?_
  refine pm_R_lo pm_M0 (pc_q := 1036) (pm_q0_12 (Nat.le_of_ble_eq_true rfl)) rfl rfl ?_
  refine pm_R_lo pm_M0 (pc_q := 1037) (pm_q0_12 (Nat.le_of_ble_eq_true rfl)) rfl rfl ?_
  refine pm_R_op pm_M0 (pc_q := 1038) (st_q := [.int 2, .int (Int32.ofNat n), .ref 0, .int x1, .ref 41]) (pm_q0_12 (Nat.le_of_ble_eq_true rfl)) rfl rfl ?_
  refine pm_R_op pm_M0 (pc_q := 1039) (st_q := [.int (Int32.ofNat (n + 2)), .ref 0, .int x1, .ref 41]) (pm_q0_12 (Nat.le_of_ble_eq_true rfl)) (congrArg (fun z => some (Value.int z :: [.ref 0, .int x1, .ref 41])) (p2_ad (n := n) (c := 2) (k := 2) rfl)) rfl ?_
  refine pm_R_iald pm_M0 (pc_q := 1040) (v := x2) (pm_q0_12 (Nat.le_of_ble_eq_true rfl)) ((T.old (by decide)).trans e0) (T.lt (by decide)) (p2_in (by omega) hL) v2 rfl ?_
  refine pm_R_cv pm_M0 (pc_q := 1043) (a := 41) (ra := [.int x2, .int x1]) (rest := []) (ls_q := [.ref 41, .int x1, .int x2, pm_no, pm_no, pm_no, pm_no, pm_no, pm_no]) (pm_q0_12 (Nat.le_of_ble_eq_true rfl)) rfl (Or.inl rfl) pm_M251 Tr.2.1 rfl (by decide) (Nat.lt_of_lt_of_le (by decide) Tr.1) rfl rfl (Nat.le_of_ble_eq_true rfl) rfl rfl ?_
  refine ex_inj WW KK rfl ?_
  refine rf_c251 Tr (fun r2 m1 w1 h1 T1 F1 W1 => ?_)
  intro WW KK
  show pm_R 100 0 1043 [.ref 0, .ref 16, .ref 41, .int (Int32.ofNat n)] [.int r2] _ _
  have RR := R2_rf F1 (by decide) RR
  have I := p2_rf G T Y e0 S R hc T1 F1 (by decide)
  refine pm_R_op pm_M0 (pc_q := 1044) (st_q := []) (pm_q0_12 (Nat.le_of_ble_eq_true rfl)) rfl rfl ?_
  refine pm_R_br pm_M0 (pc_q := 2117) (pm_q0_12 (Nat.le_of_ble_eq_true rfl)) rfl ?_
  exact K _ ⟨I, WW, KK, RR⟩

set_option maxRecDepth 100000 in
set_option maxHeartbeats 4000000 in
theorem p6_k19 {L n j : Nat} {xs : Nat → Int32} {h : pm_H} {Q : Option Value → pm_H → Prop} (I : p6_I L xs j h) (hn : n + 7 ≤ L) (hL : L ≤ 3584) (K : ∀ h_q, p6_I L xs (j + 1) h_q → pm_R 100 0 2117 [.ref 0, .ref 16, .ref 41, .int (Int32.ofNat n)] [] h_q Q) : pm_R 100 0 1047 [.ref 0, .ref 16, .ref 41, .int (Int32.ofNat n)] [] h Q := by
  obtain ⟨x1, v1⟩ : ∃ y, xs (Int32.toNatClampNeg (Int32.ofNat (n + 1))) = y := ⟨_, rfl⟩
  obtain ⟨x2, v2⟩ : ∃ y, xs (Int32.toNatClampNeg (Int32.ofNat (n + 2))) = y := ⟨_, rfl⟩
  obtain ⟨x3, v3⟩ : ∃ y, xs (Int32.toNatClampNeg (Int32.ofNat (n + 3))) = y := ⟨_, rfl⟩
  obtain ⟨I, WW, KK, RR⟩ := I
  obtain ⟨ck, E, m, o, mr, wr, G, T, Tr, Y, e0, S, R, hc⟩ := I
  refine pm_R_lo pm_M0 (pc_q := 1048) (pm_q0_12 (Nat.le_of_ble_eq_true rfl)) rfl rfl ?_
  refine pm_R_lo pm_M0 (pc_q := 1049) (pm_q0_12 (Nat.le_of_ble_eq_true rfl)) rfl rfl ?_
  refine pm_R_lo pm_M0 (pc_q := 1050) (pm_q0_12 (Nat.le_of_ble_eq_true rfl)) rfl rfl ?_
  refine pm_R_op pm_M0 (pc_q := 1051) (st_q := [.int 1, .int (Int32.ofNat n), .ref 0, .ref 16]) (pm_q0_12 (Nat.le_of_ble_eq_true rfl)) rfl rfl ?_
  refine pm_R_op pm_M0 (pc_q := 1052) (st_q := [.int (Int32.ofNat (n + 1)), .ref 0, .ref 16]) (pm_q0_12 (Nat.le_of_ble_eq_true rfl)) (congrArg (fun z => some (Value.int z :: [.ref 0, .ref 16])) (p2_ad (n := n) (c := 1) (k := 1) rfl)) rfl ?_
  refine pm_R_iald pm_M0 (pc_q := 1053) (v := x1) (pm_q0_12 (Nat.le_of_ble_eq_true rfl)) ((T.old (by decide)).trans e0) (T.lt (by decide)) (p2_in (by omega) hL) v1 rfl ?_
  refine pm_R_lo pm_M0 (pc_q := 1054) (pm_q0_12 (Nat.le_of_ble_eq_true rfl)) rfl rfl ?_
  refine pm_R_lo pm_M0 (pc_q := 1055) (pm_q0_12 (Nat.le_of_ble_eq_true rfl)) rfl rfl ?_
  refine pm_R_op pm_M0 (pc_q := 1056) (st_q := [.int 2, .int (Int32.ofNat n), .ref 0, .int x1, .ref 16]) (pm_q0_12 (Nat.le_of_ble_eq_true rfl)) rfl rfl ?_
  refine pm_R_op pm_M0 (pc_q := 1057) (st_q := [.int (Int32.ofNat (n + 2)), .ref 0, .int x1, .ref 16]) (pm_q0_12 (Nat.le_of_ble_eq_true rfl)) (congrArg (fun z => some (Value.int z :: [.ref 0, .int x1, .ref 16])) (p2_ad (n := n) (c := 2) (k := 2) rfl)) rfl ?_
  refine pm_R_iald pm_M0 (pc_q := 1058) (v := x2) (pm_q0_12 (Nat.le_of_ble_eq_true rfl)) ((T.old (by decide)).trans e0) (T.lt (by decide)) (p2_in (by omega) hL) v2 rfl ?_
  refine pm_R_lo pm_M0 (pc_q := 1059) (pm_q0_12 (Nat.le_of_ble_eq_true rfl)) rfl rfl ?_
  refine pm_R_lo pm_M0 (pc_q := 1060) (pm_q0_12 (Nat.le_of_ble_eq_true rfl)) rfl rfl ?_
  refine pm_R_op pm_M0 (pc_q := 1061) (st_q := [.int 3, .int (Int32.ofNat n), .ref 0, .int x2, .int x1, .ref 16]) (pm_q0_12 (Nat.le_of_ble_eq_true rfl)) rfl rfl ?_
  refine pm_R_op pm_M0 (pc_q := 1062) (st_q := [.int (Int32.ofNat (n + 3)), .ref 0, .int x2, .int x1, .ref 16]) (pm_q0_12 (Nat.le_of_ble_eq_true rfl)) (congrArg (fun z => some (Value.int z :: [.ref 0, .int x2, .int x1, .ref 16])) (p2_ad (n := n) (c := 3) (k := 3) rfl)) rfl ?_
  refine pm_R_iald pm_M0 (pc_q := 1063) (v := x3) (pm_q0_12 (Nat.le_of_ble_eq_true rfl)) ((T.old (by decide)).trans e0) (T.lt (by decide)) (p2_in (by omega) hL) v3 rfl ?_
  refine pm_R_cv pm_M0 (pc_q := 1066) (a := 16) (ra := [.int x3, .int x2, .int x1]) (rest := []) (ls_q := [.ref 16, .int x1, .int x2, .int x3, pm_no, pm_no]) (pm_q0_12 (Nat.le_of_ble_eq_true rfl)) rfl (Or.inl rfl) pm_M94 T.e16 rfl (by decide) (T.lt (by decide)) rfl rfl (Nat.le_of_ble_eq_true rfl) rfl rfl ?_
  refine ex_inj WW KK rfl ?_
  refine cl_c94 G T (fun r1 m1 o1 h1 T1 F1 W1 => ?_)
  intro WW KK
  show pm_R 100 0 1066 [.ref 0, .ref 16, .ref 41, .int (Int32.ofNat n)] [.int r1] _ _
  have RR := R2_cl G T F1 (by decide) RR
  have I := p2_cl (j := j) G T Tr Y e0 S R hc T1 F1 (W1 0 (by decide)) (by decide) (by decide) (by decide) (by decide) (by decide) (by decide) (by decide)
  obtain ⟨ck, E, m, o, mr, wr, G, T, Tr, Y, e0, S, R, hc⟩ := I
  refine pm_R_op pm_M0 (pc_q := 1067) (st_q := []) (pm_q0_12 (Nat.le_of_ble_eq_true rfl)) rfl rfl ?_
  refine pm_R_lo pm_M0 (pc_q := 1068) (pm_q0_12 (Nat.le_of_ble_eq_true rfl)) rfl rfl ?_
  refine pm_R_lo pm_M0 (pc_q := 1069) (pm_q0_12 (Nat.le_of_ble_eq_true rfl)) rfl rfl ?_
  refine pm_R_lo pm_M0 (pc_q := 1070) (pm_q0_12 (Nat.le_of_ble_eq_true rfl)) rfl rfl ?_
  refine pm_R_op pm_M0 (pc_q := 1071) (st_q := [.int 1, .int (Int32.ofNat n), .ref 0, .ref 41]) (pm_q0_12 (Nat.le_of_ble_eq_true rfl)) rfl rfl ?_
  refine pm_R_op pm_M0 (pc_q := 1072) (st_q := [.int (Int32.ofNat (n + 1)), .ref 0, .ref 41]) (pm_q0_12 (Nat.le_of_ble_eq_true rfl)) (congrArg (fun z => some (Value.int z :: [.ref 0, .ref 41])) (p2_ad (n := n) (c := 1) (k := 1) rfl)) rfl ?_
  refine pm_R_iald pm_M0 (pc_q := 1073) (v := x1) (pm_q0_12 (Nat.le_of_ble_eq_true rfl)) ((T.old (by decide)).trans e0) (T.lt (by decide)) (p2_in (by omega) hL) v1 rfl ?_
  refine pm_R_lo pm_M0 (pc_q := 1074) (pm_q0_12 (Nat.le_of_ble_eq_true rfl)) rfl rfl ?_
  refine pm_R_lo pm_M0 (pc_q := 1075) (pm_q0_12 (Nat.le_of_ble_eq_true rfl)) rfl rfl ?_
  refine pm_R_op pm_M0 (pc_q := 1076) (st_q := [.int 2, .int (Int32.ofNat n), .ref 0, .int x1, .ref 41]) (pm_q0_12 (Nat.le_of_ble_eq_true rfl)) rfl rfl ?_
  refine pm_R_op pm_M0 (pc_q := 1077) (st_q := [.int (Int32.ofNat (n + 2)), .ref 0, .int x1, .ref 41]) (pm_q0_12 (Nat.le_of_ble_eq_true rfl)) (congrArg (fun z => some (Value.int z :: [.ref 0, .int x1, .ref 41])) (p2_ad (n := n) (c := 2) (k := 2) rfl)) rfl ?_
  refine pm_R_iald pm_M0 (pc_q := 1078) (v := x2) (pm_q0_12 (Nat.le_of_ble_eq_true rfl)) ((T.old (by decide)).trans e0) (T.lt (by decide)) (p2_in (by omega) hL) v2 rfl ?_
  refine pm_R_lo pm_M0 (pc_q := 1079) (pm_q0_12 (Nat.le_of_ble_eq_true rfl)) rfl rfl ?_
  refine pm_R_lo pm_M0 (pc_q := 1080) (pm_q0_12 (Nat.le_of_ble_eq_true rfl)) rfl rfl ?_
  refine pm_R_op pm_M0 (pc_q := 1081) (st_q := [.int 3, .int (Int32.ofNat n), .ref 0, .int x2, .int x1, .ref 41]) (pm_q0_12 (Nat.le_of_ble_eq_true rfl)) rfl rfl ?_
  refine pm_R_op pm_M0 (pc_q := 1082) (st_q := [.int (Int32.ofNat (n + 3)), .ref 0, .int x2, .int x1, .ref 41]) (pm_q0_12 (Nat.le_of_ble_eq_true rfl)) (congrArg (fun z => some (Value.int z :: [.ref 0, .int x2, .int x1, .ref 41])) (p2_ad (n := n) (c := 3) (k := 3) rfl)) rfl ?_
  refine pm_R_iald pm_M0 (pc_q := 1083) (v := x3) (pm_q0_12 (Nat.le_of_ble_eq_true rfl)) ((T.old (by decide)).trans e0) (T.lt (by decide)) (p2_in (by omega) hL) v3 rfl ?_
  refine pm_R_cv pm_M0 (pc_q := 1086) (a := 41) (ra := [.int x3, .int x2, .int x1]) (rest := []) (ls_q := [.ref 41, .int x1, .int x2, .int x3, pm_no, pm_no]) (pm_q0_12 (Nat.le_of_ble_eq_true rfl)) rfl (Or.inl rfl) pm_M252 Tr.2.1 rfl (by decide) (Nat.lt_of_lt_of_le (by decide) Tr.1) rfl rfl (Nat.le_of_ble_eq_true rfl) rfl rfl ?_
  refine ex_inj WW KK rfl ?_
  refine rf_c252 Tr (fun r2 m1 w1 h1 T1 F1 W1 => ?_)
  intro WW KK
  show pm_R 100 0 1086 [.ref 0, .ref 16, .ref 41, .int (Int32.ofNat n)] [.int r2] _ _
  have RR := R2_rf F1 (by decide) RR
  have I := p2_rf G T Y e0 S R hc T1 F1 (by decide)
  refine pm_R_op pm_M0 (pc_q := 1087) (st_q := []) (pm_q0_12 (Nat.le_of_ble_eq_true rfl)) rfl rfl ?_
  refine pm_R_br pm_M0 (pc_q := 2117) (pm_q0_12 (Nat.le_of_ble_eq_true rfl)) rfl ?_
  exact K _ ⟨I, WW, KK, RR⟩

set_option maxRecDepth 100000 in
set_option maxHeartbeats 4000000 in
theorem p6_k20 {L n j : Nat} {xs : Nat → Int32} {h : pm_H} {Q : Option Value → pm_H → Prop} (I : p6_I L xs j h) (hn : n + 7 ≤ L) (hL : L ≤ 3584) (K : ∀ h_q, p6_I L xs (j + 1) h_q → pm_R 100 0 2117 [.ref 0, .ref 16, .ref 41, .int (Int32.ofNat n)] [] h_q Q) : pm_R 100 0 1090 [.ref 0, .ref 16, .ref 41, .int (Int32.ofNat n)] [] h Q := by
  obtain ⟨x1, v1⟩ : ∃ y, xs (Int32.toNatClampNeg (Int32.ofNat (n + 1))) = y := ⟨_, rfl⟩
  obtain ⟨x2, v2⟩ : ∃ y, xs (Int32.toNatClampNeg (Int32.ofNat (n + 2))) = y := ⟨_, rfl⟩
  obtain ⟨I, WW, KK, RR⟩ := I
  obtain ⟨ck, E, m, o, mr, wr, G, T, Tr, Y, e0, S, R, hc⟩ := I
  refine pm_R_lo pm_M0 (pc_q := 1091) (pm_q0_12 (Nat.le_of_ble_eq_true rfl)) rfl rfl ?_
  refine pm_R_lo pm_M0 (pc_q := 1092) (pm_q0_12 (Nat.le_of_ble_eq_true rfl)) rfl rfl ?_
  refine pm_R_lo pm_M0 (pc_q := 1093) (pm_q0_12 (Nat.le_of_ble_eq_true rfl)) rfl rfl ?_
  refine pm_R_op pm_M0 (pc_q := 1094) (st_q := [.int 1, .int (Int32.ofNat n), .ref 0, .ref 16]) (pm_q0_12 (Nat.le_of_ble_eq_true rfl)) rfl rfl ?_
  refine pm_R_op pm_M0 (pc_q := 1095) (st_q := [.int (Int32.ofNat (n + 1)), .ref 0, .ref 16]) (pm_q0_12 (Nat.le_of_ble_eq_true rfl)) (congrArg (fun z => some (Value.int z :: [.ref 0, .ref 16])) (p2_ad (n := n) (c := 1) (k := 1) rfl)) rfl ?_
  refine pm_R_iald pm_M0 (pc_q := 1096) (v := x1) (pm_q0_12 (Nat.le_of_ble_eq_true rfl)) ((T.old (by decide)).trans e0) (T.lt (by decide)) (p2_in (by omega) hL) v1 rfl ?_
  refine pm_R_lo pm_M0 (pc_q := 1097) (pm_q0_12 (Nat.le_of_ble_eq_true rfl)) rfl rfl ?_
  refine pm_R_lo pm_M0 (pc_q := 1098) (pm_q0_12 (Nat.le_of_ble_eq_true rfl)) rfl rfl ?_
  refine pm_R_op pm_M0 (pc_q := 1099) (st_q := [.int 2, .int (Int32.ofNat n), .ref 0, .int x1, .ref 16]) (pm_q0_12 (Nat.le_of_ble_eq_true rfl)) rfl rfl ?_
  refine pm_R_op pm_M0 (pc_q := 1100) (st_q := [.int (Int32.ofNat (n + 2)), .ref 0, .int x1, .ref 16]) (pm_q0_12 (Nat.le_of_ble_eq_true rfl)) (congrArg (fun z => some (Value.int z :: [.ref 0, .int x1, .ref 16])) (p2_ad (n := n) (c := 2) (k := 2) rfl)) rfl ?_
  refine pm_R_iald pm_M0 (pc_q := 1101) (v := x2) (pm_q0_12 (Nat.le_of_ble_eq_true rfl)) ((T.old (by decide)).trans e0) (T.lt (by decide)) (p2_in (by omega) hL) v2 rfl ?_
  refine pm_R_cv pm_M0 (pc_q := 1104) (a := 16) (ra := [.int x2, .int x1]) (rest := []) (ls_q := [.ref 16, .int x1, .int x2, pm_no]) (pm_q0_12 (Nat.le_of_ble_eq_true rfl)) rfl (Or.inl rfl) pm_M138 T.e16 rfl (by decide) (T.lt (by decide)) rfl rfl (Nat.le_of_ble_eq_true rfl) rfl rfl ?_
  refine ex_inj WW KK rfl ?_
  refine cl_c138 G T (fun r1 => ?_)
  intro WW KK
  show pm_R 100 0 1104 [.ref 0, .ref 16, .ref 41, .int (Int32.ofNat n)] [.int r1] _ _
  have I := p2_up (⟨ck, E, m, o, mr, wr, G, T, Tr, Y, e0, S, R, hc⟩ : p2_I L xs j h)
  obtain ⟨ck, E, m, o, mr, wr, G, T, Tr, Y, e0, S, R, hc⟩ := I
  refine pm_R_op pm_M0 (pc_q := 1105) (st_q := []) (pm_q0_12 (Nat.le_of_ble_eq_true rfl)) rfl rfl ?_
  refine pm_R_lo pm_M0 (pc_q := 1106) (pm_q0_12 (Nat.le_of_ble_eq_true rfl)) rfl rfl ?_
  refine pm_R_lo pm_M0 (pc_q := 1107) (pm_q0_13 (Nat.le_of_ble_eq_true rfl)) rfl rfl ?_
  refine pm_R_lo pm_M0 (pc_q := 1108) (pm_q0_13 (Nat.le_of_ble_eq_true rfl)) rfl rfl ?_
  refine pm_R_op pm_M0 (pc_q := 1109) (st_q := [.int 1, .int (Int32.ofNat n), .ref 0, .ref 41]) (pm_q0_13 (Nat.le_of_ble_eq_true rfl)) rfl rfl ?_
  refine pm_R_op pm_M0 (pc_q := 1110) (st_q := [.int (Int32.ofNat (n + 1)), .ref 0, .ref 41]) (pm_q0_13 (Nat.le_of_ble_eq_true rfl)) (congrArg (fun z => some (Value.int z :: [.ref 0, .ref 41])) (p2_ad (n := n) (c := 1) (k := 1) rfl)) rfl ?_
  refine pm_R_iald pm_M0 (pc_q := 1111) (v := x1) (pm_q0_13 (Nat.le_of_ble_eq_true rfl)) ((T.old (by decide)).trans e0) (T.lt (by decide)) (p2_in (by omega) hL) v1 rfl ?_
  refine pm_R_lo pm_M0 (pc_q := 1112) (pm_q0_13 (Nat.le_of_ble_eq_true rfl)) rfl rfl ?_
  refine pm_R_lo pm_M0 (pc_q := 1113) (pm_q0_13 (Nat.le_of_ble_eq_true rfl)) rfl rfl ?_
  refine pm_R_op pm_M0 (pc_q := 1114) (st_q := [.int 2, .int (Int32.ofNat n), .ref 0, .int x1, .ref 41]) (pm_q0_13 (Nat.le_of_ble_eq_true rfl)) rfl rfl ?_
  refine pm_R_op pm_M0 (pc_q := 1115) (st_q := [.int (Int32.ofNat (n + 2)), .ref 0, .int x1, .ref 41]) (pm_q0_13 (Nat.le_of_ble_eq_true rfl)) (congrArg (fun z => some (Value.int z :: [.ref 0, .int x1, .ref 41])) (p2_ad (n := n) (c := 2) (k := 2) rfl)) rfl ?_
  refine pm_R_iald pm_M0 (pc_q := 1116) (v := x2) (pm_q0_13 (Nat.le_of_ble_eq_true rfl)) ((T.old (by decide)).trans e0) (T.lt (by decide)) (p2_in (by omega) hL) v2 rfl ?_
  refine pm_R_cv pm_M0 (pc_q := 1119) (a := 41) (ra := [.int x2, .int x1]) (rest := []) (ls_q := [.ref 41, .int x1, .int x2, pm_no, pm_no, pm_no]) (pm_q0_13 (Nat.le_of_ble_eq_true rfl)) rfl (Or.inl rfl) pm_M253 Tr.2.1 rfl (by decide) (Nat.lt_of_lt_of_le (by decide) Tr.1) rfl rfl (Nat.le_of_ble_eq_true rfl) rfl rfl ?_
  refine ex_inj WW KK rfl ?_
  refine rf_c253 Tr (fun r2 m1 w1 h1 T1 F1 W1 => ?_)
  intro WW KK
  show pm_R 100 0 1119 [.ref 0, .ref 16, .ref 41, .int (Int32.ofNat n)] [.int r2] _ _
  have RR := R2_rf F1 (by decide) RR
  have I := p2_rf G T Y e0 S R hc T1 F1 (by decide)
  refine pm_R_op pm_M0 (pc_q := 1120) (st_q := []) (pm_q0_13 (Nat.le_of_ble_eq_true rfl)) rfl rfl ?_
  refine pm_R_br pm_M0 (pc_q := 2117) (pm_q0_13 (Nat.le_of_ble_eq_true rfl)) rfl ?_
  exact K _ ⟨I, WW, KK, RR⟩

set_option maxRecDepth 100000 in
set_option maxHeartbeats 4000000 in
theorem p6_k21 {L n j : Nat} {xs : Nat → Int32} {h : pm_H} {Q : Option Value → pm_H → Prop} (I : p6_I L xs j h) (hn : n + 7 ≤ L) (hL : L ≤ 3584) (K : ∀ h_q, p6_I L xs (j + 1) h_q → pm_R 100 0 2117 [.ref 0, .ref 16, .ref 41, .int (Int32.ofNat n)] [] h_q Q) : pm_R 100 0 1123 [.ref 0, .ref 16, .ref 41, .int (Int32.ofNat n)] [] h Q := by
  obtain ⟨x1, v1⟩ : ∃ y, xs (Int32.toNatClampNeg (Int32.ofNat (n + 1))) = y := ⟨_, rfl⟩
  obtain ⟨x2, v2⟩ : ∃ y, xs (Int32.toNatClampNeg (Int32.ofNat (n + 2))) = y := ⟨_, rfl⟩
  obtain ⟨x3, v3⟩ : ∃ y, xs (Int32.toNatClampNeg (Int32.ofNat (n + 3))) = y := ⟨_, rfl⟩
  obtain ⟨I, WW, KK, RR⟩ := I
  obtain ⟨ck, E, m, o, mr, wr, G, T, Tr, Y, e0, S, R, hc⟩ := I
  refine pm_R_lo pm_M0 (pc_q := 1124) (pm_q0_13 (Nat.le_of_ble_eq_true rfl)) rfl rfl ?_
  refine pm_R_lo pm_M0 (pc_q := 1125) (pm_q0_13 (Nat.le_of_ble_eq_true rfl)) rfl rfl ?_
  refine pm_R_lo pm_M0 (pc_q := 1126) (pm_q0_13 (Nat.le_of_ble_eq_true rfl)) rfl rfl ?_
  refine pm_R_op pm_M0 (pc_q := 1127) (st_q := [.int 1, .int (Int32.ofNat n), .ref 0, .ref 16]) (pm_q0_13 (Nat.le_of_ble_eq_true rfl)) rfl rfl ?_
  refine pm_R_op pm_M0 (pc_q := 1128) (st_q := [.int (Int32.ofNat (n + 1)), .ref 0, .ref 16]) (pm_q0_13 (Nat.le_of_ble_eq_true rfl)) (congrArg (fun z => some (Value.int z :: [.ref 0, .ref 16])) (p2_ad (n := n) (c := 1) (k := 1) rfl)) rfl ?_
  refine pm_R_iald pm_M0 (pc_q := 1129) (v := x1) (pm_q0_13 (Nat.le_of_ble_eq_true rfl)) ((T.old (by decide)).trans e0) (T.lt (by decide)) (p2_in (by omega) hL) v1 rfl ?_
  refine pm_R_lo pm_M0 (pc_q := 1130) (pm_q0_13 (Nat.le_of_ble_eq_true rfl)) rfl rfl ?_
  refine pm_R_lo pm_M0 (pc_q := 1131) (pm_q0_13 (Nat.le_of_ble_eq_true rfl)) rfl rfl ?_
  refine pm_R_op pm_M0 (pc_q := 1132) (st_q := [.int 2, .int (Int32.ofNat n), .ref 0, .int x1, .ref 16]) (pm_q0_13 (Nat.le_of_ble_eq_true rfl)) rfl rfl ?_
  refine pm_R_op pm_M0 (pc_q := 1133) (st_q := [.int (Int32.ofNat (n + 2)), .ref 0, .int x1, .ref 16]) (pm_q0_13 (Nat.le_of_ble_eq_true rfl)) (congrArg (fun z => some (Value.int z :: [.ref 0, .int x1, .ref 16])) (p2_ad (n := n) (c := 2) (k := 2) rfl)) rfl ?_
  refine pm_R_iald pm_M0 (pc_q := 1134) (v := x2) (pm_q0_13 (Nat.le_of_ble_eq_true rfl)) ((T.old (by decide)).trans e0) (T.lt (by decide)) (p2_in (by omega) hL) v2 rfl ?_
  refine pm_R_lo pm_M0 (pc_q := 1135) (pm_q0_13 (Nat.le_of_ble_eq_true rfl)) rfl rfl ?_
  refine pm_R_lo pm_M0 (pc_q := 1136) (pm_q0_13 (Nat.le_of_ble_eq_true rfl)) rfl rfl ?_
  refine pm_R_op pm_M0 (pc_q := 1137) (st_q := [.int 3, .int (Int32.ofNat n), .ref 0, .int x2, .int x1, .ref 16]) (pm_q0_13 (Nat.le_of_ble_eq_true rfl)) rfl rfl ?_
  refine pm_R_op pm_M0 (pc_q := 1138) (st_q := [.int (Int32.ofNat (n + 3)), .ref 0, .int x2, .int x1, .ref 16]) (pm_q0_13 (Nat.le_of_ble_eq_true rfl)) (congrArg (fun z => some (Value.int z :: [.ref 0, .int x2, .int x1, .ref 16])) (p2_ad (n := n) (c := 3) (k := 3) rfl)) rfl ?_
  refine pm_R_iald pm_M0 (pc_q := 1139) (v := x3) (pm_q0_13 (Nat.le_of_ble_eq_true rfl)) ((T.old (by decide)).trans e0) (T.lt (by decide)) (p2_in (by omega) hL) v3 rfl ?_
  refine pm_R_cv pm_M0 (pc_q := 1142) (a := 16) (ra := [.int x3, .int x2, .int x1]) (rest := []) (ls_q := [.ref 16, .int x1, .int x2, .int x3, pm_no]) (pm_q0_13 (Nat.le_of_ble_eq_true rfl)) rfl (Or.inl rfl) pm_M141 T.e16 rfl (by decide) (T.lt (by decide)) rfl rfl (Nat.le_of_ble_eq_true rfl) rfl rfl ?_
  refine ex_inj WW KK rfl ?_
  refine cl_c141 G T (fun r1 => ?_)
  intro WW KK
  show pm_R 100 0 1142 [.ref 0, .ref 16, .ref 41, .int (Int32.ofNat n)] [.int r1] _ _
  have I := p2_up (⟨ck, E, m, o, mr, wr, G, T, Tr, Y, e0, S, R, hc⟩ : p2_I L xs j h)
  obtain ⟨ck, E, m, o, mr, wr, G, T, Tr, Y, e0, S, R, hc⟩ := I
  refine pm_R_op pm_M0 (pc_q := 1143) (st_q := []) (pm_q0_13 (Nat.le_of_ble_eq_true rfl)) rfl rfl ?_
  refine pm_R_lo pm_M0 (pc_q := 1144) (pm_q0_13 (Nat.le_of_ble_eq_true rfl)) rfl rfl ?_
  refine pm_R_lo pm_M0 (pc_q := 1145) (pm_q0_13 (Nat.le_of_ble_eq_true rfl)) rfl rfl ?_
  refine pm_R_lo pm_M0 (pc_q := 1146) (pm_q0_13 (Nat.le_of_ble_eq_true rfl)) rfl rfl ?_
  refine pm_R_op pm_M0 (pc_q := 1147) (st_q := [.int 1, .int (Int32.ofNat n), .ref 0, .ref 41]) (pm_q0_13 (Nat.le_of_ble_eq_true rfl)) rfl rfl ?_
  refine pm_R_op pm_M0 (pc_q := 1148) (st_q := [.int (Int32.ofNat (n + 1)), .ref 0, .ref 41]) (pm_q0_13 (Nat.le_of_ble_eq_true rfl)) (congrArg (fun z => some (Value.int z :: [.ref 0, .ref 41])) (p2_ad (n := n) (c := 1) (k := 1) rfl)) rfl ?_
  refine pm_R_iald pm_M0 (pc_q := 1149) (v := x1) (pm_q0_13 (Nat.le_of_ble_eq_true rfl)) ((T.old (by decide)).trans e0) (T.lt (by decide)) (p2_in (by omega) hL) v1 rfl ?_
  refine pm_R_lo pm_M0 (pc_q := 1150) (pm_q0_13 (Nat.le_of_ble_eq_true rfl)) rfl rfl ?_
  refine pm_R_lo pm_M0 (pc_q := 1151) (pm_q0_13 (Nat.le_of_ble_eq_true rfl)) rfl rfl ?_
  refine pm_R_op pm_M0 (pc_q := 1152) (st_q := [.int 2, .int (Int32.ofNat n), .ref 0, .int x1, .ref 41]) (pm_q0_13 (Nat.le_of_ble_eq_true rfl)) rfl rfl ?_
  refine pm_R_op pm_M0 (pc_q := 1153) (st_q := [.int (Int32.ofNat (n + 2)), .ref 0, .int x1, .ref 41]) (pm_q0_13 (Nat.le_of_ble_eq_true rfl)) (congrArg (fun z => some (Value.int z :: [.ref 0, .int x1, .ref 41])) (p2_ad (n := n) (c := 2) (k := 2) rfl)) rfl ?_
  refine pm_R_iald pm_M0 (pc_q := 1154) (v := x2) (pm_q0_13 (Nat.le_of_ble_eq_true rfl)) ((T.old (by decide)).trans e0) (T.lt (by decide)) (p2_in (by omega) hL) v2 rfl ?_
  refine pm_R_lo pm_M0 (pc_q := 1155) (pm_q0_13 (Nat.le_of_ble_eq_true rfl)) rfl rfl ?_
  refine pm_R_lo pm_M0 (pc_q := 1156) (pm_q0_13 (Nat.le_of_ble_eq_true rfl)) rfl rfl ?_
  refine pm_R_op pm_M0 (pc_q := 1157) (st_q := [.int 3, .int (Int32.ofNat n), .ref 0, .int x2, .int x1, .ref 41]) (pm_q0_13 (Nat.le_of_ble_eq_true rfl)) rfl rfl ?_
  refine pm_R_op pm_M0 (pc_q := 1158) (st_q := [.int (Int32.ofNat (n + 3)), .ref 0, .int x2, .int x1, .ref 41]) (pm_q0_13 (Nat.le_of_ble_eq_true rfl)) (congrArg (fun z => some (Value.int z :: [.ref 0, .int x2, .int x1, .ref 41])) (p2_ad (n := n) (c := 3) (k := 3) rfl)) rfl ?_
  refine pm_R_iald pm_M0 (pc_q := 1159) (v := x3) (pm_q0_13 (Nat.le_of_ble_eq_true rfl)) ((T.old (by decide)).trans e0) (T.lt (by decide)) (p2_in (by omega) hL) v3 rfl ?_
  refine pm_R_cv pm_M0 (pc_q := 1162) (a := 41) (ra := [.int x3, .int x2, .int x1]) (rest := []) (ls_q := [.ref 41, .int x1, .int x2, .int x3]) (pm_q0_13 (Nat.le_of_ble_eq_true rfl)) rfl (Or.inl rfl) pm_M257 Tr.2.1 rfl (by decide) (Nat.lt_of_lt_of_le (by decide) Tr.1) rfl rfl (Nat.le_of_ble_eq_true rfl) rfl rfl ?_
  refine ex_inj WW KK rfl ?_
  refine rf_c257 Tr (fun r2 m1 w1 h1 T1 F1 W1 => ?_)
  intro WW KK
  show pm_R 100 0 1162 [.ref 0, .ref 16, .ref 41, .int (Int32.ofNat n)] [.int r2] _ _
  have RR := R2_rf F1 (by decide) RR
  have I := p2_rf G T Y e0 S R hc T1 F1 (by decide)
  refine pm_R_op pm_M0 (pc_q := 1163) (st_q := []) (pm_q0_13 (Nat.le_of_ble_eq_true rfl)) rfl rfl ?_
  refine pm_R_br pm_M0 (pc_q := 2117) (pm_q0_13 (Nat.le_of_ble_eq_true rfl)) rfl ?_
  exact K _ ⟨I, WW, KK, RR⟩

set_option maxRecDepth 100000 in
set_option maxHeartbeats 4000000 in
theorem p6_k22 {L n j : Nat} {xs : Nat → Int32} {h : pm_H} {Q : Option Value → pm_H → Prop} (I : p6_I L xs j h) (hn : n + 7 ≤ L) (hL : L ≤ 3584) (K : ∀ h_q, p6_I L xs (j + 1) h_q → pm_R 100 0 2117 [.ref 0, .ref 16, .ref 41, .int (Int32.ofNat n)] [] h_q Q) : pm_R 100 0 1166 [.ref 0, .ref 16, .ref 41, .int (Int32.ofNat n)] [] h Q := by
  obtain ⟨x1, v1⟩ : ∃ y, xs (Int32.toNatClampNeg (Int32.ofNat (n + 1))) = y := ⟨_, rfl⟩
  obtain ⟨x2, v2⟩ : ∃ y, xs (Int32.toNatClampNeg (Int32.ofNat (n + 2))) = y := ⟨_, rfl⟩
  obtain ⟨x3, v3⟩ : ∃ y, xs (Int32.toNatClampNeg (Int32.ofNat (n + 3))) = y := ⟨_, rfl⟩
  obtain ⟨I, WW, KK, RR⟩ := I
  obtain ⟨ck, E, m, o, mr, wr, G, T, Tr, Y, e0, S, R, hc⟩ := I
  refine pm_R_lo pm_M0 (pc_q := 1167) (pm_q0_13 (Nat.le_of_ble_eq_true rfl)) rfl rfl ?_
  refine pm_R_lo pm_M0 (pc_q := 1168) (pm_q0_13 (Nat.le_of_ble_eq_true rfl)) rfl rfl ?_
  refine pm_R_lo pm_M0 (pc_q := 1169) (pm_q0_13 (Nat.le_of_ble_eq_true rfl)) rfl rfl ?_
  refine pm_R_op pm_M0 (pc_q := 1170) (st_q := [.int 1, .int (Int32.ofNat n), .ref 0, .ref 16]) (pm_q0_13 (Nat.le_of_ble_eq_true rfl)) rfl rfl ?_
  refine pm_R_op pm_M0 (pc_q := 1171) (st_q := [.int (Int32.ofNat (n + 1)), .ref 0, .ref 16]) (pm_q0_13 (Nat.le_of_ble_eq_true rfl)) (congrArg (fun z => some (Value.int z :: [.ref 0, .ref 16])) (p2_ad (n := n) (c := 1) (k := 1) rfl)) rfl ?_
  refine pm_R_iald pm_M0 (pc_q := 1172) (v := x1) (pm_q0_13 (Nat.le_of_ble_eq_true rfl)) ((T.old (by decide)).trans e0) (T.lt (by decide)) (p2_in (by omega) hL) v1 rfl ?_
  refine pm_R_lo pm_M0 (pc_q := 1173) (pm_q0_13 (Nat.le_of_ble_eq_true rfl)) rfl rfl ?_
  refine pm_R_lo pm_M0 (pc_q := 1174) (pm_q0_13 (Nat.le_of_ble_eq_true rfl)) rfl rfl ?_
  refine pm_R_op pm_M0 (pc_q := 1175) (st_q := [.int 2, .int (Int32.ofNat n), .ref 0, .int x1, .ref 16]) (pm_q0_13 (Nat.le_of_ble_eq_true rfl)) rfl rfl ?_
  refine pm_R_op pm_M0 (pc_q := 1176) (st_q := [.int (Int32.ofNat (n + 2)), .ref 0, .int x1, .ref 16]) (pm_q0_13 (Nat.le_of_ble_eq_true rfl)) (congrArg (fun z => some (Value.int z :: [.ref 0, .int x1, .ref 16])) (p2_ad (n := n) (c := 2) (k := 2) rfl)) rfl ?_
  refine pm_R_iald pm_M0 (pc_q := 1177) (v := x2) (pm_q0_14 (Nat.le_of_ble_eq_true rfl)) ((T.old (by decide)).trans e0) (T.lt (by decide)) (p2_in (by omega) hL) v2 rfl ?_
  refine pm_R_lo pm_M0 (pc_q := 1178) (pm_q0_14 (Nat.le_of_ble_eq_true rfl)) rfl rfl ?_
  refine pm_R_lo pm_M0 (pc_q := 1179) (pm_q0_14 (Nat.le_of_ble_eq_true rfl)) rfl rfl ?_
  refine pm_R_op pm_M0 (pc_q := 1180) (st_q := [.int 3, .int (Int32.ofNat n), .ref 0, .int x2, .int x1, .ref 16]) (pm_q0_14 (Nat.le_of_ble_eq_true rfl)) rfl rfl ?_
  refine pm_R_op pm_M0 (pc_q := 1181) (st_q := [.int (Int32.ofNat (n + 3)), .ref 0, .int x2, .int x1, .ref 16]) (pm_q0_14 (Nat.le_of_ble_eq_true rfl)) (congrArg (fun z => some (Value.int z :: [.ref 0, .int x2, .int x1, .ref 16])) (p2_ad (n := n) (c := 3) (k := 3) rfl)) rfl ?_
  refine pm_R_iald pm_M0 (pc_q := 1182) (v := x3) (pm_q0_14 (Nat.le_of_ble_eq_true rfl)) ((T.old (by decide)).trans e0) (T.lt (by decide)) (p2_in (by omega) hL) v3 rfl ?_
  refine pm_R_cv pm_M0 (pc_q := 1185) (a := 16) (ra := [.int x3, .int x2, .int x1]) (rest := []) (ls_q := [.ref 16, .int x1, .int x2, .int x3, pm_no]) (pm_q0_14 (Nat.le_of_ble_eq_true rfl)) rfl (Or.inl rfl) pm_M142 T.e16 rfl (by decide) (T.lt (by decide)) rfl rfl (Nat.le_of_ble_eq_true rfl) rfl rfl ?_
  refine ex_inj WW KK rfl ?_
  refine cl_c142 G T (fun r1 => ?_)
  intro WW KK
  show pm_R 100 0 1185 [.ref 0, .ref 16, .ref 41, .int (Int32.ofNat n)] [.int r1] _ _
  have I := p2_up (⟨ck, E, m, o, mr, wr, G, T, Tr, Y, e0, S, R, hc⟩ : p2_I L xs j h)
  obtain ⟨ck, E, m, o, mr, wr, G, T, Tr, Y, e0, S, R, hc⟩ := I
  refine pm_R_op pm_M0 (pc_q := 1186) (st_q := []) (pm_q0_14 (Nat.le_of_ble_eq_true rfl)) rfl rfl ?_
  refine pm_R_lo pm_M0 (pc_q := 1187) (pm_q0_14 (Nat.le_of_ble_eq_true rfl)) rfl rfl ?_
  refine pm_R_lo pm_M0 (pc_q := 1188) (pm_q0_14 (Nat.le_of_ble_eq_true rfl)) rfl rfl ?_
  refine pm_R_lo pm_M0 (pc_q := 1189) (pm_q0_14 (Nat.le_of_ble_eq_true rfl)) rfl rfl ?_
  refine pm_R_op pm_M0 (pc_q := 1190) (st_q := [.int 1, .int (Int32.ofNat n), .ref 0, .ref 41]) (pm_q0_14 (Nat.le_of_ble_eq_true rfl)) rfl rfl ?_
  refine pm_R_op pm_M0 (pc_q := 1191) (st_q := [.int (Int32.ofNat (n + 1)), .ref 0, .ref 41]) (pm_q0_14 (Nat.le_of_ble_eq_true rfl)) (congrArg (fun z => some (Value.int z :: [.ref 0, .ref 41])) (p2_ad (n := n) (c := 1) (k := 1) rfl)) rfl ?_
  refine pm_R_iald pm_M0 (pc_q := 1192) (v := x1) (pm_q0_14 (Nat.le_of_ble_eq_true rfl)) ((T.old (by decide)).trans e0) (T.lt (by decide)) (p2_in (by omega) hL) v1 rfl ?_
  refine pm_R_lo pm_M0 (pc_q := 1193) (pm_q0_14 (Nat.le_of_ble_eq_true rfl)) rfl rfl ?_
  refine pm_R_lo pm_M0 (pc_q := 1194) (pm_q0_14 (Nat.le_of_ble_eq_true rfl)) rfl rfl ?_
  refine pm_R_op pm_M0 (pc_q := 1195) (st_q := [.int 2, .int (Int32.ofNat n), .ref 0, .int x1, .ref 41]) (pm_q0_14 (Nat.le_of_ble_eq_true rfl)) rfl rfl ?_
  refine pm_R_op pm_M0 (pc_q := 1196) (st_q := [.int (Int32.ofNat (n + 2)), .ref 0, .int x1, .ref 41]) (pm_q0_14 (Nat.le_of_ble_eq_true rfl)) (congrArg (fun z => some (Value.int z :: [.ref 0, .int x1, .ref 41])) (p2_ad (n := n) (c := 2) (k := 2) rfl)) rfl ?_
  refine pm_R_iald pm_M0 (pc_q := 1197) (v := x2) (pm_q0_14 (Nat.le_of_ble_eq_true rfl)) ((T.old (by decide)).trans e0) (T.lt (by decide)) (p2_in (by omega) hL) v2 rfl ?_
  refine pm_R_lo pm_M0 (pc_q := 1198) (pm_q0_14 (Nat.le_of_ble_eq_true rfl)) rfl rfl ?_
  refine pm_R_lo pm_M0 (pc_q := 1199) (pm_q0_14 (Nat.le_of_ble_eq_true rfl)) rfl rfl ?_
  refine pm_R_op pm_M0 (pc_q := 1200) (st_q := [.int 3, .int (Int32.ofNat n), .ref 0, .int x2, .int x1, .ref 41]) (pm_q0_14 (Nat.le_of_ble_eq_true rfl)) rfl rfl ?_
  refine pm_R_op pm_M0 (pc_q := 1201) (st_q := [.int (Int32.ofNat (n + 3)), .ref 0, .int x2, .int x1, .ref 41]) (pm_q0_14 (Nat.le_of_ble_eq_true rfl)) (congrArg (fun z => some (Value.int z :: [.ref 0, .int x2, .int x1, .ref 41])) (p2_ad (n := n) (c := 3) (k := 3) rfl)) rfl ?_
  refine pm_R_iald pm_M0 (pc_q := 1202) (v := x3) (pm_q0_14 (Nat.le_of_ble_eq_true rfl)) ((T.old (by decide)).trans e0) (T.lt (by decide)) (p2_in (by omega) hL) v3 rfl ?_
  refine pm_R_cv pm_M0 (pc_q := 1205) (a := 41) (ra := [.int x3, .int x2, .int x1]) (rest := []) (ls_q := [.ref 41, .int x1, .int x2, .int x3]) (pm_q0_14 (Nat.le_of_ble_eq_true rfl)) rfl (Or.inl rfl) pm_M258 Tr.2.1 rfl (by decide) (Nat.lt_of_lt_of_le (by decide) Tr.1) rfl rfl (Nat.le_of_ble_eq_true rfl) rfl rfl ?_
  refine ex_inj WW KK rfl ?_
  refine rf_c258 Tr (fun r2 m1 w1 h1 T1 F1 W1 => ?_)
  intro WW KK
  show pm_R 100 0 1205 [.ref 0, .ref 16, .ref 41, .int (Int32.ofNat n)] [.int r2] _ _
  have RR := R2_rf F1 (by decide) RR
  have I := p2_rf G T Y e0 S R hc T1 F1 (by decide)
  refine pm_R_op pm_M0 (pc_q := 1206) (st_q := []) (pm_q0_14 (Nat.le_of_ble_eq_true rfl)) rfl rfl ?_
  refine pm_R_br pm_M0 (pc_q := 2117) (pm_q0_14 (Nat.le_of_ble_eq_true rfl)) rfl ?_
  exact K _ ⟨I, WW, KK, RR⟩

set_option maxRecDepth 100000 in
set_option maxHeartbeats 4000000 in
theorem p6_k23 {L n j : Nat} {xs : Nat → Int32} {h : pm_H} {Q : Option Value → pm_H → Prop} (I : p6_I L xs j h) (hn : n + 7 ≤ L) (hL : L ≤ 3584) (K : ∀ h_q, p6_I L xs (j + 1) h_q → pm_R 100 0 2117 [.ref 0, .ref 16, .ref 41, .int (Int32.ofNat n)] [] h_q Q) : pm_R 100 0 1209 [.ref 0, .ref 16, .ref 41, .int (Int32.ofNat n)] [] h Q := by
  obtain ⟨x1, v1⟩ : ∃ y, xs (Int32.toNatClampNeg (Int32.ofNat (n + 1))) = y := ⟨_, rfl⟩
  obtain ⟨x2, v2⟩ : ∃ y, xs (Int32.toNatClampNeg (Int32.ofNat (n + 2))) = y := ⟨_, rfl⟩
  obtain ⟨x3, v3⟩ : ∃ y, xs (Int32.toNatClampNeg (Int32.ofNat (n + 3))) = y := ⟨_, rfl⟩
  obtain ⟨x4, v4⟩ : ∃ y, xs (Int32.toNatClampNeg (Int32.ofNat (n + 4))) = y := ⟨_, rfl⟩
  obtain ⟨I, WW, KK, RR⟩ := I
  obtain ⟨ck, E, m, o, mr, wr, G, T, Tr, Y, e0, S, R, hc⟩ := I
  refine pm_R_lo pm_M0 (pc_q := 1210) (pm_q0_14 (Nat.le_of_ble_eq_true rfl)) rfl rfl ?_
  refine pm_R_lo pm_M0 (pc_q := 1211) (pm_q0_14 (Nat.le_of_ble_eq_true rfl)) rfl rfl ?_
  refine pm_R_lo pm_M0 (pc_q := 1212) (pm_q0_14 (Nat.le_of_ble_eq_true rfl)) rfl rfl ?_
  refine pm_R_op pm_M0 (pc_q := 1213) (st_q := [.int 1, .int (Int32.ofNat n), .ref 0, .ref 16]) (pm_q0_14 (Nat.le_of_ble_eq_true rfl)) rfl rfl ?_
  refine pm_R_op pm_M0 (pc_q := 1214) (st_q := [.int (Int32.ofNat (n + 1)), .ref 0, .ref 16]) (pm_q0_14 (Nat.le_of_ble_eq_true rfl)) (congrArg (fun z => some (Value.int z :: [.ref 0, .ref 16])) (p2_ad (n := n) (c := 1) (k := 1) rfl)) rfl ?_
  refine pm_R_iald pm_M0 (pc_q := 1215) (v := x1) (pm_q0_14 (Nat.le_of_ble_eq_true rfl)) ((T.old (by decide)).trans e0) (T.lt (by decide)) (p2_in (by omega) hL) v1 rfl ?_
  refine pm_R_lo pm_M0 (pc_q := 1216) (pm_q0_14 (Nat.le_of_ble_eq_true rfl)) rfl rfl ?_
  refine pm_R_lo pm_M0 (pc_q := 1217) (pm_q0_14 (Nat.le_of_ble_eq_true rfl)) rfl rfl ?_
  refine pm_R_op pm_M0 (pc_q := 1218) (st_q := [.int 2, .int (Int32.ofNat n), .ref 0, .int x1, .ref 16]) (pm_q0_14 (Nat.le_of_ble_eq_true rfl)) rfl rfl ?_
  refine pm_R_op pm_M0 (pc_q := 1219) (st_q := [.int (Int32.ofNat (n + 2)), .ref 0, .int x1, .ref 16]) (pm_q0_14 (Nat.le_of_ble_eq_true rfl)) (congrArg (fun z => some (Value.int z :: [.ref 0, .int x1, .ref 16])) (p2_ad (n := n) (c := 2) (k := 2) rfl)) rfl ?_
  refine pm_R_iald pm_M0 (pc_q := 1220) (v := x2) (pm_q0_14 (Nat.le_of_ble_eq_true rfl)) ((T.old (by decide)).trans e0) (T.lt (by decide)) (p2_in (by omega) hL) v2 rfl ?_
  refine pm_R_lo pm_M0 (pc_q := 1221) (pm_q0_14 (Nat.le_of_ble_eq_true rfl)) rfl rfl ?_
  refine pm_R_lo pm_M0 (pc_q := 1222) (pm_q0_14 (Nat.le_of_ble_eq_true rfl)) rfl rfl ?_
  refine pm_R_op pm_M0 (pc_q := 1223) (st_q := [.int 3, .int (Int32.ofNat n), .ref 0, .int x2, .int x1, .ref 16]) (pm_q0_14 (Nat.le_of_ble_eq_true rfl)) rfl rfl ?_
  refine pm_R_op pm_M0 (pc_q := 1224) (st_q := [.int (Int32.ofNat (n + 3)), .ref 0, .int x2, .int x1, .ref 16]) (pm_q0_14 (Nat.le_of_ble_eq_true rfl)) (congrArg (fun z => some (Value.int z :: [.ref 0, .int x2, .int x1, .ref 16])) (p2_ad (n := n) (c := 3) (k := 3) rfl)) rfl ?_
  refine pm_R_iald pm_M0 (pc_q := 1225) (v := x3) (pm_q0_14 (Nat.le_of_ble_eq_true rfl)) ((T.old (by decide)).trans e0) (T.lt (by decide)) (p2_in (by omega) hL) v3 rfl ?_
  refine pm_R_lo pm_M0 (pc_q := 1226) (pm_q0_14 (Nat.le_of_ble_eq_true rfl)) rfl rfl ?_
  refine pm_R_lo pm_M0 (pc_q := 1227) (pm_q0_14 (Nat.le_of_ble_eq_true rfl)) rfl rfl ?_
  refine pm_R_op pm_M0 (pc_q := 1228) (st_q := [.int 4, .int (Int32.ofNat n), .ref 0, .int x3, .int x2, .int x1, .ref 16]) (pm_q0_14 (Nat.le_of_ble_eq_true rfl)) rfl rfl ?_
  refine pm_R_op pm_M0 (pc_q := 1229) (st_q := [.int (Int32.ofNat (n + 4)), .ref 0, .int x3, .int x2, .int x1, .ref 16]) (pm_q0_14 (Nat.le_of_ble_eq_true rfl)) (congrArg (fun z => some (Value.int z :: [.ref 0, .int x3, .int x2, .int x1, .ref 16])) (p2_ad (n := n) (c := 4) (k := 4) rfl)) rfl ?_
  refine pm_R_iald pm_M0 (pc_q := 1230) (v := x4) (pm_q0_14 (Nat.le_of_ble_eq_true rfl)) ((T.old (by decide)).trans e0) (T.lt (by decide)) (p2_in (by omega) hL) v4 rfl ?_
  refine pm_R_cv pm_M0 (pc_q := 1233) (a := 16) (ra := [.int x4, .int x3, .int x2, .int x1]) (rest := []) (ls_q := [.ref 16, .int x1, .int x2, .int x3, .int x4, pm_no, pm_no]) (pm_q0_14 (Nat.le_of_ble_eq_true rfl)) rfl (Or.inl rfl) pm_M144 T.e16 rfl (by decide) (T.lt (by decide)) rfl rfl (Nat.le_of_ble_eq_true rfl) rfl rfl ?_
  refine ex_inj WW KK rfl ?_
  refine cl_c144 G T (fun r1 m1 h1 T1 F1 W1 => ?_)
  intro WW KK
  show pm_R 100 0 1233 [.ref 0, .ref 16, .ref 41, .int (Int32.ofNat n)] [.int r1] _ _
  have RR := R2_cl G T F1 (by decide) RR
  have I := p2_cl (j := j) G T Tr Y e0 S R hc T1 F1 (W1 0 (by decide)) (by decide) (by decide) (by decide) (by decide) (by decide) (by decide) (by decide)
  obtain ⟨ck, E, m, o, mr, wr, G, T, Tr, Y, e0, S, R, hc⟩ := I
  refine pm_R_op pm_M0 (pc_q := 1234) (st_q := []) (pm_q0_14 (Nat.le_of_ble_eq_true rfl)) rfl rfl ?_
  refine pm_R_lo pm_M0 (pc_q := 1235) (pm_q0_14 (Nat.le_of_ble_eq_true rfl)) rfl rfl ?_
  refine pm_R_lo pm_M0 (pc_q := 1236) (pm_q0_14 (Nat.le_of_ble_eq_true rfl)) rfl rfl ?_
  refine pm_R_lo pm_M0 (pc_q := 1237) (pm_q0_14 (Nat.le_of_ble_eq_true rfl)) rfl rfl ?_
  refine pm_R_op pm_M0 (pc_q := 1238) (st_q := [.int 1, .int (Int32.ofNat n), .ref 0, .ref 41]) (pm_q0_14 (Nat.le_of_ble_eq_true rfl)) rfl rfl ?_
  refine pm_R_op pm_M0 (pc_q := 1239) (st_q := [.int (Int32.ofNat (n + 1)), .ref 0, .ref 41]) (pm_q0_14 (Nat.le_of_ble_eq_true rfl)) (congrArg (fun z => some (Value.int z :: [.ref 0, .ref 41])) (p2_ad (n := n) (c := 1) (k := 1) rfl)) rfl ?_
  refine pm_R_iald pm_M0 (pc_q := 1240) (v := x1) (pm_q0_14 (Nat.le_of_ble_eq_true rfl)) ((T.old (by decide)).trans e0) (T.lt (by decide)) (p2_in (by omega) hL) v1 rfl ?_
  refine pm_R_lo pm_M0 (pc_q := 1241) (pm_q0_14 (Nat.le_of_ble_eq_true rfl)) rfl rfl ?_
  refine pm_R_lo pm_M0 (pc_q := 1242) (pm_q0_14 (Nat.le_of_ble_eq_true rfl)) rfl rfl ?_
  refine pm_R_op pm_M0 (pc_q := 1243) (st_q := [.int 2, .int (Int32.ofNat n), .ref 0, .int x1, .ref 41]) (pm_q0_14 (Nat.le_of_ble_eq_true rfl)) rfl rfl ?_
  refine pm_R_op pm_M0 (pc_q := 1244) (st_q := [.int (Int32.ofNat (n + 2)), .ref 0, .int x1, .ref 41]) (pm_q0_14 (Nat.le_of_ble_eq_true rfl)) (congrArg (fun z => some (Value.int z :: [.ref 0, .int x1, .ref 41])) (p2_ad (n := n) (c := 2) (k := 2) rfl)) rfl ?_
  refine pm_R_iald pm_M0 (pc_q := 1245) (v := x2) (pm_q0_15 (Nat.le_of_ble_eq_true rfl)) ((T.old (by decide)).trans e0) (T.lt (by decide)) (p2_in (by omega) hL) v2 rfl ?_
  refine pm_R_lo pm_M0 (pc_q := 1246) (pm_q0_15 (Nat.le_of_ble_eq_true rfl)) rfl rfl ?_
  refine pm_R_lo pm_M0 (pc_q := 1247) (pm_q0_15 (Nat.le_of_ble_eq_true rfl)) rfl rfl ?_
  refine pm_R_op pm_M0 (pc_q := 1248) (st_q := [.int 3, .int (Int32.ofNat n), .ref 0, .int x2, .int x1, .ref 41]) (pm_q0_15 (Nat.le_of_ble_eq_true rfl)) rfl rfl ?_
  refine pm_R_op pm_M0 (pc_q := 1249) (st_q := [.int (Int32.ofNat (n + 3)), .ref 0, .int x2, .int x1, .ref 41]) (pm_q0_15 (Nat.le_of_ble_eq_true rfl)) (congrArg (fun z => some (Value.int z :: [.ref 0, .int x2, .int x1, .ref 41])) (p2_ad (n := n) (c := 3) (k := 3) rfl)) rfl ?_
  refine pm_R_iald pm_M0 (pc_q := 1250) (v := x3) (pm_q0_15 (Nat.le_of_ble_eq_true rfl)) ((T.old (by decide)).trans e0) (T.lt (by decide)) (p2_in (by omega) hL) v3 rfl ?_
  refine pm_R_lo pm_M0 (pc_q := 1251) (pm_q0_15 (Nat.le_of_ble_eq_true rfl)) rfl rfl ?_
  refine pm_R_lo pm_M0 (pc_q := 1252) (pm_q0_15 (Nat.le_of_ble_eq_true rfl)) rfl rfl ?_
  refine pm_R_op pm_M0 (pc_q := 1253) (st_q := [.int 4, .int (Int32.ofNat n), .ref 0, .int x3, .int x2, .int x1, .ref 41]) (pm_q0_15 (Nat.le_of_ble_eq_true rfl)) rfl rfl ?_
  refine pm_R_op pm_M0 (pc_q := 1254) (st_q := [.int (Int32.ofNat (n + 4)), .ref 0, .int x3, .int x2, .int x1, .ref 41]) (pm_q0_15 (Nat.le_of_ble_eq_true rfl)) (congrArg (fun z => some (Value.int z :: [.ref 0, .int x3, .int x2, .int x1, .ref 41])) (p2_ad (n := n) (c := 4) (k := 4) rfl)) rfl ?_
  refine pm_R_iald pm_M0 (pc_q := 1255) (v := x4) (pm_q0_15 (Nat.le_of_ble_eq_true rfl)) ((T.old (by decide)).trans e0) (T.lt (by decide)) (p2_in (by omega) hL) v4 rfl ?_
  refine pm_R_cv pm_M0 (pc_q := 1258) (a := 41) (ra := [.int x4, .int x3, .int x2, .int x1]) (rest := []) (ls_q := [.ref 41, .int x1, .int x2, .int x3, .int x4]) (pm_q0_15 (Nat.le_of_ble_eq_true rfl)) rfl (Or.inl rfl) pm_M260 Tr.2.1 rfl (by decide) (Nat.lt_of_lt_of_le (by decide) Tr.1) rfl rfl (Nat.le_of_ble_eq_true rfl) rfl rfl ?_
  refine ex_inj WW KK rfl ?_
  refine rf_c260 Tr (fun r2 m1 w1 h1 T1 F1 W1 => ?_)
  intro WW KK
  show pm_R 100 0 1258 [.ref 0, .ref 16, .ref 41, .int (Int32.ofNat n)] [.int r2] _ _
  have RR := R2_rf F1 (by decide) RR
  have I := p2_rf G T Y e0 S R hc T1 F1 (by decide)
  refine pm_R_op pm_M0 (pc_q := 1259) (st_q := []) (pm_q0_15 (Nat.le_of_ble_eq_true rfl)) rfl rfl ?_
  refine pm_R_br pm_M0 (pc_q := 2117) (pm_q0_15 (Nat.le_of_ble_eq_true rfl)) rfl ?_
  exact K _ ⟨I, WW, KK, RR⟩
