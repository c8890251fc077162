set_option maxRecDepth 100000 in
set_option maxHeartbeats 4000000 in
theorem p6_k3 {L n j : Nat} {xs : Nat → Int32} {h : pm_H} {Q : Option Value → pm_H → Prop} (I : p6_I L xs j h) (hn : n + 7 ≤ L) (hL : L ≤ 3584) (K : ∀ h', p6_I L xs (j + 1) h' → pm_R 100 0 2117 [.ref 0, .ref 16, .ref 41, .int (Int32.ofNat n)] [] h' Q) : pm_R 100 0 339 [.ref 0, .ref 16, .ref 41, .int (Int32.ofNat n)] [] h Q := by
  obtain ⟨x1, v1⟩ : ∃ y, xs (Int32.toNatClampNeg (Int32.ofNat (n + 1))) = y := ⟨_, rfl⟩
  obtain ⟨I, WW, KK, RR⟩ := I
  obtain ⟨ck, E, m, o, mr, wr, G, T, Tr, Y, e0, S, R, hc⟩ := I
  refine pm_R_lo pm_M0 (pc' := 340) (pm_q0_2 (Nat.le_of_ble_eq_true rfl)) rfl rfl ?_
  refine pm_R_lo pm_M0 (pc' := 341) (pm_q0_2 (Nat.le_of_ble_eq_true rfl)) rfl rfl ?_
  refine pm_R_lo pm_M0 (pc' := 342) (pm_q0_2 (Nat.le_of_ble_eq_true rfl)) rfl rfl ?_
  refine pm_R_op pm_M0 (pc' := 343) (st' := [.int 1, .int (Int32.ofNat n), .ref 0, .ref 16]) (pm_q0_2 (Nat.le_of_ble_eq_true rfl)) rfl rfl ?_
  refine pm_R_op pm_M0 (pc' := 344) (st' := [.int (Int32.ofNat (n + 1)), .ref 0, .ref 16]) (pm_q0_2 (Nat.le_of_ble_eq_true rfl)) (congrArg (fun z => some (Value.int z :: [.ref 0, .ref 16])) (p2_ad (n := n) (c := 1) (k := 1) rfl)) rfl ?_
  refine pm_R_iald pm_M0 (pc' := 345) (v := x1) (pm_q0_2 (Nat.le_of_ble_eq_true rfl)) ((T.old (by decide)).trans e0) (T.lt (by decide)) (p2_in (by omega) hL) v1 rfl ?_
  refine pm_R_cv pm_M0 (pc' := 348) (a := 16) (ra := [.int x1]) (rest := []) (ls' := [.ref 16, .int x1]) (pm_q0_2 (Nat.le_of_ble_eq_true rfl)) rfl (Or.inl rfl) pm_M55 T.e16 rfl (by decide) (T.lt (by decide)) rfl rfl (Nat.le_of_ble_eq_true rfl) rfl rfl ?_
  refine ex_inj WW KK rfl ?_
  refine cl_c55 G T (fun r1 _ => ?_)
  intro WW KK
  show pm_R 100 0 348 [.ref 0, .ref 16, .ref 41, .int (Int32.ofNat n)] [.int r1] _ _
  have I := p2_up (⟨ck, E, m, o, mr, wr, G, T, Tr, Y, e0, S, R, hc⟩ : p2_I L xs j h)
  obtain ⟨ck, E, m, o, mr, wr, G, T, Tr, Y, e0, S, R, hc⟩ := I
  refine pm_R_op pm_M0 (pc' := 349) (st' := []) (pm_q0_2 (Nat.le_of_ble_eq_true rfl)) rfl rfl ?_
  refine pm_R_lo pm_M0 (pc' := 350) (pm_q0_2 (Nat.le_of_ble_eq_true rfl)) rfl rfl ?_
  refine pm_R_lo pm_M0 (pc' := 351) (pm_q0_2 (Nat.le_of_ble_eq_true rfl)) rfl rfl ?_
  refine pm_R_lo pm_M0 (pc' := 352) (pm_q0_2 (Nat.le_of_ble_eq_true rfl)) rfl rfl ?_
  refine pm_R_op pm_M0 (pc' := 353) (st' := [.int 1, .int (Int32.ofNat n), .ref 0, .ref 41]) (pm_q0_2 (Nat.le_of_ble_eq_true rfl)) rfl rfl ?_
  refine pm_R_op pm_M0 (pc' := 354) (st' := [.int (Int32.ofNat (n + 1)), .ref 0, .ref 41]) (pm_q0_2 (Nat.le_of_ble_eq_true rfl)) (congrArg (fun z => some (Value.int z :: [.ref 0, .ref 41])) (p2_ad (n := n) (c := 1) (k := 1) rfl)) rfl ?_
  refine pm_R_iald pm_M0 (pc' := 355) (v := x1) (pm_q0_2 (Nat.le_of_ble_eq_true rfl)) ((T.old (by decide)).trans e0) (T.lt (by decide)) (p2_in (by omega) hL) v1 rfl ?_
  refine pm_R_cv pm_M0 (pc' := 358) (a := 41) (ra := [.int x1]) (rest := []) (ls' := [.ref 41, .int x1]) (pm_q0_2 (Nat.le_of_ble_eq_true rfl)) rfl (Or.inl rfl) pm_M194 Tr.2.1 rfl (by decide) (Nat.lt_of_lt_of_le (by decide) Tr.1) rfl rfl (Nat.le_of_ble_eq_true rfl) rfl rfl ?_
  refine ex_inj WW KK rfl ?_
  refine rf_c194 Tr (fun r2 m1 w1 h1 T1 F1 W1 _ => ?_)
  intro WW KK
  show pm_R 100 0 358 [.ref 0, .ref 16, .ref 41, .int (Int32.ofNat n)] [.int r2] _ _
  have RR := R2_rf F1 (by decide) RR
  have I := p2_rf G T Y e0 S R hc T1 F1 (by decide)
  refine pm_R_op pm_M0 (pc' := 359) (st' := []) (pm_q0_2 (Nat.le_of_ble_eq_true rfl)) rfl rfl ?_
  refine pm_R_br pm_M0 (pc' := 2117) (pm_q0_2 (Nat.le_of_ble_eq_true rfl)) rfl ?_
  exact K _ ⟨I, WW, KK, RR⟩

set_option maxRecDepth 100000 in
set_option maxHeartbeats 4000000 in
theorem p6_k4 {L n j : Nat} {xs : Nat → Int32} {h : pm_H} {Q : Option Value → pm_H → Prop} (I : p6_I L xs j h) (hn : n + 7 ≤ L) (hL : L ≤ 3584) (K : ∀ h', p6_I L xs (j + 1) h' → pm_R 100 0 2117 [.ref 0, .ref 16, .ref 41, .int (Int32.ofNat n)] [] h' Q) : pm_R 100 0 362 [.ref 0, .ref 16, .ref 41, .int (Int32.ofNat n)] [] h Q := by
  obtain ⟨x1, v1⟩ : ∃ y, xs (Int32.toNatClampNeg (Int32.ofNat (n + 1))) = y := ⟨_, rfl⟩
  obtain ⟨x2, v2⟩ : ∃ y, xs (Int32.toNatClampNeg (Int32.ofNat (n + 2))) = y := ⟨_, rfl⟩
  obtain ⟨I, WW, KK, RR⟩ := I
  obtain ⟨ck, E, m, o, mr, wr, G, T, Tr, Y, e0, S, R, hc⟩ := I
  refine pm_R_lo pm_M0 (pc' := 363) (pm_q0_2 (Nat.le_of_ble_eq_true rfl)) rfl rfl ?_
  refine pm_R_lo pm_M0 (pc' := 364) (pm_q0_2 (Nat.le_of_ble_eq_true rfl)) rfl rfl ?_
  refine pm_R_lo pm_M0 (pc' := 365) (pm_q0_2 (Nat.le_of_ble_eq_true rfl)) rfl rfl ?_
  refine pm_R_op pm_M0 (pc' := 366) (st' := [.int 1, .int (Int32.ofNat n), .ref 0, .ref 16]) (pm_q0_2 (Nat.le_of_ble_eq_true rfl)) rfl rfl ?_
  refine pm_R_op pm_M0 (pc' := 367) (st' := [.int (Int32.ofNat (n + 1)), .ref 0, .ref 16]) (pm_q0_2 (Nat.le_of_ble_eq_true rfl)) (congrArg (fun z => some (Value.int z :: [.ref 0, .ref 16])) (p2_ad (n := n) (c := 1) (k := 1) rfl)) rfl ?_
  refine pm_R_iald pm_M0 (pc' := 368) (v := x1) (pm_q0_2 (Nat.le_of_ble_eq_true rfl)) ((T.old (by decide)).trans e0) (T.lt (by decide)) (p2_in (by omega) hL) v1 rfl ?_
  refine pm_R_lo pm_M0 (pc' := 369) (pm_q0_2 (Nat.le_of_ble_eq_true rfl)) rfl rfl ?_
  refine pm_R_lo pm_M0 (pc' := 370) (pm_q0_2 (Nat.le_of_ble_eq_true rfl)) rfl rfl ?_
  refine pm_R_op pm_M0 (pc' := 371) (st' := [.int 2, .int (Int32.ofNat n), .ref 0, .int x1, .ref 16]) (pm_q0_2 (Nat.le_of_ble_eq_true rfl)) rfl rfl ?_
  refine pm_R_op pm_M0 (pc' := 372) (st' := [.int (Int32.ofNat (n + 2)), .ref 0, .int x1, .ref 16]) (pm_q0_2 (Nat.le_of_ble_eq_true rfl)) (congrArg (fun z => some (Value.int z :: [.ref 0, .int x1, .ref 16])) (p2_ad (n := n) (c := 2) (k := 2) rfl)) rfl ?_
  refine pm_R_iald pm_M0 (pc' := 373) (v := x2) (pm_q0_2 (Nat.le_of_ble_eq_true rfl)) ((T.old (by decide)).trans e0) (T.lt (by decide)) (p2_in (by omega) hL) v2 rfl ?_
  refine pm_R_cv pm_M0 (pc' := 376) (a := 16) (ra := [.int x2, .int x1]) (rest := []) (ls' := [.ref 16, .int x1, .int x2, pm_no]) (pm_q0_2 (Nat.le_of_ble_eq_true rfl)) rfl (Or.inl rfl) pm_M61 T.e16 rfl (by decide) (T.lt (by decide)) rfl rfl (Nat.le_of_ble_eq_true rfl) rfl rfl ?_
  have CN := cnq_of T
  refine ex_injP WW KK (fun N => ec61 N _ _ _ _) ?_
  refine cl_c61 G T (fun r1 _ => ?_)
  intro WW KK P1
  obtain ⟨v1r, ev1r, P1⟩ := P1
  rw [ex_vi ev1r] at P1
  show pm_R 100 0 376 [.ref 0, .ref 16, .ref 41, .int (Int32.ofNat n)] [.int r1] _ _
  have RR0 := RR
  have I := p2_up (⟨ck, E, m, o, mr, wr, G, T, Tr, Y, e0, S, R, hc⟩ : p2_I L xs j h)
  obtain ⟨ck, E, m, o, mr, wr, G, T, Tr, Y, e0, S, R, hc⟩ := I
  refine pm_R_lo pm_M0 (pc' := 377) (pm_q0_2 (Nat.le_of_ble_eq_true rfl)) rfl rfl ?_
  refine pm_R_lo pm_M0 (pc' := 378) (pm_q0_2 (Nat.le_of_ble_eq_true rfl)) rfl rfl ?_
  refine pm_R_lo pm_M0 (pc' := 379) (pm_q0_2 (Nat.le_of_ble_eq_true rfl)) rfl rfl ?_
  refine pm_R_op pm_M0 (pc' := 380) (st' := [.int 1, .int (Int32.ofNat n), .ref 0, .ref 41, .int r1]) (pm_q0_2 (Nat.le_of_ble_eq_true rfl)) rfl rfl ?_
  refine pm_R_op pm_M0 (pc' := 381) (st' := [.int (Int32.ofNat (n + 1)), .ref 0, .ref 41, .int r1]) (pm_q0_2 (Nat.le_of_ble_eq_true rfl)) (congrArg (fun z => some (Value.int z :: [.ref 0, .ref 41, .int r1])) (p2_ad (n := n) (c := 1) (k := 1) rfl)) rfl ?_
  refine pm_R_iald pm_M0 (pc' := 382) (v := x1) (pm_q0_2 (Nat.le_of_ble_eq_true rfl)) ((T.old (by decide)).trans e0) (T.lt (by decide)) (p2_in (by omega) hL) v1 rfl ?_
  refine pm_R_lo pm_M0 (pc' := 383) (pm_q0_2 (Nat.le_of_ble_eq_true rfl)) rfl rfl ?_
  refine pm_R_lo pm_M0 (pc' := 384) (pm_q0_2 (Nat.le_of_ble_eq_true rfl)) rfl rfl ?_
  refine pm_R_op pm_M0 (pc' := 385) (st' := [.int 2, .int (Int32.ofNat n), .ref 0, .int x1, .ref 41, .int r1]) (pm_q0_2 (Nat.le_of_ble_eq_true rfl)) rfl rfl ?_
  refine pm_R_op pm_M0 (pc' := 386) (st' := [.int (Int32.ofNat (n + 2)), .ref 0, .int x1, .ref 41, .int r1]) (pm_q0_2 (Nat.le_of_ble_eq_true rfl)) (congrArg (fun z => some (Value.int z :: [.ref 0, .int x1, .ref 41, .int r1])) (p2_ad (n := n) (c := 2) (k := 2) rfl)) rfl ?_
  refine pm_R_iald pm_M0 (pc' := 387) (v := x2) (pm_q0_2 (Nat.le_of_ble_eq_true rfl)) ((T.old (by decide)).trans e0) (T.lt (by decide)) (p2_in (by omega) hL) v2 rfl ?_
  refine pm_R_cv pm_M0 (pc' := 390) (a := 41) (ra := [.int x2, .int x1]) (rest := [.int r1]) (ls' := [.ref 41, .int x1, .int x2]) (pm_q0_2 (Nat.le_of_ble_eq_true rfl)) rfl (Or.inl rfl) pm_M195 Tr.2.1 rfl (by decide) (Nat.lt_of_lt_of_le (by decide) Tr.1) rfl rfl (Nat.le_of_ble_eq_true rfl) rfl rfl ?_
  refine ex_injP WW KK (fun N => ec195 N _ _ _ _) ?_
  refine rf_c195 Tr (fun r2 m1 w1 h1 T1 F1 W1 => ?_)
  intro WW KK P2
  obtain ⟨v2r, ev2r, P2⟩ := P2
  rw [ex_vi ev2r] at P2
  show pm_R 100 0 390 [.ref 0, .ref 16, .ref 41, .int (Int32.ofNat n)] [.int r2, .int r1] _ _
  have e12 : r1 = r2 := R_list CN RR0 P1 P2
  have RR := R2_rf F1 (by decide) RR
  have I := p2_rf G T Y e0 S R hc T1 F1 (by decide)
  refine pm_R_icmp pm_M0 (t := 2117) (pc' := 393) (pm_q0_2 (Nat.le_of_ble_eq_true rfl)) rfl rfl (fun _ => ?_) (fun c => absurd e12 c)
  exact K _ ⟨I, WW, KK, RR⟩

set_option maxRecDepth 100000 in
set_option maxHeartbeats 4000000 in
theorem p6_k5 {L n j : Nat} {xs : Nat → Int32} {h : pm_H} {Q : Option Value → pm_H → Prop} (I : p6_I L xs j h) (hn : n + 7 ≤ L) (hL : L ≤ 3584) (K : ∀ h', p6_I L xs (j + 1) h' → pm_R 100 0 2117 [.ref 0, .ref 16, .ref 41, .int (Int32.ofNat n)] [] h' Q) : pm_R 100 0 395 [.ref 0, .ref 16, .ref 41, .int (Int32.ofNat n)] [] h Q := by
  obtain ⟨x1, v1⟩ : ∃ y, xs (Int32.toNatClampNeg (Int32.ofNat (n + 1))) = y := ⟨_, rfl⟩
  obtain ⟨x2, v2⟩ : ∃ y, xs (Int32.toNatClampNeg (Int32.ofNat (n + 2))) = y := ⟨_, rfl⟩
  obtain ⟨x3, v3⟩ : ∃ y, xs (Int32.toNatClampNeg (Int32.ofNat (n + 3))) = y := ⟨_, rfl⟩
  obtain ⟨I, WW, KK, RR⟩ := I
  obtain ⟨ck, E, m, o, mr, wr, G, T, Tr, Y, e0, S, R, hc⟩ := I
  refine pm_R_lo pm_M0 (pc' := 396) (pm_q0_2 (Nat.le_of_ble_eq_true rfl)) rfl rfl ?_
  refine pm_R_lo pm_M0 (pc' := 397) (pm_q0_2 (Nat.le_of_ble_eq_true rfl)) rfl rfl ?_
  refine pm_R_lo pm_M0 (pc' := 398) (pm_q0_2 (Nat.le_of_ble_eq_true rfl)) rfl rfl ?_
  refine pm_R_op pm_M0 (pc' := 399) (st' := [.int 1, .int (Int32.ofNat n), .ref 0, .ref 16]) (pm_q0_2 (Nat.le_of_ble_eq_true rfl)) rfl rfl ?_
  refine pm_R_op pm_M0 (pc' := 400) (st' := [.int (Int32.ofNat (n + 1)), .ref 0, .ref 16]) (pm_q0_2 (Nat.le_of_ble_eq_true rfl)) (congrArg (fun z => some (Value.int z :: [.ref 0, .ref 16])) (p2_ad (n := n) (c := 1) (k := 1) rfl)) rfl ?_
  refine pm_R_iald pm_M0 (pc' := 401) (v := x1) (pm_q0_2 (Nat.le_of_ble_eq_true rfl)) ((T.old (by decide)).trans e0) (T.lt (by decide)) (p2_in (by omega) hL) v1 rfl ?_
  refine pm_R_lo pm_M0 (pc' := 402) (pm_q0_2 (Nat.le_of_ble_eq_true rfl)) rfl rfl ?_
  refine pm_R_lo pm_M0 (pc' := 403) (pm_q0_2 (Nat.le_of_ble_eq_true rfl)) rfl rfl ?_
  refine pm_R_op pm_M0 (pc' := 404) (st' := [.int 2, .int (Int32.ofNat n), .ref 0, .int x1, .ref 16]) (pm_q0_2 (Nat.le_of_ble_eq_true rfl)) rfl rfl ?_
  refine pm_R_op pm_M0 (pc' := 405) (st' := [.int (Int32.ofNat (n + 2)), .ref 0, .int x1, .ref 16]) (pm_q0_2 (Nat.le_of_ble_eq_true rfl)) (congrArg (fun z => some (Value.int z :: [.ref 0, .int x1, .ref 16])) (p2_ad (n := n) (c := 2) (k := 2) rfl)) rfl ?_
  refine pm_R_iald pm_M0 (pc' := 406) (v := x2) (pm_q0_2 (Nat.le_of_ble_eq_true rfl)) ((T.old (by decide)).trans e0) (T.lt (by decide)) (p2_in (by omega) hL) v2 rfl ?_
  refine pm_R_lo pm_M0 (pc' := 407) (pm_q0_2 (Nat.le_of_ble_eq_true rfl)) rfl rfl ?_
  refine pm_R_lo pm_M0 (pc' := 408) (pm_q0_2 (Nat.le_of_ble_eq_true rfl)) rfl rfl ?_
  refine pm_R_op pm_M0 (pc' := 409) (st' := [.int 3, .int (Int32.ofNat n), .ref 0, .int x2, .int x1, .ref 16]) (pm_q0_3 (Nat.le_of_ble_eq_true rfl)) rfl rfl ?_
  refine pm_R_op pm_M0 (pc' := 410) (st' := [.int (Int32.ofNat (n + 3)), .ref 0, .int x2, .int x1, .ref 16]) (pm_q0_3 (Nat.le_of_ble_eq_true rfl)) (congrArg (fun z => some (Value.int z :: [.ref 0, .int x2, .int x1, .ref 16])) (p2_ad (n := n) (c := 3) (k := 3) rfl)) rfl ?_
  refine pm_R_iald pm_M0 (pc' := 411) (v := x3) (pm_q0_3 (Nat.le_of_ble_eq_true rfl)) ((T.old (by decide)).trans e0) (T.lt (by decide)) (p2_in (by omega) hL) v3 rfl ?_
  refine pm_R_cv pm_M0 (pc' := 414) (a := 16) (ra := [.int x3, .int x2, .int x1]) (rest := []) (ls' := [.ref 16, .int x1, .int x2, .int x3, pm_no]) (pm_q0_3 (Nat.le_of_ble_eq_true rfl)) rfl (Or.inl rfl) pm_M63 T.e16 rfl (by decide) (T.lt (by decide)) rfl rfl (Nat.le_of_ble_eq_true rfl) rfl rfl ?_
  refine ex_inj WW KK rfl ?_
  refine cl_c63 G T (fun r1 => ?_)
  intro WW KK
  show pm_R 100 0 414 [.ref 0, .ref 16, .ref 41, .int (Int32.ofNat n)] [.int r1] _ _
  have I := p2_up (⟨ck, E, m, o, mr, wr, G, T, Tr, Y, e0, S, R, hc⟩ : p2_I L xs j h)
  obtain ⟨ck, E, m, o, mr, wr, G, T, Tr, Y, e0, S, R, hc⟩ := I
  refine pm_R_op pm_M0 (pc' := 415) (st' := []) (pm_q0_3 (Nat.le_of_ble_eq_true rfl)) rfl rfl ?_
  refine pm_R_lo pm_M0 (pc' := 416) (pm_q0_3 (Nat.le_of_ble_eq_true rfl)) rfl rfl ?_
  refine pm_R_lo pm_M0 (pc' := 417) (pm_q0_3 (Nat.le_of_ble_eq_true rfl)) rfl rfl ?_
  refine pm_R_lo pm_M0 (pc' := 418) (pm_q0_3 (Nat.le_of_ble_eq_true rfl)) rfl rfl ?_
  refine pm_R_op pm_M0 (pc' := 419) (st' := [.int 1, .int (Int32.ofNat n), .ref 0, .ref 41]) (pm_q0_3 (Nat.le_of_ble_eq_true rfl)) rfl rfl ?_
  refine pm_R_op pm_M0 (pc' := 420) (st' := [.int (Int32.ofNat (n + 1)), .ref 0, .ref 41]) (pm_q0_3 (Nat.le_of_ble_eq_true rfl)) (congrArg (fun z => some (Value.int z :: [.ref 0, .ref 41])) (p2_ad (n := n) (c := 1) (k := 1) rfl)) rfl ?_
  refine pm_R_iald pm_M0 (pc' := 421) (v := x1) (pm_q0_3 (Nat.le_of_ble_eq_true rfl)) ((T.old (by decide)).trans e0) (T.lt (by decide)) (p2_in (by omega) hL) v1 rfl ?_
  refine pm_R_lo pm_M0 (pc' := 422) (pm_q0_3 (Nat.le_of_ble_eq_true rfl)) rfl rfl ?_
  refine pm_R_lo pm_M0 (pc' := 423) (pm_q0_3 (Nat.le_of_ble_eq_true rfl)) rfl rfl ?_
  refine pm_R_op pm_M0 (pc' := 424) (st' := [.int 2, .int (Int32.ofNat n), .ref 0, .int x1, .ref 41]) (pm_q0_3 (Nat.le_of_ble_eq_true rfl)) rfl rfl ?_
  refine pm_R_op pm_M0 (pc' := 425) (st' := [.int (Int32.ofNat (n + 2)), .ref 0, .int x1, .ref 41]) (pm_q0_3 (Nat.le_of_ble_eq_true rfl)) (congrArg (fun z => some (Value.int z :: [.ref 0, .int x1, .ref 41])) (p2_ad (n := n) (c := 2) (k := 2) rfl)) rfl ?_
  refine pm_R_iald pm_M0 (pc' := 426) (v := x2) (pm_q0_3 (Nat.le_of_ble_eq_true rfl)) ((T.old (by decide)).trans e0) (T.lt (by decide)) (p2_in (by omega) hL) v2 rfl ?_
  refine pm_R_lo pm_M0 (pc' := 427) (pm_q0_3 (Nat.le_of_ble_eq_true rfl)) rfl rfl ?_
  refine pm_R_lo pm_M0 (pc' := 428) (pm_q0_3 (Nat.le_of_ble_eq_true rfl)) rfl rfl ?_
  refine pm_R_op pm_M0 (pc' := 429) (st' := [.int 3, .int (Int32.ofNat n), .ref 0, .int x2, .int x1, .ref 41]) (pm_q0_3 (Nat.le_of_ble_eq_true rfl)) rfl rfl ?_
  refine pm_R_op pm_M0 (pc' := 430) (st' := [.int (Int32.ofNat (n + 3)), .ref 0, .int x2, .int x1, .ref 41]) (pm_q0_3 (Nat.le_of_ble_eq_true rfl)) (congrArg (fun z => some (Value.int z :: [.ref 0, .int x2, .int x1, .ref 41])) (p2_ad (n := n) (c := 3) (k := 3) rfl)) rfl ?_
  refine pm_R_iald pm_M0 (pc' := 431) (v := x3) (pm_q0_3 (Nat.le_of_ble_eq_true rfl)) ((T.old (by decide)).trans e0) (T.lt (by decide)) (p2_in (by omega) hL) v3 rfl ?_
  refine pm_R_cv pm_M0 (pc' := 434) (a := 41) (ra := [.int x3, .int x2, .int x1]) (rest := []) (ls' := [.ref 41, .int x1, .int x2, .int x3]) (pm_q0_3 (Nat.le_of_ble_eq_true rfl)) rfl (Or.inl rfl) pm_M196 Tr.2.1 rfl (by decide) (Nat.lt_of_lt_of_le (by decide) Tr.1) rfl rfl (Nat.le_of_ble_eq_true rfl) rfl rfl ?_
  refine ex_inj WW KK rfl ?_
  refine rf_c196 Tr (fun r2 m1 w1 h1 T1 F1 W1 => ?_)
  intro WW KK
  show pm_R 100 0 434 [.ref 0, .ref 16, .ref 41, .int (Int32.ofNat n)] [.int r2] _ _
  have RR := R2_rf F1 (by decide) RR
  have I := p2_rf G T Y e0 S R hc T1 F1 (by decide)
  refine pm_R_op pm_M0 (pc' := 435) (st' := []) (pm_q0_3 (Nat.le_of_ble_eq_true rfl)) rfl rfl ?_
  refine pm_R_br pm_M0 (pc' := 2117) (pm_q0_3 (Nat.le_of_ble_eq_true rfl)) rfl ?_
  exact K _ ⟨I, WW, KK, RR⟩

set_option maxRecDepth 100000 in
set_option maxHeartbeats 4000000 in
theorem p6_k6 {L n j : Nat} {xs : Nat → Int32} {h : pm_H} {Q : Option Value → pm_H → Prop} (I : p6_I L xs j h) (hn : n + 7 ≤ L) (hL : L ≤ 3584) (K : ∀ h', p6_I L xs (j + 1) h' → pm_R 100 0 2117 [.ref 0, .ref 16, .ref 41, .int (Int32.ofNat n)] [] h' Q) : pm_R 100 0 438 [.ref 0, .ref 16, .ref 41, .int (Int32.ofNat n)] [] h Q := by
  obtain ⟨x1, v1⟩ : ∃ y, xs (Int32.toNatClampNeg (Int32.ofNat (n + 1))) = y := ⟨_, rfl⟩
  obtain ⟨x2, v2⟩ : ∃ y, xs (Int32.toNatClampNeg (Int32.ofNat (n + 2))) = y := ⟨_, rfl⟩
  obtain ⟨x3, v3⟩ : ∃ y, xs (Int32.toNatClampNeg (Int32.ofNat (n + 3))) = y := ⟨_, rfl⟩
  obtain ⟨I, WW, KK, RR⟩ := I
  obtain ⟨ck, E, m, o, mr, wr, G, T, Tr, Y, e0, S, R, hc⟩ := I
  refine pm_R_lo pm_M0 (pc' := 439) (pm_q0_3 (Nat.le_of_ble_eq_true rfl)) rfl rfl ?_
  refine pm_R_lo pm_M0 (pc' := 440) (pm_q0_3 (Nat.le_of_ble_eq_true rfl)) rfl rfl ?_
  refine pm_R_lo pm_M0 (pc' := 441) (pm_q0_3 (Nat.le_of_ble_eq_true rfl)) rfl rfl ?_
  refine pm_R_op pm_M0 (pc' := 442) (st' := [.int 1, .int (Int32.ofNat n), .ref 0, .ref 16]) (pm_q0_3 (Nat.le_of_ble_eq_true rfl)) rfl rfl ?_
  refine pm_R_op pm_M0 (pc' := 443) (st' := [.int (Int32.ofNat (n + 1)), .ref 0, .ref 16]) (pm_q0_3 (Nat.le_of_ble_eq_true rfl)) (congrArg (fun z => some (Value.int z :: [.ref 0, .ref 16])) (p2_ad (n := n) (c := 1) (k := 1) rfl)) rfl ?_
  refine pm_R_iald pm_M0 (pc' := 444) (v := x1) (pm_q0_3 (Nat.le_of_ble_eq_true rfl)) ((T.old (by decide)).trans e0) (T.lt (by decide)) (p2_in (by omega) hL) v1 rfl ?_
  refine pm_R_lo pm_M0 (pc' := 445) (pm_q0_3 (Nat.le_of_ble_eq_true rfl)) rfl rfl ?_
  refine pm_R_lo pm_M0 (pc' := 446) (pm_q0_3 (Nat.le_of_ble_eq_true rfl)) rfl rfl ?_
  refine pm_R_op pm_M0 (pc' := 447) (st' := [.int 2, .int (Int32.ofNat n), .ref 0, .int x1, .ref 16]) (pm_q0_3 (Nat.le_of_ble_eq_true rfl)) rfl rfl ?_
  refine pm_R_op pm_M0 (pc' := 448) (st' := [.int (Int32.ofNat (n + 2)), .ref 0, .int x1, .ref 16]) (pm_q0_3 (Nat.le_of_ble_eq_true rfl)) (congrArg (fun z => some (Value.int z :: [.ref 0, .int x1, .ref 16])) (p2_ad (n := n) (c := 2) (k := 2) rfl)) rfl ?_
  refine pm_R_iald pm_M0 (pc' := 449) (v := x2) (pm_q0_3 (Nat.le_of_ble_eq_true rfl)) ((T.old (by decide)).trans e0) (T.lt (by decide)) (p2_in (by omega) hL) v2 rfl ?_
  refine pm_R_lo pm_M0 (pc' := 450) (pm_q0_3 (Nat.le_of_ble_eq_true rfl)) rfl rfl ?_
  refine pm_R_lo pm_M0 (pc' := 451) (pm_q0_3 (Nat.le_of_ble_eq_true rfl)) rfl rfl ?_
  refine pm_R_op pm_M0 (pc' := 452) (st' := [.int 3, .int (Int32.ofNat n), .ref 0, .int x2, .int x1, .ref 16]) (pm_q0_3 (Nat.le_of_ble_eq_true rfl)) rfl rfl ?_
  refine pm_R_op pm_M0 (pc' := 453) (st' := [.int (Int32.ofNat (n + 3)), .ref 0, .int x2, .int x1, .ref 16]) (pm_q0_3 (Nat.le_of_ble_eq_true rfl)) (congrArg (fun z => some (Value.int z :: [.ref 0, .int x2, .int x1, .ref 16])) (p2_ad (n := n) (c := 3) (k := 3) rfl)) rfl ?_
  refine pm_R_iald pm_M0 (pc' := 454) (v := x3) (pm_q0_3 (Nat.le_of_ble_eq_true rfl)) ((T.old (by decide)).trans e0) (T.lt (by decide)) (p2_in (by omega) hL) v3 rfl ?_
  refine pm_R_cv pm_M0 (pc' := 457) (a := 16) (ra := [.int x3, .int x2, .int x1]) (rest := []) (ls' := [.ref 16, .int x1, .int x2, .int x3, pm_no]) (pm_q0_3 (Nat.le_of_ble_eq_true rfl)) rfl (Or.inl rfl) pm_M64 T.e16 rfl (by decide) (T.lt (by decide)) rfl rfl (Nat.le_of_ble_eq_true rfl) rfl rfl ?_
  refine ex_inj WW KK rfl ?_
  refine cl_c64 G T (fun r1 => ?_)
  intro WW KK
  show pm_R 100 0 457 [.ref 0, .ref 16, .ref 41, .int (Int32.ofNat n)] [.int r1] _ _
  have I := p2_up (⟨ck, E, m, o, mr, wr, G, T, Tr, Y, e0, S, R, hc⟩ : p2_I L xs j h)
  obtain ⟨ck, E, m, o, mr, wr, G, T, Tr, Y, e0, S, R, hc⟩ := I
  refine pm_R_op pm_M0 (pc' := 458) (st' := []) (pm_q0_3 (Nat.le_of_ble_eq_true rfl)) rfl rfl ?_
  refine pm_R_lo pm_M0 (pc' := 459) (pm_q0_3 (Nat.le_of_ble_eq_true rfl)) rfl rfl ?_
  refine pm_R_lo pm_M0 (pc' := 460) (pm_q0_3 (Nat.le_of_ble_eq_true rfl)) rfl rfl ?_
  refine pm_R_lo pm_M0 (pc' := 461) (pm_q0_3 (Nat.le_of_ble_eq_true rfl)) rfl rfl ?_
  refine pm_R_op pm_M0 (pc' := 462) (st' := [.int 1, .int (Int32.ofNat n), .ref 0, .ref 41]) (pm_q0_3 (Nat.le_of_ble_eq_true rfl)) rfl rfl ?_
  refine pm_R_op pm_M0 (pc' := 463) (st' := [.int (Int32.ofNat (n + 1)), .ref 0, .ref 41]) (pm_q0_3 (Nat.le_of_ble_eq_true rfl)) (congrArg (fun z => some (Value.int z :: [.ref 0, .ref 41])) (p2_ad (n := n) (c := 1) (k := 1) rfl)) rfl ?_
  refine pm_R_iald pm_M0 (pc' := 464) (v := x1) (pm_q0_3 (Nat.le_of_ble_eq_true rfl)) ((T.old (by decide)).trans e0) (T.lt (by decide)) (p2_in (by omega) hL) v1 rfl ?_
  refine pm_R_lo pm_M0 (pc' := 465) (pm_q0_3 (Nat.le_of_ble_eq_true rfl)) rfl rfl ?_
  refine pm_R_lo pm_M0 (pc' := 466) (pm_q0_3 (Nat.le_of_ble_eq_true rfl)) rfl rfl ?_
  refine pm_R_op pm_M0 (pc' := 467) (st' := [.int 2, .int (Int32.ofNat n), .ref 0, .int x1, .ref 41]) (pm_q0_3 (Nat.le_of_ble_eq_true rfl)) rfl rfl ?_
  refine pm_R_op pm_M0 (pc' := 468) (st' := [.int (Int32.ofNat (n + 2)), .ref 0, .int x1, .ref 41]) (pm_q0_3 (Nat.le_of_ble_eq_true rfl)) (congrArg (fun z => some (Value.int z :: [.ref 0, .int x1, .ref 41])) (p2_ad (n := n) (c := 2) (k := 2) rfl)) rfl ?_
  refine pm_R_iald pm_M0 (pc' := 469) (v := x2) (pm_q0_3 (Nat.le_of_ble_eq_true rfl)) ((T.old (by decide)).trans e0) (T.lt (by decide)) (p2_in (by omega) hL) v2 rfl ?_
  refine pm_R_lo pm_M0 (pc' := 470) (pm_q0_3 (Nat.le_of_ble_eq_true rfl)) rfl rfl ?_
  refine pm_R_lo pm_M0 (pc' := 471) (pm_q0_3 (Nat.le_of_ble_eq_true rfl)) rfl rfl ?_
  refine pm_R_op pm_M0 (pc' := 472) (st' := [.int 3, .int (Int32.ofNat n), .ref 0, .int x2, .int x1, .ref 41]) (pm_q0_3 (Nat.le_of_ble_eq_true rfl)) rfl rfl ?_
  refine pm_R_op pm_M0 (pc' := 473) (st' := [.int (Int32.ofNat (n + 3)), .ref 0, .int x2, .int x1, .ref 41]) (pm_q0_3 (Nat.le_of_ble_eq_true rfl)) (congrArg (fun z => some (Value.int z :: [.ref 0, .int x2, .int x1, .ref 41])) (p2_ad (n := n) (c := 3) (k := 3) rfl)) rfl ?_
  refine pm_R_iald pm_M0 (pc' := 474) (v := x3) (pm_q0_3 (Nat.le_of_ble_eq_true rfl)) ((T.old (by decide)).trans e0) (T.lt (by decide)) (p2_in (by omega) hL) v3 rfl ?_
  refine pm_R_cv pm_M0 (pc' := 477) (a := 41) (ra := [.int x3, .int x2, .int x1]) (rest := []) (ls' := [.ref 41, .int x1, .int x2, .int x3]) (pm_q0_3 (Nat.le_of_ble_eq_true rfl)) rfl (Or.inl rfl) pm_M197 Tr.2.1 rfl (by decide) (Nat.lt_of_lt_of_le (by decide) Tr.1) rfl rfl (Nat.le_of_ble_eq_true rfl) rfl rfl ?_
  refine ex_inj WW KK rfl ?_
  refine rf_c197 Tr (fun r2 m1 w1 h1 T1 F1 W1 => ?_)
  intro WW KK
  show pm_R 100 0 477 [.ref 0, .ref 16, .ref 41, .int (Int32.ofNat n)] [.int r2] _ _
  have RR := R2_rf F1 (by decide) RR
  have I := p2_rf G T Y e0 S R hc T1 F1 (by decide)
  refine pm_R_op pm_M0 (pc' := 478) (st' := []) (pm_q0_3 (Nat.le_of_ble_eq_true rfl)) rfl rfl ?_
  refine pm_R_br pm_M0 (pc' := 2117) (pm_q0_4 (Nat.le_of_ble_eq_true rfl)) rfl ?_
  exact K _ ⟨I, WW, KK, RR⟩

set_option maxRecDepth 100000 in
set_option maxHeartbeats 4000000 in
theorem p6_k7 {L n j : Nat} {xs : Nat → Int32} {h : pm_H} {Q : Option Value → pm_H → Prop} (I : p6_I L xs j h) (hn : n + 7 ≤ L) (hL : L ≤ 3584) (K : ∀ h', p6_I L xs (j + 1) h' → pm_R 100 0 2117 [.ref 0, .ref 16, .ref 41, .int (Int32.ofNat n)] [] h' Q) : pm_R 100 0 481 [.ref 0, .ref 16, .ref 41, .int (Int32.ofNat n)] [] h Q := by
  obtain ⟨x1, v1⟩ : ∃ y, xs (Int32.toNatClampNeg (Int32.ofNat (n + 1))) = y := ⟨_, rfl⟩
  obtain ⟨x2, v2⟩ : ∃ y, xs (Int32.toNatClampNeg (Int32.ofNat (n + 2))) = y := ⟨_, rfl⟩
  obtain ⟨I, WW, KK, RR⟩ := I
  obtain ⟨ck, E, m, o, mr, wr, G, T, Tr, Y, e0, S, R, hc⟩ := I
  refine pm_R_lo pm_M0 (pc' := 482) (pm_q0_4 (Nat.le_of_ble_eq_true rfl)) rfl rfl ?_
  refine pm_R_lo pm_M0 (pc' := 483) (pm_q0_4 (Nat.le_of_ble_eq_true rfl)) rfl rfl ?_
  refine pm_R_lo pm_M0 (pc' := 484) (pm_q0_4 (Nat.le_of_ble_eq_true rfl)) rfl rfl ?_
  refine pm_R_op pm_M0 (pc' := 485) (st' := [.int 1, .int (Int32.ofNat n), .ref 0, .ref 16]) (pm_q0_4 (Nat.le_of_ble_eq_true rfl)) rfl rfl ?_
  refine pm_R_op pm_M0 (pc' := 486) (st' := [.int (Int32.ofNat (n + 1)), .ref 0, .ref 16]) (pm_q0_4 (Nat.le_of_ble_eq_true rfl)) (congrArg (fun z => some (Value.int z :: [.ref 0, .ref 16])) (p2_ad (n := n) (c := 1) (k := 1) rfl)) rfl ?_
  refine pm_R_iald pm_M0 (pc' := 487) (v := x1) (pm_q0_4 (Nat.le_of_ble_eq_true rfl)) ((T.old (by decide)).trans e0) (T.lt (by decide)) (p2_in (by omega) hL) v1 rfl ?_
  refine pm_R_lo pm_M0 (pc' := 488) (pm_q0_4 (Nat.le_of_ble_eq_true rfl)) rfl rfl ?_
  refine pm_R_lo pm_M0 (pc' := 489) (pm_q0_4 (Nat.le_of_ble_eq_true rfl)) rfl rfl ?_
  refine pm_R_op pm_M0 (pc' := 490) (st' := [.int 2, .int (Int32.ofNat n), .ref 0, .int x1, .ref 16]) (pm_q0_4 (Nat.le_of_ble_eq_true rfl)) rfl rfl ?_
  refine pm_R_op pm_M0 (pc' := 491) (st' := [.int (Int32.ofNat (n + 2)), .ref 0, .int x1, .ref 16]) (pm_q0_4 (Nat.le_of_ble_eq_true rfl)) (congrArg (fun z => some (Value.int z :: [.ref 0, .int x1, .ref 16])) (p2_ad (n := n) (c := 2) (k := 2) rfl)) rfl ?_
  refine pm_R_iald pm_M0 (pc' := 492) (v := x2) (pm_q0_4 (Nat.le_of_ble_eq_true rfl)) ((T.old (by decide)).trans e0) (T.lt (by decide)) (p2_in (by omega) hL) v2 rfl ?_
  refine pm_R_cv pm_M0 (pc' := 495) (a := 16) (ra := [.int x2, .int x1]) (rest := []) (ls' := [.ref 16, .int x1, .int x2, pm_no]) (pm_q0_4 (Nat.le_of_ble_eq_true rfl)) rfl (Or.inl rfl) pm_M65 T.e16 rfl (by decide) (T.lt (by decide)) rfl rfl (Nat.le_of_ble_eq_true rfl) rfl rfl ?_
  refine ex_inj WW KK rfl ?_
  refine cl_c65 G T (fun r1 _ => ?_)
  intro WW KK
  show pm_R 100 0 495 [.ref 0, .ref 16, .ref 41, .int (Int32.ofNat n)] [.int r1] _ _
  have I := p2_up (⟨ck, E, m, o, mr, wr, G, T, Tr, Y, e0, S, R, hc⟩ : p2_I L xs j h)
  obtain ⟨ck, E, m, o, mr, wr, G, T, Tr, Y, e0, S, R, hc⟩ := I
  refine pm_R_op pm_M0 (pc' := 496) (st' := []) (pm_q0_4 (Nat.le_of_ble_eq_true rfl)) rfl rfl ?_
  refine pm_R_lo pm_M0 (pc' := 497) (pm_q0_4 (Nat.le_of_ble_eq_true rfl)) rfl rfl ?_
  refine pm_R_lo pm_M0 (pc' := 498) (pm_q0_4 (Nat.le_of_ble_eq_true rfl)) rfl rfl ?_
  refine pm_R_lo pm_M0 (pc' := 499) (pm_q0_4 (Nat.le_of_ble_eq_true rfl)) rfl rfl ?_
  refine pm_R_op pm_M0 (pc' := 500) (st' := [.int 1, .int (Int32.ofNat n), .ref 0, .ref 41]) (pm_q0_4 (Nat.le_of_ble_eq_true rfl)) rfl rfl ?_
  refine pm_R_op pm_M0 (pc' := 501) (st' := [.int (Int32.ofNat (n + 1)), .ref 0, .ref 41]) (pm_q0_4 (Nat.le_of_ble_eq_true rfl)) (congrArg (fun z => some (Value.int z :: [.ref 0, .ref 41])) (p2_ad (n := n) (c := 1) (k := 1) rfl)) rfl ?_
  refine pm_R_iald pm_M0 (pc' := 502) (v := x1) (pm_q0_4 (Nat.le_of_ble_eq_true rfl)) ((T.old (by decide)).trans e0) (T.lt (by decide)) (p2_in (by omega) hL) v1 rfl ?_
  refine pm_R_lo pm_M0 (pc' := 503) (pm_q0_4 (Nat.le_of_ble_eq_true rfl)) rfl rfl ?_
  refine pm_R_lo pm_M0 (pc' := 504) (pm_q0_4 (Nat.le_of_ble_eq_true rfl)) rfl rfl ?_
  refine pm_R_op pm_M0 (pc' := 505) (st' := [.int 2, .int (Int32.ofNat n), .ref 0, .int x1, .ref 41]) (pm_q0_4 (Nat.le_of_ble_eq_true rfl)) rfl rfl ?_
  refine pm_R_op pm_M0 (pc' := 506) (st' := [.int (Int32.ofNat (n + 2)), .ref 0, .int x1, .ref 41]) (pm_q0_4 (Nat.le_of_ble_eq_true rfl)) (congrArg (fun z => some (Value.int z :: [.ref 0, .int x1, .ref 41])) (p2_ad (n := n) (c := 2) (k := 2) rfl)) rfl ?_
  refine pm_R_iald pm_M0 (pc' := 507) (v := x2) (pm_q0_4 (Nat.le_of_ble_eq_true rfl)) ((T.old (by decide)).trans e0) (T.lt (by decide)) (p2_in (by omega) hL) v2 rfl ?_
  refine pm_R_cv pm_M0 (pc' := 510) (a := 41) (ra := [.int x2, .int x1]) (rest := []) (ls' := [.ref 41, .int x1, .int x2]) (pm_q0_4 (Nat.le_of_ble_eq_true rfl)) rfl (Or.inl rfl) pm_M198 Tr.2.1 rfl (by decide) (Nat.lt_of_lt_of_le (by decide) Tr.1) rfl rfl (Nat.le_of_ble_eq_true rfl) rfl rfl ?_
  refine ex_inj WW KK rfl ?_
  refine rf_c198 Tr (fun r2 m1 w1 h1 T1 F1 W1 _ => ?_)
  intro WW KK
  show pm_R 100 0 510 [.ref 0, .ref 16, .ref 41, .int (Int32.ofNat n)] [.int r2] _ _
  have RR := R2_rf F1 (by decide) RR
  have I := p2_rf G T Y e0 S R hc T1 F1 (by decide)
  refine pm_R_op pm_M0 (pc' := 511) (st' := []) (pm_q0_4 (Nat.le_of_ble_eq_true rfl)) rfl rfl ?_
  refine pm_R_br pm_M0 (pc' := 2117) (pm_q0_4 (Nat.le_of_ble_eq_true rfl)) rfl ?_
  exact K _ ⟨I, WW, KK, RR⟩

set_option maxRecDepth 100000 in
set_option maxHeartbeats 4000000 in
theorem p6_k8 {L n j : Nat} {xs : Nat → Int32} {h : pm_H} {Q : Option Value → pm_H → Prop} (I : p6_I L xs j h) (hn : n + 7 ≤ L) (hL : L ≤ 3584) (K : ∀ h', p6_I L xs (j + 1) h' → pm_R 100 0 2117 [.ref 0, .ref 16, .ref 41, .int (Int32.ofNat n)] [] h' Q) : pm_R 100 0 514 [.ref 0, .ref 16, .ref 41, .int (Int32.ofNat n)] [] h Q := by
  obtain ⟨x1, v1⟩ : ∃ y, xs (Int32.toNatClampNeg (Int32.ofNat (n + 1))) = y := ⟨_, rfl⟩
  obtain ⟨x2, v2⟩ : ∃ y, xs (Int32.toNatClampNeg (Int32.ofNat (n + 2))) = y := ⟨_, rfl⟩
  obtain ⟨x3, v3⟩ : ∃ y, xs (Int32.toNatClampNeg (Int32.ofNat (n + 3))) = y := ⟨_, rfl⟩
  obtain ⟨x4, v4⟩ : ∃ y, xs (Int32.toNatClampNeg (Int32.ofNat (n + 4))) = y := ⟨_, rfl⟩
  obtain ⟨x5, v5⟩ : ∃ y, xs (Int32.toNatClampNeg (Int32.ofNat (n + 5))) = y := ⟨_, rfl⟩
  obtain ⟨I, WW, KK, RR⟩ := I
  obtain ⟨ck, E, m, o, mr, wr, G, T, Tr, Y, e0, S, R, hc⟩ := I
  refine pm_R_lo pm_M0 (pc' := 515) (pm_q0_4 (Nat.le_of_ble_eq_true rfl)) rfl rfl ?_
  refine pm_R_lo pm_M0 (pc' := 516) (pm_q0_4 (Nat.le_of_ble_eq_true rfl)) rfl rfl ?_
  refine pm_R_lo pm_M0 (pc' := 517) (pm_q0_4 (Nat.le_of_ble_eq_true rfl)) rfl rfl ?_
  refine pm_R_op pm_M0 (pc' := 518) (st' := [.int 1, .int (Int32.ofNat n), .ref 0, .ref 16]) (pm_q0_4 (Nat.le_of_ble_eq_true rfl)) rfl rfl ?_
  refine pm_R_op pm_M0 (pc' := 519) (st' := [.int (Int32.ofNat (n + 1)), .ref 0, .ref 16]) (pm_q0_4 (Nat.le_of_ble_eq_true rfl)) (congrArg (fun z => some (Value.int z :: [.ref 0, .ref 16])) (p2_ad (n := n) (c := 1) (k := 1) rfl)) rfl ?_
  refine pm_R_iald pm_M0 (pc' := 520) (v := x1) (pm_q0_4 (Nat.le_of_ble_eq_true rfl)) ((T.old (by decide)).trans e0) (T.lt (by decide)) (p2_in (by omega) hL) v1 rfl ?_
  refine pm_R_lo pm_M0 (pc' := 521) (pm_q0_4 (Nat.le_of_ble_eq_true rfl)) rfl rfl ?_
  refine pm_R_lo pm_M0 (pc' := 522) (pm_q0_4 (Nat.le_of_ble_eq_true rfl)) rfl rfl ?_
  refine pm_R_op pm_M0 (pc' := 523) (st' := [.int 2, .int (Int32.ofNat n), .ref 0, .int x1, .ref 16]) (pm_q0_4 (Nat.le_of_ble_eq_true rfl)) rfl rfl ?_
  refine pm_R_op pm_M0 (pc' := 524) (st' := [.int (Int32.ofNat (n + 2)), .ref 0, .int x1, .ref 16]) (pm_q0_4 (Nat.le_of_ble_eq_true rfl)) (congrArg (fun z => some (Value.int z :: [.ref 0, .int x1, .ref 16])) (p2_ad (n := n) (c := 2) (k := 2) rfl)) rfl ?_
  refine pm_R_iald pm_M0 (pc' := 525) (v := x2) (pm_q0_4 (Nat.le_of_ble_eq_true rfl)) ((T.old (by decide)).trans e0) (T.lt (by decide)) (p2_in (by omega) hL) v2 rfl ?_
  refine pm_R_lo pm_M0 (pc' := 526) (pm_q0_4 (Nat.le_of_ble_eq_true rfl)) rfl rfl ?_
  refine pm_R_lo pm_M0 (pc' := 527) (pm_q0_4 (Nat.le_of_ble_eq_true rfl)) rfl rfl ?_
  refine pm_R_op pm_M0 (pc' := 528) (st' := [.int 3, .int (Int32.ofNat n), .ref 0, .int x2, .int x1, .ref 16]) (pm_q0_4 (Nat.le_of_ble_eq_true rfl)) rfl rfl ?_
  refine pm_R_op pm_M0 (pc' := 529) (st' := [.int (Int32.ofNat (n + 3)), .ref 0, .int x2, .int x1, .ref 16]) (pm_q0_4 (Nat.le_of_ble_eq_true rfl)) (congrArg (fun z => some (Value.int z :: [.ref 0, .int x2, .int x1, .ref 16])) (p2_ad (n := n) (c := 3) (k := 3) rfl)) rfl ?_
  refine pm_R_iald pm_M0 (pc' := 530) (v := x3) (pm_q0_4 (Nat.le_of_ble_eq_true rfl)) ((T.old (by decide)).trans e0) (T.lt (by decide)) (p2_in (by omega) hL) v3 rfl ?_
  refine pm_R_lo pm_M0 (pc' := 531) (pm_q0_4 (Nat.le_of_ble_eq_true rfl)) rfl rfl ?_
  refine pm_R_lo pm_M0 (pc' := 532) (pm_q0_4 (Nat.le_of_ble_eq_true rfl)) rfl rfl ?_
  refine pm_R_op pm_M0 (pc' := 533) (st' := [.int 4, .int (Int32.ofNat n), .ref 0, .int x3, .int x2, .int x1, .ref 16]) (pm_q0_4 (Nat.le_of_ble_eq_true rfl)) rfl rfl ?_
  refine pm_R_op pm_M0 (pc' := 534) (st' := [.int (Int32.ofNat (n + 4)), .ref 0, .int x3, .int x2, .int x1, .ref 16]) (pm_q0_4 (Nat.le_of_ble_eq_true rfl)) (congrArg (fun z => some (Value.int z :: [.ref 0, .int x3, .int x2, .int x1, .ref 16])) (p2_ad (n := n) (c := 4) (k := 4) rfl)) rfl ?_
  refine pm_R_iald pm_M0 (pc' := 535) (v := x4) (pm_q0_4 (Nat.le_of_ble_eq_true rfl)) ((T.old (by decide)).trans e0) (T.lt (by decide)) (p2_in (by omega) hL) v4 rfl ?_
  refine pm_R_lo pm_M0 (pc' := 536) (pm_q0_4 (Nat.le_of_ble_eq_true rfl)) rfl rfl ?_
  refine pm_R_lo pm_M0 (pc' := 537) (pm_q0_4 (Nat.le_of_ble_eq_true rfl)) rfl rfl ?_
  refine pm_R_op pm_M0 (pc' := 538) (st' := [.int 5, .int (Int32.ofNat n), .ref 0, .int x4, .int x3, .int x2, .int x1, .ref 16]) (pm_q0_4 (Nat.le_of_ble_eq_true rfl)) rfl rfl ?_
  refine pm_R_op pm_M0 (pc' := 539) (st' := [.int (Int32.ofNat (n + 5)), .ref 0, .int x4, .int x3, .int x2, .int x1, .ref 16]) (pm_q0_4 (Nat.le_of_ble_eq_true rfl)) (congrArg (fun z => some (Value.int z :: [.ref 0, .int x4, .int x3, .int x2, .int x1, .ref 16])) (p2_ad (n := n) (c := 5) (k := 5) rfl)) rfl ?_
  refine pm_R_iald pm_M0 (pc' := 540) (v := x5) (pm_q0_4 (Nat.le_of_ble_eq_true rfl)) ((T.old (by decide)).trans e0) (T.lt (by decide)) (p2_in (by omega) hL) v5 rfl ?_
  refine pm_R_cv pm_M0 (pc' := 543) (a := 16) (ra := [.int x5, .int x4, .int x3, .int x2, .int x1]) (rest := []) (ls' := [.ref 16, .int x1, .int x2, .int x3, .int x4, .int x5, pm_no, pm_no]) (pm_q0_4 (Nat.le_of_ble_eq_true rfl)) rfl (Or.inl rfl) pm_M68 T.e16 rfl (by decide) (T.lt (by decide)) rfl rfl (Nat.le_of_ble_eq_true rfl) rfl rfl ?_
  refine ex_inj WW KK rfl ?_
  refine cl_c68 G T (fun r1 m1 o1 h1 T1 F1 W1 => ?_)
  intro WW KK
  show pm_R 100 0 543 [.ref 0, .ref 16, .ref 41, .int (Int32.ofNat n)] [.long r1] _ _
  have RR := R2_cl G T F1 (by decide) RR
  have I := p2_cl (j := j) G T Tr Y e0 S R hc T1 F1 (W1 0 (by decide)) (by decide) (by decide) (by decide) (by decide) (by decide) (by decide) (by decide)
  obtain ⟨ck, E, m, o, mr, wr, G, T, Tr, Y, e0, S, R, hc⟩ := I
  refine pm_R_op pm_M0 (pc' := 544) (st' := []) (pm_q0_4 (Nat.le_of_ble_eq_true rfl)) rfl rfl ?_
  refine pm_R_lo pm_M0 (pc' := 545) (pm_q0_4 (Nat.le_of_ble_eq_true rfl)) rfl rfl ?_
  refine pm_R_lo pm_M0 (pc' := 546) (pm_q0_4 (Nat.le_of_ble_eq_true rfl)) rfl rfl ?_
  refine pm_R_lo pm_M0 (pc' := 547) (pm_q0_4 (Nat.le_of_ble_eq_true rfl)) rfl rfl ?_
  refine pm_R_op pm_M0 (pc' := 548) (st' := [.int 1, .int (Int32.ofNat n), .ref 0, .ref 41]) (pm_q0_4 (Nat.le_of_ble_eq_true rfl)) rfl rfl ?_
  refine pm_R_op pm_M0 (pc' := 549) (st' := [.int (Int32.ofNat (n + 1)), .ref 0, .ref 41]) (pm_q0_5 (Nat.le_of_ble_eq_true rfl)) (congrArg (fun z => some (Value.int z :: [.ref 0, .ref 41])) (p2_ad (n := n) (c := 1) (k := 1) rfl)) rfl ?_
  refine pm_R_iald pm_M0 (pc' := 550) (v := x1) (pm_q0_5 (Nat.le_of_ble_eq_true rfl)) ((T.old (by decide)).trans e0) (T.lt (by decide)) (p2_in (by omega) hL) v1 rfl ?_
  refine pm_R_lo pm_M0 (pc' := 551) (pm_q0_5 (Nat.le_of_ble_eq_true rfl)) rfl rfl ?_
  refine pm_R_lo pm_M0 (pc' := 552) (pm_q0_5 (Nat.le_of_ble_eq_true rfl)) rfl rfl ?_
  refine pm_R_op pm_M0 (pc' := 553) (st' := [.int 2, .int (Int32.ofNat n), .ref 0, .int x1, .ref 41]) (pm_q0_5 (Nat.le_of_ble_eq_true rfl)) rfl rfl ?_
  refine pm_R_op pm_M0 (pc' := 554) (st' := [.int (Int32.ofNat (n + 2)), .ref 0, .int x1, .ref 41]) (pm_q0_5 (Nat.le_of_ble_eq_true rfl)) (congrArg (fun z => some (Value.int z :: [.ref 0, .int x1, .ref 41])) (p2_ad (n := n) (c := 2) (k := 2) rfl)) rfl ?_
  refine pm_R_iald pm_M0 (pc' := 555) (v := x2) (pm_q0_5 (Nat.le_of_ble_eq_true rfl)) ((T.old (by decide)).trans e0) (T.lt (by decide)) (p2_in (by omega) hL) v2 rfl ?_
  refine pm_R_lo pm_M0 (pc' := 556) (pm_q0_5 (Nat.le_of_ble_eq_true rfl)) rfl rfl ?_
  refine pm_R_lo pm_M0 (pc' := 557) (pm_q0_5 (Nat.le_of_ble_eq_true rfl)) rfl rfl ?_
  refine pm_R_op pm_M0 (pc' := 558) (st' := [.int 3, .int (Int32.ofNat n), .ref 0, .int x2, .int x1, .ref 41]) (pm_q0_5 (Nat.le_of_ble_eq_true rfl)) rfl rfl ?_
  refine pm_R_op pm_M0 (pc' := 559) (st' := [.int (Int32.ofNat (n + 3)), .ref 0, .int x2, .int x1, .ref 41]) (pm_q0_5 (Nat.le_of_ble_eq_true rfl)) (congrArg (fun z => some (Value.int z :: [.ref 0, .int x2, .int x1, .ref 41])) (p2_ad (n := n) (c := 3) (k := 3) rfl)) rfl ?_
  refine pm_R_iald pm_M0 (pc' := 560) (v := x3) (pm_q0_5 (Nat.le_of_ble_eq_true rfl)) ((T.old (by decide)).trans e0) (T.lt (by decide)) (p2_in (by omega) hL) v3 rfl ?_
  refine pm_R_lo pm_M0 (pc' := 561) (pm_q0_5 (Nat.le_of_ble_eq_true rfl)) rfl rfl ?_
  refine pm_R_lo pm_M0 (pc' := 562) (pm_q0_5 (Nat.le_of_ble_eq_true rfl)) rfl rfl ?_
  refine pm_R_op pm_M0 (pc' := 563) (st' := [.int 4, .int (Int32.ofNat n), .ref 0, .int x3, .int x2, .int x1, .ref 41]) (pm_q0_5 (Nat.le_of_ble_eq_true rfl)) rfl rfl ?_
  refine pm_R_op pm_M0 (pc' := 564) (st' := [.int (Int32.ofNat (n + 4)), .ref 0, .int x3, .int x2, .int x1, .ref 41]) (pm_q0_5 (Nat.le_of_ble_eq_true rfl)) (congrArg (fun z => some (Value.int z :: [.ref 0, .int x3, .int x2, .int x1, .ref 41])) (p2_ad (n := n) (c := 4) (k := 4) rfl)) rfl ?_
  refine pm_R_iald pm_M0 (pc' := 565) (v := x4) (pm_q0_5 (Nat.le_of_ble_eq_true rfl)) ((T.old (by decide)).trans e0) (T.lt (by decide)) (p2_in (by omega) hL) v4 rfl ?_
  refine pm_R_lo pm_M0 (pc' := 566) (pm_q0_5 (Nat.le_of_ble_eq_true rfl)) rfl rfl ?_
  refine pm_R_lo pm_M0 (pc' := 567) (pm_q0_5 (Nat.le_of_ble_eq_true rfl)) rfl rfl ?_
  refine pm_R_op pm_M0 (pc' := 568) (st' := [.int 5, .int (Int32.ofNat n), .ref 0, .int x4, .int x3, .int x2, .int x1, .ref 41]) (pm_q0_5 (Nat.le_of_ble_eq_true rfl)) rfl rfl ?_
  refine pm_R_op pm_M0 (pc' := 569) (st' := [.int (Int32.ofNat (n + 5)), .ref 0, .int x4, .int x3, .int x2, .int x1, .ref 41]) (pm_q0_5 (Nat.le_of_ble_eq_true rfl)) (congrArg (fun z => some (Value.int z :: [.ref 0, .int x4, .int x3, .int x2, .int x1, .ref 41])) (p2_ad (n := n) (c := 5) (k := 5) rfl)) rfl ?_
  refine pm_R_iald pm_M0 (pc' := 570) (v := x5) (pm_q0_5 (Nat.le_of_ble_eq_true rfl)) ((T.old (by decide)).trans e0) (T.lt (by decide)) (p2_in (by omega) hL) v5 rfl ?_
  refine pm_R_cv pm_M0 (pc' := 573) (a := 41) (ra := [.int x5, .int x4, .int x3, .int x2, .int x1]) (rest := []) (ls' := [.ref 41, .int x1, .int x2, .int x3, .int x4, .int x5]) (pm_q0_5 (Nat.le_of_ble_eq_true rfl)) rfl (Or.inl rfl) pm_M199 Tr.2.1 rfl (by decide) (Nat.lt_of_lt_of_le (by decide) Tr.1) rfl rfl (Nat.le_of_ble_eq_true rfl) rfl rfl ?_
  refine ex_inj WW KK rfl ?_
  refine rf_c199 Tr (fun r2 m1 w1 h1 T1 F1 W1 _ => ?_)
  intro WW KK
  show pm_R 100 0 573 [.ref 0, .ref 16, .ref 41, .int (Int32.ofNat n)] [.long r2] _ _
  have RR := R2_rf F1 (by decide) RR
  have I := p2_rf G T Y e0 S R hc T1 F1 (by decide)
  refine pm_R_op pm_M0 (pc' := 574) (st' := []) (pm_q0_5 (Nat.le_of_ble_eq_true rfl)) rfl rfl ?_
  refine pm_R_br pm_M0 (pc' := 2117) (pm_q0_5 (Nat.le_of_ble_eq_true rfl)) rfl ?_
  exact K _ ⟨I, WW, KK, RR⟩

set_option maxRecDepth 100000 in
set_option maxHeartbeats 4000000 in
theorem p6_k9 {L n j : Nat} {xs : Nat → Int32} {h : pm_H} {Q : Option Value → pm_H → Prop} (I : p6_I L xs j h) (hn : n + 7 ≤ L) (hL : L ≤ 3584) (K : ∀ h', p6_I L xs (j + 1) h' → pm_R 100 0 2117 [.ref 0, .ref 16, .ref 41, .int (Int32.ofNat n)] [] h' Q) : pm_R 100 0 577 [.ref 0, .ref 16, .ref 41, .int (Int32.ofNat n)] [] h Q := by
  obtain ⟨x1, v1⟩ : ∃ y, xs (Int32.toNatClampNeg (Int32.ofNat (n + 1))) = y := ⟨_, rfl⟩
  obtain ⟨x2, v2⟩ : ∃ y, xs (Int32.toNatClampNeg (Int32.ofNat (n + 2))) = y := ⟨_, rfl⟩
  obtain ⟨x3, v3⟩ : ∃ y, xs (Int32.toNatClampNeg (Int32.ofNat (n + 3))) = y := ⟨_, rfl⟩
  obtain ⟨I, WW, KK, RR⟩ := I
  obtain ⟨ck, E, m, o, mr, wr, G, T, Tr, Y, e0, S, R, hc⟩ := I
  refine pm_R_lo pm_M0 (pc' := 578) (pm_q0_5 (Nat.le_of_ble_eq_true rfl)) rfl rfl ?_
  refine pm_R_lo pm_M0 (pc' := 579) (pm_q0_5 (Nat.le_of_ble_eq_true rfl)) rfl rfl ?_
  refine pm_R_lo pm_M0 (pc' := 580) (pm_q0_5 (Nat.le_of_ble_eq_true rfl)) rfl rfl ?_
  refine pm_R_op pm_M0 (pc' := 581) (st' := [.int 1, .int (Int32.ofNat n), .ref 0, .ref 16]) (pm_q0_5 (Nat.le_of_ble_eq_true rfl)) rfl rfl ?_
  refine pm_R_op pm_M0 (pc' := 582) (st' := [.int (Int32.ofNat (n + 1)), .ref 0, .ref 16]) (pm_q0_5 (Nat.le_of_ble_eq_true rfl)) (congrArg (fun z => some (Value.int z :: [.ref 0, .ref 16])) (p2_ad (n := n) (c := 1) (k := 1) rfl)) rfl ?_
  refine pm_R_iald pm_M0 (pc' := 583) (v := x1) (pm_q0_5 (Nat.le_of_ble_eq_true rfl)) ((T.old (by decide)).trans e0) (T.lt (by decide)) (p2_in (by omega) hL) v1 rfl ?_
  refine pm_R_lo pm_M0 (pc' := 584) (pm_q0_5 (Nat.le_of_ble_eq_true rfl)) rfl rfl ?_
  refine pm_R_lo pm_M0 (pc' := 585) (pm_q0_5 (Nat.le_of_ble_eq_true rfl)) rfl rfl ?_
  refine pm_R_op pm_M0 (pc' := 586) (st' := [.int 2, .int (Int32.ofNat n), .ref 0, .int x1, .ref 16]) (pm_q0_5 (Nat.le_of_ble_eq_true rfl)) rfl rfl ?_
  refine pm_R_op pm_M0 (pc' := 587) (st' := [.int (Int32.ofNat (n + 2)), .ref 0, .int x1, .ref 16]) (pm_q0_5 (Nat.le_of_ble_eq_true rfl)) (congrArg (fun z => some (Value.int z :: [.ref 0, .int x1, .ref 16])) (p2_ad (n := n) (c := 2) (k := 2) rfl)) rfl ?_
  refine pm_R_iald pm_M0 (pc' := 588) (v := x2) (pm_q0_5 (Nat.le_of_ble_eq_true rfl)) ((T.old (by decide)).trans e0) (T.lt (by decide)) (p2_in (by omega) hL) v2 rfl ?_
  refine pm_R_lo pm_M0 (pc' := 589) (pm_q0_5 (Nat.le_of_ble_eq_true rfl)) rfl rfl ?_
  refine pm_R_lo pm_M0 (pc' := 590) (pm_q0_5 (Nat.le_of_ble_eq_true rfl)) rfl rfl ?_
  refine pm_R_op pm_M0 (pc' := 591) (st' := [.int 3, .int (Int32.ofNat n), .ref 0, .int x2, .int x1, .ref 16]) (pm_q0_5 (Nat.le_of_ble_eq_true rfl)) rfl rfl ?_
  refine pm_R_op pm_M0 (pc' := 592) (st' := [.int (Int32.ofNat (n + 3)), .ref 0, .int x2, .int x1, .ref 16]) (pm_q0_5 (Nat.le_of_ble_eq_true rfl)) (congrArg (fun z => some (Value.int z :: [.ref 0, .int x2, .int x1, .ref 16])) (p2_ad (n := n) (c := 3) (k := 3) rfl)) rfl ?_
  refine pm_R_iald pm_M0 (pc' := 593) (v := x3) (pm_q0_5 (Nat.le_of_ble_eq_true rfl)) ((T.old (by decide)).trans e0) (T.lt (by decide)) (p2_in (by omega) hL) v3 rfl ?_
  refine pm_R_cv pm_M0 (pc' := 596) (a := 16) (ra := [.int x3, .int x2, .int x1]) (rest := []) (ls' := [.ref 16, .int x1, .int x2, .int x3, pm_no, pm_no]) (pm_q0_5 (Nat.le_of_ble_eq_true rfl)) rfl (Or.inl rfl) pm_M97 T.e16 rfl (by decide) (T.lt (by decide)) rfl rfl (Nat.le_of_ble_eq_true rfl) rfl rfl ?_
  refine ex_inj WW KK rfl ?_
  refine cl_c97 G T (fun r1 m1 h1 T1 F1 W1 _ => ?_)
  intro WW KK
  show pm_R 100 0 596 [.ref 0, .ref 16, .ref 41, .int (Int32.ofNat n)] [.int r1] _ _
  have RR := R2_cl G T F1 (by decide) RR
  have I := p2_cl (j := j) G T Tr Y e0 S R hc T1 F1 (W1 0 (by decide)) (by decide) (by decide) (by decide) (by decide) (by decide) (by decide) (by decide)
  obtain ⟨ck, E, m, o, mr, wr, G, T, Tr, Y, e0, S, R, hc⟩ := I
  refine pm_R_op pm_M0 (pc' := 597) (st' := []) (pm_q0_5 (Nat.le_of_ble_eq_true rfl)) rfl rfl ?_
  refine pm_R_lo pm_M0 (pc' := 598) (pm_q0_5 (Nat.le_of_ble_eq_true rfl)) rfl rfl ?_
  refine pm_R_lo pm_M0 (pc' := 599) (pm_q0_5 (Nat.le_of_ble_eq_true rfl)) rfl rfl ?_
  refine pm_R_lo pm_M0 (pc' := 600) (pm_q0_5 (Nat.le_of_ble_eq_true rfl)) rfl rfl ?_
  refine pm_R_op pm_M0 (pc' := 601) (st' := [.int 1, .int (Int32.ofNat n), .ref 0, .ref 41]) (pm_q0_5 (Nat.le_of_ble_eq_true rfl)) rfl rfl ?_
  refine pm_R_op pm_M0 (pc' := 602) (st' := [.int (Int32.ofNat (n + 1)), .ref 0, .ref 41]) (pm_q0_5 (Nat.le_of_ble_eq_true rfl)) (congrArg (fun z => some (Value.int z :: [.ref 0, .ref 41])) (p2_ad (n := n) (c := 1) (k := 1) rfl)) rfl ?_
  refine pm_R_iald pm_M0 (pc' := 603) (v := x1) (pm_q0_5 (Nat.le_of_ble_eq_true rfl)) ((T.old (by decide)).trans e0) (T.lt (by decide)) (p2_in (by omega) hL) v1 rfl ?_
  refine pm_R_lo pm_M0 (pc' := 604) (pm_q0_5 (Nat.le_of_ble_eq_true rfl)) rfl rfl ?_
  refine pm_R_lo pm_M0 (pc' := 605) (pm_q0_5 (Nat.le_of_ble_eq_true rfl)) rfl rfl ?_
  refine pm_R_op pm_M0 (pc' := 606) (st' := [.int 2, .int (Int32.ofNat n), .ref 0, .int x1, .ref 41]) (pm_q0_5 (Nat.le_of_ble_eq_true rfl)) rfl rfl ?_
  refine pm_R_op pm_M0 (pc' := 607) (st' := [.int (Int32.ofNat (n + 2)), .ref 0, .int x1, .ref 41]) (pm_q0_5 (Nat.le_of_ble_eq_true rfl)) (congrArg (fun z => some (Value.int z :: [.ref 0, .int x1, .ref 41])) (p2_ad (n := n) (c := 2) (k := 2) rfl)) rfl ?_
  refine pm_R_iald pm_M0 (pc' := 608) (v := x2) (pm_q0_5 (Nat.le_of_ble_eq_true rfl)) ((T.old (by decide)).trans e0) (T.lt (by decide)) (p2_in (by omega) hL) v2 rfl ?_
  refine pm_R_lo pm_M0 (pc' := 609) (pm_q0_5 (Nat.le_of_ble_eq_true rfl)) rfl rfl ?_
  refine pm_R_lo pm_M0 (pc' := 610) (pm_q0_5 (Nat.le_of_ble_eq_true rfl)) rfl rfl ?_
  refine pm_R_op pm_M0 (pc' := 611) (st' := [.int 3, .int (Int32.ofNat n), .ref 0, .int x2, .int x1, .ref 41]) (pm_q0_5 (Nat.le_of_ble_eq_true rfl)) rfl rfl ?_
  refine pm_R_op pm_M0 (pc' := 612) (st' := [.int (Int32.ofNat (n + 3)), .ref 0, .int x2, .int x1, .ref 41]) (pm_q0_5 (Nat.le_of_ble_eq_true rfl)) (congrArg (fun z => some (Value.int z :: [.ref 0, .int x2, .int x1, .ref 41])) (p2_ad (n := n) (c := 3) (k := 3) rfl)) rfl ?_
  refine pm_R_iald pm_M0 (pc' := 613) (v := x3) (pm_q0_5 (Nat.le_of_ble_eq_true rfl)) ((T.old (by decide)).trans e0) (T.lt (by decide)) (p2_in (by omega) hL) v3 rfl ?_
  refine pm_R_cv pm_M0 (pc' := 616) (a := 41) (ra := [.int x3, .int x2, .int x1]) (rest := []) (ls' := [.ref 41, .int x1, .int x2, .int x3]) (pm_q0_5 (Nat.le_of_ble_eq_true rfl)) rfl (Or.inl rfl) pm_M214 Tr.2.1 rfl (by decide) (Nat.lt_of_lt_of_le (by decide) Tr.1) rfl rfl (Nat.le_of_ble_eq_true rfl) rfl rfl ?_
  refine ex_inj WW KK rfl ?_
  refine rf_c214 Tr (fun r2 m1 w1 h1 T1 F1 W1 _ => ?_)
  intro WW KK
  show pm_R 100 0 616 [.ref 0, .ref 16, .ref 41, .int (Int32.ofNat n)] [.int r2] _ _
  have RR := R2_rf F1 (by decide) RR
  have I := p2_rf G T Y e0 S R hc T1 F1 (by decide)
  refine pm_R_op pm_M0 (pc' := 617) (st' := []) (pm_q0_6 (Nat.le_of_ble_eq_true rfl)) rfl rfl ?_
  refine pm_R_br pm_M0 (pc' := 2117) (pm_q0_6 (Nat.le_of_ble_eq_true rfl)) rfl ?_
  exact K _ ⟨I, WW, KK, RR⟩

set_option maxRecDepth 100000 in
set_option maxHeartbeats 4000000 in
theorem p6_k10 {L n j : Nat} {xs : Nat → Int32} {h : pm_H} {Q : Option Value → pm_H → Prop} (I : p6_I L xs j h) (hn : n + 7 ≤ L) (hL : L ≤ 3584) (K : ∀ h', p6_I L xs (j + 1) h' → pm_R 100 0 2117 [.ref 0, .ref 16, .ref 41, .int (Int32.ofNat n)] [] h' Q) : pm_R 100 0 620 [.ref 0, .ref 16, .ref 41, .int (Int32.ofNat n)] [] h Q := by
  obtain ⟨x1, v1⟩ : ∃ y, xs (Int32.toNatClampNeg (Int32.ofNat (n + 1))) = y := ⟨_, rfl⟩
  obtain ⟨x2, v2⟩ : ∃ y, xs (Int32.toNatClampNeg (Int32.ofNat (n + 2))) = y := ⟨_, rfl⟩
  obtain ⟨x3, v3⟩ : ∃ y, xs (Int32.toNatClampNeg (Int32.ofNat (n + 3))) = y := ⟨_, rfl⟩
  obtain ⟨I, WW, KK, RR⟩ := I
  obtain ⟨ck, E, m, o, mr, wr, G, T, Tr, Y, e0, S, R, hc⟩ := I
  refine pm_R_lo pm_M0 (pc' := 621) (pm_q0_6 (Nat.le_of_ble_eq_true rfl)) rfl rfl ?_
  refine pm_R_lo pm_M0 (pc' := 622) (pm_q0_6 (Nat.le_of_ble_eq_true rfl)) rfl rfl ?_
  refine pm_R_lo pm_M0 (pc' := 623) (pm_q0_6 (Nat.le_of_ble_eq_true rfl)) rfl rfl ?_
  refine pm_R_op pm_M0 (pc' := 624) (st' := [.int 1, .int (Int32.ofNat n), .ref 0, .ref 16]) (pm_q0_6 (Nat.le_of_ble_eq_true rfl)) rfl rfl ?_
  refine pm_R_op pm_M0 (pc' := 625) (st' := [.int (Int32.ofNat (n + 1)), .ref 0, .ref 16]) (pm_q0_6 (Nat.le_of_ble_eq_true rfl)) (congrArg (fun z => some (Value.int z :: [.ref 0, .ref 16])) (p2_ad (n := n) (c := 1) (k := 1) rfl)) rfl ?_
  refine pm_R_iald pm_M0 (pc' := 626) (v := x1) (pm_q0_6 (Nat.le_of_ble_eq_true rfl)) ((T.old (by decide)).trans e0) (T.lt (by decide)) (p2_in (by omega) hL) v1 rfl ?_
  refine pm_R_lo pm_M0 (pc' := 627) (pm_q0_6 (Nat.le_of_ble_eq_true rfl)) rfl rfl ?_
  refine pm_R_lo pm_M0 (pc' := 628) (pm_q0_6 (Nat.le_of_ble_eq_true rfl)) rfl rfl ?_
  refine pm_R_op pm_M0 (pc' := 629) (st' := [.int 2, .int (Int32.ofNat n), .ref 0, .int x1, .ref 16]) (pm_q0_6 (Nat.le_of_ble_eq_true rfl)) rfl rfl ?_
  refine pm_R_op pm_M0 (pc' := 630) (st' := [.int (Int32.ofNat (n + 2)), .ref 0, .int x1, .ref 16]) (pm_q0_6 (Nat.le_of_ble_eq_true rfl)) (congrArg (fun z => some (Value.int z :: [.ref 0, .int x1, .ref 16])) (p2_ad (n := n) (c := 2) (k := 2) rfl)) rfl ?_
  refine pm_R_iald pm_M0 (pc' := 631) (v := x2) (pm_q0_6 (Nat.le_of_ble_eq_true rfl)) ((T.old (by decide)).trans e0) (T.lt (by decide)) (p2_in (by omega) hL) v2 rfl ?_
  refine pm_R_lo pm_M0 (pc' := 632) (pm_q0_6 (Nat.le_of_ble_eq_true rfl)) rfl rfl ?_
  refine pm_R_lo pm_M0 (pc' := 633) (pm_q0_6 (Nat.le_of_ble_eq_true rfl)) rfl rfl ?_
  refine pm_R_op pm_M0 (pc' := 634) (st' := [.int 3, .int (Int32.ofNat n), .ref 0, .int x2, .int x1, .ref 16]) (pm_q0_6 (Nat.le_of_ble_eq_true rfl)) rfl rfl ?_
  refine pm_R_op pm_M0 (pc' := 635) (st' := [.int (Int32.ofNat (n + 3)), .ref 0, .int x2, .int x1, .ref 16]) (pm_q0_6 (Nat.le_of_ble_eq_true rfl)) (congrArg (fun z => some (Value.int z :: [.ref 0, .int x2, .int x1, .ref 16])) (p2_ad (n := n) (c := 3) (k := 3) rfl)) rfl ?_
  refine pm_R_iald pm_M0 (pc' := 636) (v := x3) (pm_q0_6 (Nat.le_of_ble_eq_true rfl)) ((T.old (by decide)).trans e0) (T.lt (by decide)) (p2_in (by omega) hL) v3 rfl ?_
  refine pm_R_cv pm_M0 (pc' := 639) (a := 16) (ra := [.int x3, .int x2, .int x1]) (rest := []) (ls' := [.ref 16, .int x1, .int x2, .int x3, pm_no, pm_no]) (pm_q0_6 (Nat.le_of_ble_eq_true rfl)) rfl (Or.inl rfl) pm_M81 T.e16 rfl (by decide) (T.lt (by decide)) rfl rfl (Nat.le_of_ble_eq_true rfl) rfl rfl ?_
  suffices go : ∀ (r1 : Int64) (h1 : pm_H), p2_I L xs (j + 1) h1 → ex_W h1 → ex_K h1 → R2 (ex_V h1) → pm_R 100 0 639 [.ref 0, .ref 16, .ref 41, .int (Int32.ofNat n)] [.long r1] h1 Q by
    refine ex_inj WW KK rfl ?_
    refine cl_c81_x G T (fun r1 m1 o1 h1 T1 F1 W1 X1 => ?_) (fun r1 m1 o1 ck1 h1 A1 G1 T1 F1 W1 X1 => ?_)
    · exact fun WW KK => go _ _ (p2_clg (j := j) G T Tr S hc G T1 e0 (Y.cl G F1 (by decide)) (by obtain ⟨f, e, b⟩ := R; exact ⟨f, F1.cell G (by decide) (by decide) e, by omega⟩) F1 (W1 0 (by decide)) (by decide) (by decide) (by decide)) WW KK (R2_cl G T F1 (by decide) RR)
    · exact fun WW KK => go _ _ (p2_clg (j := j) G T Tr S hc G1 T1 e0 (Y.cl G F1 (by decide)) (by obtain ⟨f, e, b⟩ := R; exact ⟨f, F1.cell G (by decide) (by decide) e, by omega⟩) F1 (W1 0 (by decide)) (by decide) (by decide) (by decide)) WW KK (R2_cl G T F1 (by decide) RR)
  intro r1 h1 I WW KK RR
  obtain ⟨ck, E, m, o, mr, wr, G, T, Tr, Y, e0, S, R, hc⟩ := I
  refine pm_R_op pm_M0 (pc' := 640) (st' := []) (pm_q0_6 (Nat.le_of_ble_eq_true rfl)) rfl rfl ?_
  refine pm_R_lo pm_M0 (pc' := 641) (pm_q0_6 (Nat.le_of_ble_eq_true rfl)) rfl rfl ?_
  refine pm_R_lo pm_M0 (pc' := 642) (pm_q0_6 (Nat.le_of_ble_eq_true rfl)) rfl rfl ?_
  refine pm_R_lo pm_M0 (pc' := 643) (pm_q0_6 (Nat.le_of_ble_eq_true rfl)) rfl rfl ?_
  refine pm_R_op pm_M0 (pc' := 644) (st' := [.int 1, .int (Int32.ofNat n), .ref 0, .ref 41]) (pm_q0_6 (Nat.le_of_ble_eq_true rfl)) rfl rfl ?_
  refine pm_R_op pm_M0 (pc' := 645) (st' := [.int (Int32.ofNat (n + 1)), .ref 0, .ref 41]) (pm_q0_6 (Nat.le_of_ble_eq_true rfl)) (congrArg (fun z => some (Value.int z :: [.ref 0, .ref 41])) (p2_ad (n := n) (c := 1) (k := 1) rfl)) rfl ?_
  refine pm_R_iald pm_M0 (pc' := 646) (v := x1) (pm_q0_6 (Nat.le_of_ble_eq_true rfl)) ((T.old (by decide)).trans e0) (T.lt (by decide)) (p2_in (by omega) hL) v1 rfl ?_
  refine pm_R_lo pm_M0 (pc' := 647) (pm_q0_6 (Nat.le_of_ble_eq_true rfl)) rfl rfl ?_
  refine pm_R_lo pm_M0 (pc' := 648) (pm_q0_6 (Nat.le_of_ble_eq_true rfl)) rfl rfl ?_
  refine pm_R_op pm_M0 (pc' := 649) (st' := [.int 2, .int (Int32.ofNat n), .ref 0, .int x1, .ref 41]) (pm_q0_6 (Nat.le_of_ble_eq_true rfl)) rfl rfl ?_
  refine pm_R_op pm_M0 (pc' := 650) (st' := [.int (Int32.ofNat (n + 2)), .ref 0, .int x1, .ref 41]) (pm_q0_6 (Nat.le_of_ble_eq_true rfl)) (congrArg (fun z => some (Value.int z :: [.ref 0, .int x1, .ref 41])) (p2_ad (n := n) (c := 2) (k := 2) rfl)) rfl ?_
  refine pm_R_iald pm_M0 (pc' := 651) (v := x2) (pm_q0_6 (Nat.le_of_ble_eq_true rfl)) ((T.old (by decide)).trans e0) (T.lt (by decide)) (p2_in (by omega) hL) v2 rfl ?_
  refine pm_R_lo pm_M0 (pc' := 652) (pm_q0_6 (Nat.le_of_ble_eq_true rfl)) rfl rfl ?_
  refine pm_R_lo pm_M0 (pc' := 653) (pm_q0_6 (Nat.le_of_ble_eq_true rfl)) rfl rfl ?_
  refine pm_R_op pm_M0 (pc' := 654) (st' := [.int 3, .int (Int32.ofNat n), .ref 0, .int x2, .int x1, .ref 41]) (pm_q0_6 (Nat.le_of_ble_eq_true rfl)) rfl rfl ?_
  refine pm_R_op pm_M0 (pc' := 655) (st' := [.int (Int32.ofNat (n + 3)), .ref 0, .int x2, .int x1, .ref 41]) (pm_q0_6 (Nat.le_of_ble_eq_true rfl)) (congrArg (fun z => some (Value.int z :: [.ref 0, .int x2, .int x1, .ref 41])) (p2_ad (n := n) (c := 3) (k := 3) rfl)) rfl ?_
  refine pm_R_iald pm_M0 (pc' := 656) (v := x3) (pm_q0_6 (Nat.le_of_ble_eq_true rfl)) ((T.old (by decide)).trans e0) (T.lt (by decide)) (p2_in (by omega) hL) v3 rfl ?_
  refine pm_R_cv pm_M0 (pc' := 659) (a := 41) (ra := [.int x3, .int x2, .int x1]) (rest := []) (ls' := [.ref 41, .int x1, .int x2, .int x3]) (pm_q0_6 (Nat.le_of_ble_eq_true rfl)) rfl (Or.inl rfl) pm_M223 Tr.2.1 rfl (by decide) (Nat.lt_of_lt_of_le (by decide) Tr.1) rfl rfl (Nat.le_of_ble_eq_true rfl) rfl rfl ?_
  refine ex_inj WW KK rfl ?_
  refine rf_c223 Tr (fun r2 m1 w1 h1 T1 F1 W1 => ?_)
  intro WW KK
  show pm_R 100 0 659 [.ref 0, .ref 16, .ref 41, .int (Int32.ofNat n)] [.long r2] _ _
  have RR := R2_rf F1 (by decide) RR
  have I := p2_rf G T Y e0 S R hc T1 F1 (by decide)
  refine pm_R_op pm_M0 (pc' := 660) (st' := []) (pm_q0_6 (Nat.le_of_ble_eq_true rfl)) rfl rfl ?_
  refine pm_R_br pm_M0 (pc' := 2117) (pm_q0_6 (Nat.le_of_ble_eq_true rfl)) rfl ?_
  exact K _ ⟨I, WW, KK, RR⟩

set_option maxRecDepth 100000 in
set_option maxHeartbeats 4000000 in
theorem p6_k11 {L n j : Nat} {xs : Nat → Int32} {h : pm_H} {Q : Option Value → pm_H → Prop} (I : p6_I L xs j h) (hn : n + 7 ≤ L) (hL : L ≤ 3584) (K : ∀ h', p6_I L xs (j + 1) h' → pm_R 100 0 2117 [.ref 0, .ref 16, .ref 41, .int (Int32.ofNat n)] [] h' Q) : pm_R 100 0 663 [.ref 0, .ref 16, .ref 41, .int (Int32.ofNat n)] [] h Q := by
  obtain ⟨x1, v1⟩ : ∃ y, xs (Int32.toNatClampNeg (Int32.ofNat (n + 1))) = y := ⟨_, rfl⟩
  obtain ⟨x2, v2⟩ : ∃ y, xs (Int32.toNatClampNeg (Int32.ofNat (n + 2))) = y := ⟨_, rfl⟩
  obtain ⟨x3, v3⟩ : ∃ y, xs (Int32.toNatClampNeg (Int32.ofNat (n + 3))) = y := ⟨_, rfl⟩
  obtain ⟨x4, v4⟩ : ∃ y, xs (Int32.toNatClampNeg (Int32.ofNat (n + 4))) = y := ⟨_, rfl⟩
  obtain ⟨x5, v5⟩ : ∃ y, xs (Int32.toNatClampNeg (Int32.ofNat (n + 5))) = y := ⟨_, rfl⟩
  obtain ⟨I, WW, KK, RR⟩ := I
  obtain ⟨ck, E, m, o, mr, wr, G, T, Tr, Y, e0, S, R, hc⟩ := I
  refine pm_R_lo pm_M0 (pc' := 664) (pm_q0_6 (Nat.le_of_ble_eq_true rfl)) rfl rfl ?_
  refine pm_R_lo pm_M0 (pc' := 665) (pm_q0_6 (Nat.le_of_ble_eq_true rfl)) rfl rfl ?_
  refine pm_R_lo pm_M0 (pc' := 666) (pm_q0_6 (Nat.le_of_ble_eq_true rfl)) rfl rfl ?_
  refine pm_R_op pm_M0 (pc' := 667) (st' := [.int 1, .int (Int32.ofNat n), .ref 0, .ref 16]) (pm_q0_6 (Nat.le_of_ble_eq_true rfl)) rfl rfl ?_
  refine pm_R_op pm_M0 (pc' := 668) (st' := [.int (Int32.ofNat (n + 1)), .ref 0, .ref 16]) (pm_q0_6 (Nat.le_of_ble_eq_true rfl)) (congrArg (fun z => some (Value.int z :: [.ref 0, .ref 16])) (p2_ad (n := n) (c := 1) (k := 1) rfl)) rfl ?_
  refine pm_R_iald pm_M0 (pc' := 669) (v := x1) (pm_q0_6 (Nat.le_of_ble_eq_true rfl)) ((T.old (by decide)).trans e0) (T.lt (by decide)) (p2_in (by omega) hL) v1 rfl ?_
  refine pm_R_lo pm_M0 (pc' := 670) (pm_q0_6 (Nat.le_of_ble_eq_true rfl)) rfl rfl ?_
  refine pm_R_lo pm_M0 (pc' := 671) (pm_q0_6 (Nat.le_of_ble_eq_true rfl)) rfl rfl ?_
  refine pm_R_op pm_M0 (pc' := 672) (st' := [.int 2, .int (Int32.ofNat n), .ref 0, .int x1, .ref 16]) (pm_q0_6 (Nat.le_of_ble_eq_true rfl)) rfl rfl ?_
  refine pm_R_op pm_M0 (pc' := 673) (st' := [.int (Int32.ofNat (n + 2)), .ref 0, .int x1, .ref 16]) (pm_q0_6 (Nat.le_of_ble_eq_true rfl)) (congrArg (fun z => some (Value.int z :: [.ref 0, .int x1, .ref 16])) (p2_ad (n := n) (c := 2) (k := 2) rfl)) rfl ?_
  refine pm_R_iald pm_M0 (pc' := 674) (v := x2) (pm_q0_6 (Nat.le_of_ble_eq_true rfl)) ((T.old (by decide)).trans e0) (T.lt (by decide)) (p2_in (by omega) hL) v2 rfl ?_
  refine pm_R_lo pm_M0 (pc' := 675) (pm_q0_6 (Nat.le_of_ble_eq_true rfl)) rfl rfl ?_
  refine pm_R_lo pm_M0 (pc' := 676) (pm_q0_6 (Nat.le_of_ble_eq_true rfl)) rfl rfl ?_
  refine pm_R_op pm_M0 (pc' := 677) (st' := [.int 3, .int (Int32.ofNat n), .ref 0, .int x2, .int x1, .ref 16]) (pm_q0_6 (Nat.le_of_ble_eq_true rfl)) rfl rfl ?_
  refine pm_R_op pm_M0 (pc' := 678) (st' := [.int (Int32.ofNat (n + 3)), .ref 0, .int x2, .int x1, .ref 16]) (pm_q0_6 (Nat.le_of_ble_eq_true rfl)) (congrArg (fun z => some (Value.int z :: [.ref 0, .int x2, .int x1, .ref 16])) (p2_ad (n := n) (c := 3) (k := 3) rfl)) rfl ?_
  refine pm_R_iald pm_M0 (pc' := 679) (v := x3) (pm_q0_6 (Nat.le_of_ble_eq_true rfl)) ((T.old (by decide)).trans e0) (T.lt (by decide)) (p2_in (by omega) hL) v3 rfl ?_
  refine pm_R_op pm_M0 (pc' := 680) (st' := [.long x3.toInt64, .int x2, .int x1, .ref 16]) (pm_q0_6 (Nat.le_of_ble_eq_true rfl)) rfl rfl ?_
  refine pm_R_op pm_M0 (pc' := 682) (st' := [.int 32, .long x3.toInt64, .int x2, .int x1, .ref 16]) (pm_q0_6 (Nat.le_of_ble_eq_true rfl)) rfl rfl ?_
  refine sf_R_lany pm_M0 (pc' := 683) (st := [.int x2, .int x1, .ref 16]) (pm_q0_6 (Nat.le_of_ble_eq_true rfl)) rfl rfl (fun z1 => ?_)
  refine pm_R_lo pm_M0 (pc' := 684) (pm_q0_6 (Nat.le_of_ble_eq_true rfl)) rfl rfl ?_
  refine pm_R_lo pm_M0 (pc' := 685) (pm_q0_6 (Nat.le_of_ble_eq_true rfl)) rfl rfl ?_
  refine pm_R_op pm_M0 (pc' := 686) (st' := [.int 4, .int (Int32.ofNat n), .ref 0, .long z1, .int x2, .int x1, .ref 16]) (pm_q0_7 (Nat.le_of_ble_eq_true rfl)) rfl rfl ?_
  refine pm_R_op pm_M0 (pc' := 687) (st' := [.int (Int32.ofNat (n + 4)), .ref 0, .long z1, .int x2, .int x1, .ref 16]) (pm_q0_7 (Nat.le_of_ble_eq_true rfl)) (congrArg (fun z => some (Value.int z :: [.ref 0, .long z1, .int x2, .int x1, .ref 16])) (p2_ad (n := n) (c := 4) (k := 4) rfl)) rfl ?_
  refine pm_R_iald pm_M0 (pc' := 688) (v := x4) (pm_q0_7 (Nat.le_of_ble_eq_true rfl)) ((T.old (by decide)).trans e0) (T.lt (by decide)) (p2_in (by omega) hL) v4 rfl ?_
  refine pm_R_op pm_M0 (pc' := 689) (st' := [.long x4.toInt64, .long z1, .int x2, .int x1, .ref 16]) (pm_q0_7 (Nat.le_of_ble_eq_true rfl)) rfl rfl ?_
  refine pm_R_ldc2 pm_M0 (pc' := 692) (pm_q0_7 (Nat.le_of_ble_eq_true rfl)) rfl rfl ?_
  refine sf_R_lany pm_M0 (pc' := 693) (st := [.long z1, .int x2, .int x1, .ref 16]) (pm_q0_7 (Nat.le_of_ble_eq_true rfl)) rfl rfl (fun z2 => ?_)
  refine sf_R_lany pm_M0 (pc' := 694) (st := [.int x2, .int x1, .ref 16]) (pm_q0_7 (Nat.le_of_ble_eq_true rfl)) rfl rfl (fun z3 => ?_)
  refine pm_R_lo pm_M0 (pc' := 695) (pm_q0_7 (Nat.le_of_ble_eq_true rfl)) rfl rfl ?_
  refine pm_R_lo pm_M0 (pc' := 696) (pm_q0_7 (Nat.le_of_ble_eq_true rfl)) rfl rfl ?_
  refine pm_R_op pm_M0 (pc' := 697) (st' := [.int 5, .int (Int32.ofNat n), .ref 0, .long z3, .int x2, .int x1, .ref 16]) (pm_q0_7 (Nat.le_of_ble_eq_true rfl)) rfl rfl ?_
  refine pm_R_op pm_M0 (pc' := 698) (st' := [.int (Int32.ofNat (n + 5)), .ref 0, .long z3, .int x2, .int x1, .ref 16]) (pm_q0_7 (Nat.le_of_ble_eq_true rfl)) (congrArg (fun z => some (Value.int z :: [.ref 0, .long z3, .int x2, .int x1, .ref 16])) (p2_ad (n := n) (c := 5) (k := 5) rfl)) rfl ?_
  refine pm_R_iald pm_M0 (pc' := 699) (v := x5) (pm_q0_7 (Nat.le_of_ble_eq_true rfl)) ((T.old (by decide)).trans e0) (T.lt (by decide)) (p2_in (by omega) hL) v5 rfl ?_
  refine pm_R_cv pm_M0 (pc' := 702) (a := 16) (ra := [.int x5, .long z3, .int x2, .int x1]) (rest := []) (ls' := [.ref 16, .int x1, .int x2, .long z3, pm_no, .int x5, pm_no, pm_no, pm_no, pm_no, pm_no]) (pm_q0_7 (Nat.le_of_ble_eq_true rfl)) rfl (Or.inl rfl) pm_M90 T.e16 rfl (by decide) (T.lt (by decide)) rfl rfl (Nat.le_of_ble_eq_true rfl) rfl rfl ?_
  refine ex_inj WW KK rfl ?_
  refine cl_c90 G T (fun r4 m1 o1 h1 T1 F1 W1 => ?_)
  intro WW KK
  show pm_R 100 0 702 [.ref 0, .ref 16, .ref 41, .int (Int32.ofNat n)] [.int r4] _ _
  have RR := R2_cl G T F1 (by decide) RR
  have I := p2_cl (j := j) G T Tr Y e0 S R hc T1 F1 (W1 0 (by decide)) (by decide) (by decide) (by decide) (by decide) (by decide) (by decide) (by decide)
  obtain ⟨ck, E, m, o, mr, wr, G, T, Tr, Y, e0, S, R, hc⟩ := I
  refine pm_R_op pm_M0 (pc' := 703) (st' := []) (pm_q0_7 (Nat.le_of_ble_eq_true rfl)) rfl rfl ?_
  refine pm_R_lo pm_M0 (pc' := 704) (pm_q0_7 (Nat.le_of_ble_eq_true rfl)) rfl rfl ?_
  refine pm_R_lo pm_M0 (pc' := 705) (pm_q0_7 (Nat.le_of_ble_eq_true rfl)) rfl rfl ?_
  refine pm_R_lo pm_M0 (pc' := 706) (pm_q0_7 (Nat.le_of_ble_eq_true rfl)) rfl rfl ?_
  refine pm_R_op pm_M0 (pc' := 707) (st' := [.int 1, .int (Int32.ofNat n), .ref 0, .ref 41]) (pm_q0_7 (Nat.le_of_ble_eq_true rfl)) rfl rfl ?_
  refine pm_R_op pm_M0 (pc' := 708) (st' := [.int (Int32.ofNat (n + 1)), .ref 0, .ref 41]) (pm_q0_7 (Nat.le_of_ble_eq_true rfl)) (congrArg (fun z => some (Value.int z :: [.ref 0, .ref 41])) (p2_ad (n := n) (c := 1) (k := 1) rfl)) rfl ?_
  refine pm_R_iald pm_M0 (pc' := 709) (v := x1) (pm_q0_7 (Nat.le_of_ble_eq_true rfl)) ((T.old (by decide)).trans e0) (T.lt (by decide)) (p2_in (by omega) hL) v1 rfl ?_
  refine pm_R_lo pm_M0 (pc' := 710) (pm_q0_7 (Nat.le_of_ble_eq_true rfl)) rfl rfl ?_
  refine pm_R_lo pm_M0 (pc' := 711) (pm_q0_7 (Nat.le_of_ble_eq_true rfl)) rfl rfl ?_
  refine pm_R_op pm_M0 (pc' := 712) (st' := [.int 2, .int (Int32.ofNat n), .ref 0, .int x1, .ref 41]) (pm_q0_7 (Nat.le_of_ble_eq_true rfl)) rfl rfl ?_
  refine pm_R_op pm_M0 (pc' := 713) (st' := [.int (Int32.ofNat (n + 2)), .ref 0, .int x1, .ref 41]) (pm_q0_7 (Nat.le_of_ble_eq_true rfl)) (congrArg (fun z => some (Value.int z :: [.ref 0, .int x1, .ref 41])) (p2_ad (n := n) (c := 2) (k := 2) rfl)) rfl ?_
  refine pm_R_iald pm_M0 (pc' := 714) (v := x2) (pm_q0_7 (Nat.le_of_ble_eq_true rfl)) ((T.old (by decide)).trans e0) (T.lt (by decide)) (p2_in (by omega) hL) v2 rfl ?_
  refine pm_R_lo pm_M0 (pc' := 715) (pm_q0_7 (Nat.le_of_ble_eq_true rfl)) rfl rfl ?_
  refine pm_R_lo pm_M0 (pc' := 716) (pm_q0_7 (Nat.le_of_ble_eq_true rfl)) rfl rfl ?_
  refine pm_R_op pm_M0 (pc' := 717) (st' := [.int 3, .int (Int32.ofNat n), .ref 0, .int x2, .int x1, .ref 41]) (pm_q0_7 (Nat.le_of_ble_eq_true rfl)) rfl rfl ?_
  refine pm_R_op pm_M0 (pc' := 718) (st' := [.int (Int32.ofNat (n + 3)), .ref 0, .int x2, .int x1, .ref 41]) (pm_q0_7 (Nat.le_of_ble_eq_true rfl)) (congrArg (fun z => some (Value.int z :: [.ref 0, .int x2, .int x1, .ref 41])) (p2_ad (n := n) (c := 3) (k := 3) rfl)) rfl ?_
  refine pm_R_iald pm_M0 (pc' := 719) (v := x3) (pm_q0_7 (Nat.le_of_ble_eq_true rfl)) ((T.old (by decide)).trans e0) (T.lt (by decide)) (p2_in (by omega) hL) v3 rfl ?_
  refine pm_R_op pm_M0 (pc' := 720) (st' := [.long x3.toInt64, .int x2, .int x1, .ref 41]) (pm_q0_7 (Nat.le_of_ble_eq_true rfl)) rfl rfl ?_
  refine pm_R_op pm_M0 (pc' := 722) (st' := [.int 32, .long x3.toInt64, .int x2, .int x1, .ref 41]) (pm_q0_7 (Nat.le_of_ble_eq_true rfl)) rfl rfl ?_
  refine sf_R_lany pm_M0 (pc' := 723) (st := [.int x2, .int x1, .ref 41]) (pm_q0_7 (Nat.le_of_ble_eq_true rfl)) rfl rfl (fun z5 => ?_)
  refine pm_R_lo pm_M0 (pc' := 724) (pm_q0_7 (Nat.le_of_ble_eq_true rfl)) rfl rfl ?_
  refine pm_R_lo pm_M0 (pc' := 725) (pm_q0_7 (Nat.le_of_ble_eq_true rfl)) rfl rfl ?_
  refine pm_R_op pm_M0 (pc' := 726) (st' := [.int 4, .int (Int32.ofNat n), .ref 0, .long z5, .int x2, .int x1, .ref 41]) (pm_q0_7 (Nat.le_of_ble_eq_true rfl)) rfl rfl ?_
  refine pm_R_op pm_M0 (pc' := 727) (st' := [.int (Int32.ofNat (n + 4)), .ref 0, .long z5, .int x2, .int x1, .ref 41]) (pm_q0_7 (Nat.le_of_ble_eq_true rfl)) (congrArg (fun z => some (Value.int z :: [.ref 0, .long z5, .int x2, .int x1, .ref 41])) (p2_ad (n := n) (c := 4) (k := 4) rfl)) rfl ?_
  refine pm_R_iald pm_M0 (pc' := 728) (v := x4) (pm_q0_7 (Nat.le_of_ble_eq_true rfl)) ((T.old (by decide)).trans e0) (T.lt (by decide)) (p2_in (by omega) hL) v4 rfl ?_
  refine pm_R_op pm_M0 (pc' := 729) (st' := [.long x4.toInt64, .long z5, .int x2, .int x1, .ref 41]) (pm_q0_7 (Nat.le_of_ble_eq_true rfl)) rfl rfl ?_
  refine pm_R_ldc2 pm_M0 (pc' := 732) (pm_q0_7 (Nat.le_of_ble_eq_true rfl)) rfl rfl ?_
  refine sf_R_lany pm_M0 (pc' := 733) (st := [.long z5, .int x2, .int x1, .ref 41]) (pm_q0_7 (Nat.le_of_ble_eq_true rfl)) rfl rfl (fun z6 => ?_)
  refine sf_R_lany pm_M0 (pc' := 734) (st := [.int x2, .int x1, .ref 41]) (pm_q0_7 (Nat.le_of_ble_eq_true rfl)) rfl rfl (fun z7 => ?_)
  refine pm_R_lo pm_M0 (pc' := 735) (pm_q0_7 (Nat.le_of_ble_eq_true rfl)) rfl rfl ?_
  refine pm_R_lo pm_M0 (pc' := 736) (pm_q0_7 (Nat.le_of_ble_eq_true rfl)) rfl rfl ?_
  refine pm_R_op pm_M0 (pc' := 737) (st' := [.int 5, .int (Int32.ofNat n), .ref 0, .long z7, .int x2, .int x1, .ref 41]) (pm_q0_7 (Nat.le_of_ble_eq_true rfl)) rfl rfl ?_
  refine pm_R_op pm_M0 (pc' := 738) (st' := [.int (Int32.ofNat (n + 5)), .ref 0, .long z7, .int x2, .int x1, .ref 41]) (pm_q0_7 (Nat.le_of_ble_eq_true rfl)) (congrArg (fun z => some (Value.int z :: [.ref 0, .long z7, .int x2, .int x1, .ref 41])) (p2_ad (n := n) (c := 5) (k := 5) rfl)) rfl ?_
  refine pm_R_iald pm_M0 (pc' := 739) (v := x5) (pm_q0_7 (Nat.le_of_ble_eq_true rfl)) ((T.old (by decide)).trans e0) (T.lt (by decide)) (p2_in (by omega) hL) v5 rfl ?_
  refine pm_R_cv pm_M0 (pc' := 742) (a := 41) (ra := [.int x5, .long z7, .int x2, .int x1]) (rest := []) (ls' := [.ref 41, .int x1, .int x2, .long z7, pm_no, .int x5, pm_no]) (pm_q0_7 (Nat.le_of_ble_eq_true rfl)) rfl (Or.inl rfl) pm_M228 Tr.2.1 rfl (by decide) (Nat.lt_of_lt_of_le (by decide) Tr.1) rfl rfl (Nat.le_of_ble_eq_true rfl) rfl rfl ?_
  refine ex_inj WW KK rfl ?_
  refine rf_c228 Tr (fun r8 m1 w1 h1 T1 F1 W1 => ?_)
  intro WW KK
  show pm_R 100 0 742 [.ref 0, .ref 16, .ref 41, .int (Int32.ofNat n)] [.int r8] _ _
  have RR := R2_rf F1 (by decide) RR
  have I := p2_rf G T Y e0 S R hc T1 F1 (by decide)
  refine pm_R_op pm_M0 (pc' := 743) (st' := []) (pm_q0_7 (Nat.le_of_ble_eq_true rfl)) rfl rfl ?_
  refine pm_R_br pm_M0 (pc' := 2117) (pm_q0_7 (Nat.le_of_ble_eq_true rfl)) rfl ?_
  exact K _ ⟨I, WW, KK, RR⟩

set_option maxRecDepth 100000 in
set_option maxHeartbeats 4000000 in
theorem p6_k12 {L n j : Nat} {xs : Nat → Int32} {h : pm_H} {Q : Option Value → pm_H → Prop} (I : p6_I L xs j h) (hn : n + 7 ≤ L) (hL : L ≤ 3584) (K : ∀ h', p6_I L xs (j + 1) h' → pm_R 100 0 2117 [.ref 0, .ref 16, .ref 41, .int (Int32.ofNat n)] [] h' Q) : pm_R 100 0 746 [.ref 0, .ref 16, .ref 41, .int (Int32.ofNat n)] [] h Q := by
  obtain ⟨x1, v1⟩ : ∃ y, xs (Int32.toNatClampNeg (Int32.ofNat (n + 1))) = y := ⟨_, rfl⟩
  obtain ⟨x2, v2⟩ : ∃ y, xs (Int32.toNatClampNeg (Int32.ofNat (n + 2))) = y := ⟨_, rfl⟩
  obtain ⟨x3, v3⟩ : ∃ y, xs (Int32.toNatClampNeg (Int32.ofNat (n + 3))) = y := ⟨_, rfl⟩
  obtain ⟨x4, v4⟩ : ∃ y, xs (Int32.toNatClampNeg (Int32.ofNat (n + 4))) = y := ⟨_, rfl⟩
  obtain ⟨I, WW, KK, RR⟩ := I
  obtain ⟨ck, E, m, o, mr, wr, G, T, Tr, Y, e0, S, R, hc⟩ := I
  refine pm_R_lo pm_M0 (pc' := 747) (pm_q0_7 (Nat.le_of_ble_eq_true rfl)) rfl rfl ?_
  refine pm_R_lo pm_M0 (pc' := 748) (pm_q0_7 (Nat.le_of_ble_eq_true rfl)) rfl rfl ?_
  refine pm_R_lo pm_M0 (pc' := 749) (pm_q0_7 (Nat.le_of_ble_eq_true rfl)) rfl rfl ?_
  refine pm_R_op pm_M0 (pc' := 750) (st' := [.int 1, .int (Int32.ofNat n), .ref 0, .ref 16]) (pm_q0_7 (Nat.le_of_ble_eq_true rfl)) rfl rfl ?_
  refine pm_R_op pm_M0 (pc' := 751) (st' := [.int (Int32.ofNat (n + 1)), .ref 0, .ref 16]) (pm_q0_7 (Nat.le_of_ble_eq_true rfl)) (congrArg (fun z => some (Value.int z :: [.ref 0, .ref 16])) (p2_ad (n := n) (c := 1) (k := 1) rfl)) rfl ?_
  refine pm_R_iald pm_M0 (pc' := 752) (v := x1) (pm_q0_7 (Nat.le_of_ble_eq_true rfl)) ((T.old (by decide)).trans e0) (T.lt (by decide)) (p2_in (by omega) hL) v1 rfl ?_
  refine pm_R_lo pm_M0 (pc' := 753) (pm_q0_7 (Nat.le_of_ble_eq_true rfl)) rfl rfl ?_
  refine pm_R_lo pm_M0 (pc' := 754) (pm_q0_7 (Nat.le_of_ble_eq_true rfl)) rfl rfl ?_
  refine pm_R_op pm_M0 (pc' := 755) (st' := [.int 2, .int (Int32.ofNat n), .ref 0, .int x1, .ref 16]) (pm_q0_7 (Nat.le_of_ble_eq_true rfl)) rfl rfl ?_
  refine pm_R_op pm_M0 (pc' := 756) (st' := [.int (Int32.ofNat (n + 2)), .ref 0, .int x1, .ref 16]) (pm_q0_7 (Nat.le_of_ble_eq_true rfl)) (congrArg (fun z => some (Value.int z :: [.ref 0, .int x1, .ref 16])) (p2_ad (n := n) (c := 2) (k := 2) rfl)) rfl ?_
  refine pm_R_iald pm_M0 (pc' := 757) (v := x2) (pm_q0_8 (Nat.le_of_ble_eq_true rfl)) ((T.old (by decide)).trans e0) (T.lt (by decide)) (p2_in (by omega) hL) v2 rfl ?_
  refine pm_R_lo pm_M0 (pc' := 758) (pm_q0_8 (Nat.le_of_ble_eq_true rfl)) rfl rfl ?_
  refine pm_R_lo pm_M0 (pc' := 759) (pm_q0_8 (Nat.le_of_ble_eq_true rfl)) rfl rfl ?_
  refine pm_R_op pm_M0 (pc' := 760) (st' := [.int 3, .int (Int32.ofNat n), .ref 0, .int x2, .int x1, .ref 16]) (pm_q0_8 (Nat.le_of_ble_eq_true rfl)) rfl rfl ?_
  refine pm_R_op pm_M0 (pc' := 761) (st' := [.int (Int32.ofNat (n + 3)), .ref 0, .int x2, .int x1, .ref 16]) (pm_q0_8 (Nat.le_of_ble_eq_true rfl)) (congrArg (fun z => some (Value.int z :: [.ref 0, .int x2, .int x1, .ref 16])) (p2_ad (n := n) (c := 3) (k := 3) rfl)) rfl ?_
  refine pm_R_iald pm_M0 (pc' := 762) (v := x3) (pm_q0_8 (Nat.le_of_ble_eq_true rfl)) ((T.old (by decide)).trans e0) (T.lt (by decide)) (p2_in (by omega) hL) v3 rfl ?_
  refine pm_R_lo pm_M0 (pc' := 763) (pm_q0_8 (Nat.le_of_ble_eq_true rfl)) rfl rfl ?_
  refine pm_R_lo pm_M0 (pc' := 764) (pm_q0_8 (Nat.le_of_ble_eq_true rfl)) rfl rfl ?_
  refine pm_R_op pm_M0 (pc' := 765) (st' := [.int 4, .int (Int32.ofNat n), .ref 0, .int x3, .int x2, .int x1, .ref 16]) (pm_q0_8 (Nat.le_of_ble_eq_true rfl)) rfl rfl ?_
  refine pm_R_op pm_M0 (pc' := 766) (st' := [.int (Int32.ofNat (n + 4)), .ref 0, .int x3, .int x2, .int x1, .ref 16]) (pm_q0_8 (Nat.le_of_ble_eq_true rfl)) (congrArg (fun z => some (Value.int z :: [.ref 0, .int x3, .int x2, .int x1, .ref 16])) (p2_ad (n := n) (c := 4) (k := 4) rfl)) rfl ?_
  refine pm_R_iald pm_M0 (pc' := 767) (v := x4) (pm_q0_8 (Nat.le_of_ble_eq_true rfl)) ((T.old (by decide)).trans e0) (T.lt (by decide)) (p2_in (by omega) hL) v4 rfl ?_
  refine pm_R_cv pm_M0 (pc' := 770) (a := 16) (ra := [.int x4, .int x3, .int x2, .int x1]) (rest := []) (ls' := [.ref 16, .int x1, .int x2, .int x3, .int x4, pm_no, pm_no]) (pm_q0_8 (Nat.le_of_ble_eq_true rfl)) rfl (Or.inl rfl) pm_M109 T.e16 rfl (by decide) (T.lt (by decide)) rfl rfl (Nat.le_of_ble_eq_true rfl) rfl rfl ?_
  refine ex_inj WW KK rfl ?_
  refine cl_c109 G T (fun r1 m1 h1 T1 F1 W1 _ => ?_)
  intro WW KK
  show pm_R 100 0 770 [.ref 0, .ref 16, .ref 41, .int (Int32.ofNat n)] [.int r1] _ _
  have RR := R2_cl G T F1 (by decide) RR
  have I := p2_cl (j := j) G T Tr Y e0 S R hc T1 F1 (W1 0 (by decide)) (by decide) (by decide) (by decide) (by decide) (by decide) (by decide) (by decide)
  obtain ⟨ck, E, m, o, mr, wr, G, T, Tr, Y, e0, S, R, hc⟩ := I
  refine pm_R_op pm_M0 (pc' := 771) (st' := []) (pm_q0_8 (Nat.le_of_ble_eq_true rfl)) rfl rfl ?_
  refine pm_R_lo pm_M0 (pc' := 772) (pm_q0_8 (Nat.le_of_ble_eq_true rfl)) rfl rfl ?_
  refine pm_R_lo pm_M0 (pc' := 773) (pm_q0_8 (Nat.le_of_ble_eq_true rfl)) rfl rfl ?_
  refine pm_R_lo pm_M0 (pc' := 774) (pm_q0_8 (Nat.le_of_ble_eq_true rfl)) rfl rfl ?_
  refine pm_R_op pm_M0 (pc' := 775) (st' := [.int 1, .int (Int32.ofNat n), .ref 0, .ref 41]) (pm_q0_8 (Nat.le_of_ble_eq_true rfl)) rfl rfl ?_
  refine pm_R_op pm_M0 (pc' := 776) (st' := [.int (Int32.ofNat (n + 1)), .ref 0, .ref 41]) (pm_q0_8 (Nat.le_of_ble_eq_true rfl)) (congrArg (fun z => some (Value.int z :: [.ref 0, .ref 41])) (p2_ad (n := n) (c := 1) (k := 1) rfl)) rfl ?_
  refine pm_R_iald pm_M0 (pc' := 777) (v := x1) (pm_q0_8 (Nat.le_of_ble_eq_true rfl)) ((T.old (by decide)).trans e0) (T.lt (by decide)) (p2_in (by omega) hL) v1 rfl ?_
  refine pm_R_lo pm_M0 (pc' := 778) (pm_q0_8 (Nat.le_of_ble_eq_true rfl)) rfl rfl ?_
  refine pm_R_lo pm_M0 (pc' := 779) (pm_q0_8 (Nat.le_of_ble_eq_true rfl)) rfl rfl ?_
  refine pm_R_op pm_M0 (pc' := 780) (st' := [.int 2, .int (Int32.ofNat n), .ref 0, .int x1, .ref 41]) (pm_q0_8 (Nat.le_of_ble_eq_true rfl)) rfl rfl ?_
  refine pm_R_op pm_M0 (pc' := 781) (st' := [.int (Int32.ofNat (n + 2)), .ref 0, .int x1, .ref 41]) (pm_q0_8 (Nat.le_of_ble_eq_true rfl)) (congrArg (fun z => some (Value.int z :: [.ref 0, .int x1, .ref 41])) (p2_ad (n := n) (c := 2) (k := 2) rfl)) rfl ?_
  refine pm_R_iald pm_M0 (pc' := 782) (v := x2) (pm_q0_8 (Nat.le_of_ble_eq_true rfl)) ((T.old (by decide)).trans e0) (T.lt (by decide)) (p2_in (by omega) hL) v2 rfl ?_
  refine pm_R_lo pm_M0 (pc' := 783) (pm_q0_8 (Nat.le_of_ble_eq_true rfl)) rfl rfl ?_
  refine pm_R_lo pm_M0 (pc' := 784) (pm_q0_8 (Nat.le_of_ble_eq_true rfl)) rfl rfl ?_
  refine pm_R_op pm_M0 (pc' := 785) (st' := [.int 3, .int (Int32.ofNat n), .ref 0, .int x2, .int x1, .ref 41]) (pm_q0_8 (Nat.le_of_ble_eq_true rfl)) rfl rfl ?_
  refine pm_R_op pm_M0 (pc' := 786) (st' := [.int (Int32.ofNat (n + 3)), .ref 0, .int x2, .int x1, .ref 41]) (pm_q0_8 (Nat.le_of_ble_eq_true rfl)) (congrArg (fun z => some (Value.int z :: [.ref 0, .int x2, .int x1, .ref 41])) (p2_ad (n := n) (c := 3) (k := 3) rfl)) rfl ?_
  refine pm_R_iald pm_M0 (pc' := 787) (v := x3) (pm_q0_8 (Nat.le_of_ble_eq_true rfl)) ((T.old (by decide)).trans e0) (T.lt (by decide)) (p2_in (by omega) hL) v3 rfl ?_
  refine pm_R_lo pm_M0 (pc' := 788) (pm_q0_8 (Nat.le_of_ble_eq_true rfl)) rfl rfl ?_
  refine pm_R_lo pm_M0 (pc' := 789) (pm_q0_8 (Nat.le_of_ble_eq_true rfl)) rfl rfl ?_
  refine pm_R_op pm_M0 (pc' := 790) (st' := [.int 4, .int (Int32.ofNat n), .ref 0, .int x3, .int x2, .int x1, .ref 41]) (pm_q0_8 (Nat.le_of_ble_eq_true rfl)) rfl rfl ?_
  refine pm_R_op pm_M0 (pc' := 791) (st' := [.int (Int32.ofNat (n + 4)), .ref 0, .int x3, .int x2, .int x1, .ref 41]) (pm_q0_8 (Nat.le_of_ble_eq_true rfl)) (congrArg (fun z => some (Value.int z :: [.ref 0, .int x3, .int x2, .int x1, .ref 41])) (p2_ad (n := n) (c := 4) (k := 4) rfl)) rfl ?_
  refine pm_R_iald pm_M0 (pc' := 792) (v := x4) (pm_q0_8 (Nat.le_of_ble_eq_true rfl)) ((T.old (by decide)).trans e0) (T.lt (by decide)) (p2_in (by omega) hL) v4 rfl ?_
  refine pm_R_cv pm_M0 (pc' := 795) (a := 41) (ra := [.int x4, .int x3, .int x2, .int x1]) (rest := []) (ls' := [.ref 41, .int x1, .int x2, .int x3, .int x4]) (pm_q0_8 (Nat.le_of_ble_eq_true rfl)) rfl (Or.inl rfl) pm_M233 Tr.2.1 rfl (by decide) (Nat.lt_of_lt_of_le (by decide) Tr.1) rfl rfl (Nat.le_of_ble_eq_true rfl) rfl rfl ?_
  refine ex_inj WW KK rfl ?_
  refine rf_c233 Tr (fun r2 m1 w1 h1 T1 F1 W1 _ => ?_)
  intro WW KK
  show pm_R 100 0 795 [.ref 0, .ref 16, .ref 41, .int (Int32.ofNat n)] [.int r2] _ _
  have RR := R2_rf F1 (by decide) RR
  have I := p2_rf G T Y e0 S R hc T1 F1 (by decide)
  refine pm_R_op pm_M0 (pc' := 796) (st' := []) (pm_q0_8 (Nat.le_of_ble_eq_true rfl)) rfl rfl ?_
  refine pm_R_br pm_M0 (pc' := 2117) (pm_q0_8 (Nat.le_of_ble_eq_true rfl)) rfl ?_
  exact K _ ⟨I, WW, KK, RR⟩

set_option maxRecDepth 100000 in
set_option maxHeartbeats 4000000 in
theorem p6_k13 {L n j : Nat} {xs : Nat → Int32} {h : pm_H} {Q : Option Value → pm_H → Prop} (I : p6_I L xs j h) (hn : n + 7 ≤ L) (hL : L ≤ 3584) (K : ∀ h', p6_I L xs (j + 1) h' → pm_R 100 0 2117 [.ref 0, .ref 16, .ref 41, .int (Int32.ofNat n)] [] h' Q) : pm_R 100 0 799 [.ref 0, .ref 16, .ref 41, .int (Int32.ofNat n)] [] h Q := by
  obtain ⟨x1, v1⟩ : ∃ y, xs (Int32.toNatClampNeg (Int32.ofNat (n + 1))) = y := ⟨_, rfl⟩
  obtain ⟨x2, v2⟩ : ∃ y, xs (Int32.toNatClampNeg (Int32.ofNat (n + 2))) = y := ⟨_, rfl⟩
  obtain ⟨x3, v3⟩ : ∃ y, xs (Int32.toNatClampNeg (Int32.ofNat (n + 3))) = y := ⟨_, rfl⟩
  obtain ⟨I, WW, KK, RR⟩ := I
  obtain ⟨ck, E, m, o, mr, wr, G, T, Tr, Y, e0, S, R, hc⟩ := I
  refine pm_R_lo pm_M0 (pc' := 800) (pm_q0_8 (Nat.le_of_ble_eq_true rfl)) rfl rfl ?_
  refine pm_R_lo pm_M0 (pc' := 801) (pm_q0_8 (Nat.le_of_ble_eq_true rfl)) rfl rfl ?_
  refine pm_R_lo pm_M0 (pc' := 802) (pm_q0_8 (Nat.le_of_ble_eq_true rfl)) rfl rfl ?_
  refine pm_R_op pm_M0 (pc' := 803) (st' := [.int 1, .int (Int32.ofNat n), .ref 0, .ref 16]) (pm_q0_8 (Nat.le_of_ble_eq_true rfl)) rfl rfl ?_
  refine pm_R_op pm_M0 (pc' := 804) (st' := [.int (Int32.ofNat (n + 1)), .ref 0, .ref 16]) (pm_q0_8 (Nat.le_of_ble_eq_true rfl)) (congrArg (fun z => some (Value.int z :: [.ref 0, .ref 16])) (p2_ad (n := n) (c := 1) (k := 1) rfl)) rfl ?_
  refine pm_R_iald pm_M0 (pc' := 805) (v := x1) (pm_q0_8 (Nat.le_of_ble_eq_true rfl)) ((T.old (by decide)).trans e0) (T.lt (by decide)) (p2_in (by omega) hL) v1 rfl ?_
  refine pm_R_lo pm_M0 (pc' := 806) (pm_q0_8 (Nat.le_of_ble_eq_true rfl)) rfl rfl ?_
  refine pm_R_lo pm_M0 (pc' := 807) (pm_q0_8 (Nat.le_of_ble_eq_true rfl)) rfl rfl ?_
  refine pm_R_op pm_M0 (pc' := 808) (st' := [.int 2, .int (Int32.ofNat n), .ref 0, .int x1, .ref 16]) (pm_q0_8 (Nat.le_of_ble_eq_true rfl)) rfl rfl ?_
  refine pm_R_op pm_M0 (pc' := 809) (st' := [.int (Int32.ofNat (n + 2)), .ref 0, .int x1, .ref 16]) (pm_q0_8 (Nat.le_of_ble_eq_true rfl)) (congrArg (fun z => some (Value.int z :: [.ref 0, .int x1, .ref 16])) (p2_ad (n := n) (c := 2) (k := 2) rfl)) rfl ?_
  refine pm_R_iald pm_M0 (pc' := 810) (v := x2) (pm_q0_8 (Nat.le_of_ble_eq_true rfl)) ((T.old (by decide)).trans e0) (T.lt (by decide)) (p2_in (by omega) hL) v2 rfl ?_
  refine pm_R_lo pm_M0 (pc' := 811) (pm_q0_8 (Nat.le_of_ble_eq_true rfl)) rfl rfl ?_
  refine pm_R_lo pm_M0 (pc' := 812) (pm_q0_8 (Nat.le_of_ble_eq_true rfl)) rfl rfl ?_
  refine pm_R_op pm_M0 (pc' := 813) (st' := [.int 3, .int (Int32.ofNat n), .ref 0, .int x2, .int x1, .ref 16]) (pm_q0_8 (Nat.le_of_ble_eq_true rfl)) rfl rfl ?_
  refine pm_R_op pm_M0 (pc' := 814) (st' := [.int (Int32.ofNat (n + 3)), .ref 0, .int x2, .int x1, .ref 16]) (pm_q0_8 (Nat.le_of_ble_eq_true rfl)) (congrArg (fun z => some (Value.int z :: [.ref 0, .int x2, .int x1, .ref 16])) (p2_ad (n := n) (c := 3) (k := 3) rfl)) rfl ?_
  refine pm_R_iald pm_M0 (pc' := 815) (v := x3) (pm_q0_8 (Nat.le_of_ble_eq_true rfl)) ((T.old (by decide)).trans e0) (T.lt (by decide)) (p2_in (by omega) hL) v3 rfl ?_
  refine pm_R_cv pm_M0 (pc' := 818) (a := 16) (ra := [.int x3, .int x2, .int x1]) (rest := []) (ls' := [.ref 16, .int x1, .int x2, .int x3, pm_no, pm_no, pm_no, pm_no, pm_no]) (pm_q0_8 (Nat.le_of_ble_eq_true rfl)) rfl (Or.inl rfl) pm_M115 T.e16 rfl (by decide) (T.lt (by decide)) rfl rfl (Nat.le_of_ble_eq_true rfl) rfl rfl ?_
  refine ex_inj WW KK rfl ?_
  refine cl_c115 G T (fun r1 => ?_)
  intro WW KK
  show pm_R 100 0 818 [.ref 0, .ref 16, .ref 41, .int (Int32.ofNat n)] [.long r1] _ _
  have I := p2_up (⟨ck, E, m, o, mr, wr, G, T, Tr, Y, e0, S, R, hc⟩ : p2_I L xs j h)
  obtain ⟨ck, E, m, o, mr, wr, G, T, Tr, Y, e0, S, R, hc⟩ := I
  refine pm_R_op pm_M0 (pc' := 819) (st' := []) (pm_q0_8 (Nat.le_of_ble_eq_true rfl)) rfl rfl ?_
  refine pm_R_lo pm_M0 (pc' := 820) (pm_q0_8 (Nat.le_of_ble_eq_true rfl)) rfl rfl ?_
  refine pm_R_lo pm_M0 (pc' := 821) (pm_q0_8 (Nat.le_of_ble_eq_true rfl)) rfl rfl ?_
  refine pm_R_lo pm_M0 (pc' := 822) (pm_q0_8 (Nat.le_of_ble_eq_true rfl)) rfl rfl ?_
  refine pm_R_op pm_M0 (pc' := 823) (st' := [.int 1, .int (Int32.ofNat n), .ref 0, .ref 41]) (pm_q0_8 (Nat.le_of_ble_eq_true rfl)) rfl rfl ?_
  refine pm_R_op pm_M0 (pc' := 824) (st' := [.int (Int32.ofNat (n + 1)), .ref 0, .ref 41]) (pm_q0_8 (Nat.le_of_ble_eq_true rfl)) (congrArg (fun z => some (Value.int z :: [.ref 0, .ref 41])) (p2_ad (n := n) (c := 1) (k := 1) rfl)) rfl ?_
  refine pm_R_iald pm_M0 (pc' := 825) (v := x1) (pm_q0_9 (Nat.le_of_ble_eq_true rfl)) ((T.old (by decide)).trans e0) (T.lt (by decide)) (p2_in (by omega) hL) v1 rfl ?_
  refine pm_R_lo pm_M0 (pc' := 826) (pm_q0_9 (Nat.le_of_ble_eq_true rfl)) rfl rfl ?_
  refine pm_R_lo pm_M0 (pc' := 827) (pm_q0_9 (Nat.le_of_ble_eq_true rfl)) rfl rfl ?_
  refine pm_R_op pm_M0 (pc' := 828) (st' := [.int 2, .int (Int32.ofNat n), .ref 0, .int x1, .ref 41]) (pm_q0_9 (Nat.le_of_ble_eq_true rfl)) rfl rfl ?_
  refine pm_R_op pm_M0 (pc' := 829) (st' := [.int (Int32.ofNat (n + 2)), .ref 0, .int x1, .ref 41]) (pm_q0_9 (Nat.le_of_ble_eq_true rfl)) (congrArg (fun z => some (Value.int z :: [.ref 0, .int x1, .ref 41])) (p2_ad (n := n) (c := 2) (k := 2) rfl)) rfl ?_
  refine pm_R_iald pm_M0 (pc' := 830) (v := x2) (pm_q0_9 (Nat.le_of_ble_eq_true rfl)) ((T.old (by decide)).trans e0) (T.lt (by decide)) (p2_in (by omega) hL) v2 rfl ?_
  refine pm_R_lo pm_M0 (pc' := 831) (pm_q0_9 (Nat.le_of_ble_eq_true rfl)) rfl rfl ?_
  refine pm_R_lo pm_M0 (pc' := 832) (pm_q0_9 (Nat.le_of_ble_eq_true rfl)) rfl rfl ?_
  refine pm_R_op pm_M0 (pc' := 833) (st' := [.int 3, .int (Int32.ofNat n), .ref 0, .int x2, .int x1, .ref 41]) (pm_q0_9 (Nat.le_of_ble_eq_true rfl)) rfl rfl ?_
  refine pm_R_op pm_M0 (pc' := 834) (st' := [.int (Int32.ofNat (n + 3)), .ref 0, .int x2, .int x1, .ref 41]) (pm_q0_9 (Nat.le_of_ble_eq_true rfl)) (congrArg (fun z => some (Value.int z :: [.ref 0, .int x2, .int x1, .ref 41])) (p2_ad (n := n) (c := 3) (k := 3) rfl)) rfl ?_
  refine pm_R_iald pm_M0 (pc' := 835) (v := x3) (pm_q0_9 (Nat.le_of_ble_eq_true rfl)) ((T.old (by decide)).trans e0) (T.lt (by decide)) (p2_in (by omega) hL) v3 rfl ?_
  refine pm_R_cv pm_M0 (pc' := 838) (a := 41) (ra := [.int x3, .int x2, .int x1]) (rest := []) (ls' := [.ref 41, .int x1, .int x2, .int x3, pm_no, pm_no, pm_no]) (pm_q0_9 (Nat.le_of_ble_eq_true rfl)) rfl (Or.inl rfl) pm_M237 Tr.2.1 rfl (by decide) (Nat.lt_of_lt_of_le (by decide) Tr.1) rfl rfl (Nat.le_of_ble_eq_true rfl) rfl rfl ?_
  refine ex_inj WW KK rfl ?_
  refine rf_c237 Tr (fun r2 m1 w1 h1 T1 F1 W1 => ?_)
  intro WW KK
  show pm_R 100 0 838 [.ref 0, .ref 16, .ref 41, .int (Int32.ofNat n)] [.long r2] _ _
  have RR := R2_rf F1 (by decide) RR
  have I := p2_rf G T Y e0 S R hc T1 F1 (by decide)
  refine pm_R_op pm_M0 (pc' := 839) (st' := []) (pm_q0_9 (Nat.le_of_ble_eq_true rfl)) rfl rfl ?_
  refine pm_R_br pm_M0 (pc' := 2117) (pm_q0_9 (Nat.le_of_ble_eq_true rfl)) rfl ?_
  exact K _ ⟨I, WW, KK, RR⟩

set_option maxRecDepth 100000 in
set_option maxHeartbeats 4000000 in
theorem p6_k14 {L n j : Nat} {xs : Nat → Int32} {h : pm_H} {Q : Option Value → pm_H → Prop} (I : p6_I L xs j h) (hn : n + 7 ≤ L) (hL : L ≤ 3584) (K : ∀ h', p6_I L xs (j + 1) h' → pm_R 100 0 2117 [.ref 0, .ref 16, .ref 41, .int (Int32.ofNat n)] [] h' Q) : pm_R 100 0 842 [.ref 0, .ref 16, .ref 41, .int (Int32.ofNat n)] [] h Q := by
  obtain ⟨x1, v1⟩ : ∃ y, xs (Int32.toNatClampNeg (Int32.ofNat (n + 1))) = y := ⟨_, rfl⟩
  obtain ⟨x2, v2⟩ : ∃ y, xs (Int32.toNatClampNeg (Int32.ofNat (n + 2))) = y := ⟨_, rfl⟩
  obtain ⟨I, WW, KK, RR⟩ := I
  obtain ⟨ck, E, m, o, mr, wr, G, T, Tr, Y, e0, S, R, hc⟩ := I
  refine pm_R_lo pm_M0 (pc' := 843) (pm_q0_9 (Nat.le_of_ble_eq_true rfl)) rfl rfl ?_
  refine pm_R_lo pm_M0 (pc' := 844) (pm_q0_9 (Nat.le_of_ble_eq_true rfl)) rfl rfl ?_
  refine pm_R_lo pm_M0 (pc' := 845) (pm_q0_9 (Nat.le_of_ble_eq_true rfl)) rfl rfl ?_
  refine pm_R_op pm_M0 (pc' := 846) (st' := [.int 1, .int (Int32.ofNat n), .ref 0, .ref 16]) (pm_q0_9 (Nat.le_of_ble_eq_true rfl)) rfl rfl ?_
  refine pm_R_op pm_M0 (pc' := 847) (st' := [.int (Int32.ofNat (n + 1)), .ref 0, .ref 16]) (pm_q0_9 (Nat.le_of_ble_eq_true rfl)) (congrArg (fun z => some (Value.int z :: [.ref 0, .ref 16])) (p2_ad (n := n) (c := 1) (k := 1) rfl)) rfl ?_
  refine pm_R_iald pm_M0 (pc' := 848) (v := x1) (pm_q0_9 (Nat.le_of_ble_eq_true rfl)) ((T.old (by decide)).trans e0) (T.lt (by decide)) (p2_in (by omega) hL) v1 rfl ?_
  refine pm_R_lo pm_M0 (pc' := 849) (pm_q0_9 (Nat.le_of_ble_eq_true rfl)) rfl rfl ?_
  refine pm_R_lo pm_M0 (pc' := 850) (pm_q0_9 (Nat.le_of_ble_eq_true rfl)) rfl rfl ?_
  refine pm_R_op pm_M0 (pc' := 851) (st' := [.int 2, .int (Int32.ofNat n), .ref 0, .int x1, .ref 16]) (pm_q0_9 (Nat.le_of_ble_eq_true rfl)) rfl rfl ?_
  refine pm_R_op pm_M0 (pc' := 852) (st' := [.int (Int32.ofNat (n + 2)), .ref 0, .int x1, .ref 16]) (pm_q0_9 (Nat.le_of_ble_eq_true rfl)) (congrArg (fun z => some (Value.int z :: [.ref 0, .int x1, .ref 16])) (p2_ad (n := n) (c := 2) (k := 2) rfl)) rfl ?_
  refine pm_R_iald pm_M0 (pc' := 853) (v := x2) (pm_q0_9 (Nat.le_of_ble_eq_true rfl)) ((T.old (by decide)).trans e0) (T.lt (by decide)) (p2_in (by omega) hL) v2 rfl ?_
  refine pm_R_cv pm_M0 (pc' := 856) (a := 16) (ra := [.int x2, .int x1]) (rest := []) (ls' := [.ref 16, .int x1, .int x2, pm_no, pm_no, pm_no, pm_no, pm_no]) (pm_q0_9 (Nat.le_of_ble_eq_true rfl)) rfl (Or.inl rfl) pm_M117 T.e16 rfl (by decide) (T.lt (by decide)) rfl rfl (Nat.le_of_ble_eq_true rfl) rfl rfl ?_
  refine ex_inj WW KK rfl ?_
  refine cl_c117 G T (fun r1 m1 h1 T1 F1 W1 _ => ?_)
  intro WW KK
  show pm_R 100 0 856 [.ref 0, .ref 16, .ref 41, .int (Int32.ofNat n)] [.int r1] _ _
  have RR := R2_cl G T F1 (by decide) RR
  have I := p2_cl (j := j) G T Tr Y e0 S R hc T1 F1 (W1 0 (by decide)) (by decide) (by decide) (by decide) (by decide) (by decide) (by decide) (by decide)
  obtain ⟨ck, E, m, o, mr, wr, G, T, Tr, Y, e0, S, R, hc⟩ := I
  refine pm_R_op pm_M0 (pc' := 857) (st' := []) (pm_q0_9 (Nat.le_of_ble_eq_true rfl)) rfl rfl ?_
  refine pm_R_lo pm_M0 (pc' := 858) (pm_q0_9 (Nat.le_of_ble_eq_true rfl)) rfl rfl ?_
  refine pm_R_lo pm_M0 (pc' := 859) (pm_q0_9 (Nat.le_of_ble_eq_true rfl)) rfl rfl ?_
  refine pm_R_lo pm_M0 (pc' := 860) (pm_q0_9 (Nat.le_of_ble_eq_true rfl)) rfl rfl ?_
  refine pm_R_op pm_M0 (pc' := 861) (st' := [.int 1, .int (Int32.ofNat n), .ref 0, .ref 41]) (pm_q0_9 (Nat.le_of_ble_eq_true rfl)) rfl rfl ?_
  refine pm_R_op pm_M0 (pc' := 862) (st' := [.int (Int32.ofNat (n + 1)), .ref 0, .ref 41]) (pm_q0_9 (Nat.le_of_ble_eq_true rfl)) (congrArg (fun z => some (Value.int z :: [.ref 0, .ref 41])) (p2_ad (n := n) (c := 1) (k := 1) rfl)) rfl ?_
  refine pm_R_iald pm_M0 (pc' := 863) (v := x1) (pm_q0_9 (Nat.le_of_ble_eq_true rfl)) ((T.old (by decide)).trans e0) (T.lt (by decide)) (p2_in (by omega) hL) v1 rfl ?_
  refine pm_R_lo pm_M0 (pc' := 864) (pm_q0_9 (Nat.le_of_ble_eq_true rfl)) rfl rfl ?_
  refine pm_R_lo pm_M0 (pc' := 865) (pm_q0_9 (Nat.le_of_ble_eq_true rfl)) rfl rfl ?_
  refine pm_R_op pm_M0 (pc' := 866) (st' := [.int 2, .int (Int32.ofNat n), .ref 0, .int x1, .ref 41]) (pm_q0_9 (Nat.le_of_ble_eq_true rfl)) rfl rfl ?_
  refine pm_R_op pm_M0 (pc' := 867) (st' := [.int (Int32.ofNat (n + 2)), .ref 0, .int x1, .ref 41]) (pm_q0_9 (Nat.le_of_ble_eq_true rfl)) (congrArg (fun z => some (Value.int z :: [.ref 0, .int x1, .ref 41])) (p2_ad (n := n) (c := 2) (k := 2) rfl)) rfl ?_
  refine pm_R_iald pm_M0 (pc' := 868) (v := x2) (pm_q0_9 (Nat.le_of_ble_eq_true rfl)) ((T.old (by decide)).trans e0) (T.lt (by decide)) (p2_in (by omega) hL) v2 rfl ?_
  refine pm_R_cv pm_M0 (pc' := 871) (a := 41) (ra := [.int x2, .int x1]) (rest := []) (ls' := [.ref 41, .int x1, .int x2, pm_no, pm_no]) (pm_q0_9 (Nat.le_of_ble_eq_true rfl)) rfl (Or.inl rfl) pm_M238 Tr.2.1 rfl (by decide) (Nat.lt_of_lt_of_le (by decide) Tr.1) rfl rfl (Nat.le_of_ble_eq_true rfl) rfl rfl ?_
  refine ex_inj WW KK rfl ?_
  refine rf_c238 Tr (fun r2 m1 w1 h1 T1 F1 W1 _ => ?_)
  intro WW KK
  show pm_R 100 0 871 [.ref 0, .ref 16, .ref 41, .int (Int32.ofNat n)] [.int r2] _ _
  have RR := R2_rf F1 (by decide) RR
  have I := p2_rf G T Y e0 S R hc T1 F1 (by decide)
  refine pm_R_op pm_M0 (pc' := 872) (st' := []) (pm_q0_9 (Nat.le_of_ble_eq_true rfl)) rfl rfl ?_
  refine pm_R_br pm_M0 (pc' := 2117) (pm_q0_9 (Nat.le_of_ble_eq_true rfl)) rfl ?_
  exact K _ ⟨I, WW, KK, RR⟩

set_option maxRecDepth 100000 in
set_option maxHeartbeats 4000000 in
theorem p6_k15 {L n j : Nat} {xs : Nat → Int32} {h : pm_H} {Q : Option Value → pm_H → Prop} (I : p6_I L xs j h) (hn : n + 7 ≤ L) (hL : L ≤ 3584) (K : ∀ h', p6_I L xs (j + 1) h' → pm_R 100 0 2117 [.ref 0, .ref 16, .ref 41, .int (Int32.ofNat n)] [] h' Q) : pm_R 100 0 875 [.ref 0, .ref 16, .ref 41, .int (Int32.ofNat n)] [] h Q := by
  obtain ⟨x1, v1⟩ : ∃ y, xs (Int32.toNatClampNeg (Int32.ofNat (n + 1))) = y := ⟨_, rfl⟩
  obtain ⟨x2, v2⟩ : ∃ y, xs (Int32.toNatClampNeg (Int32.ofNat (n + 2))) = y := ⟨_, rfl⟩
  obtain ⟨x3, v3⟩ : ∃ y, xs (Int32.toNatClampNeg (Int32.ofNat (n + 3))) = y := ⟨_, rfl⟩
  obtain ⟨x4, v4⟩ : ∃ y, xs (Int32.toNatClampNeg (Int32.ofNat (n + 4))) = y := ⟨_, rfl⟩
  obtain ⟨I, WW, KK, RR⟩ := I
  obtain ⟨ck, E, m, o, mr, wr, G, T, Tr, Y, e0, S, R, hc⟩ := I
  refine pm_R_lo pm_M0 (pc' := 876) (pm_q0_9 (Nat.le_of_ble_eq_true rfl)) rfl rfl ?_
  refine pm_R_lo pm_M0 (pc' := 877) (pm_q0_9 (Nat.le_of_ble_eq_true rfl)) rfl rfl ?_
  refine pm_R_lo pm_M0 (pc' := 878) (pm_q0_9 (Nat.le_of_ble_eq_true rfl)) rfl rfl ?_
  refine pm_R_op pm_M0 (pc' := 879) (st' := [.int 1, .int (Int32.ofNat n), .ref 0, .ref 16]) (pm_q0_9 (Nat.le_of_ble_eq_true rfl)) rfl rfl ?_
  refine pm_R_op pm_M0 (pc' := 880) (st' := [.int (Int32.ofNat (n + 1)), .ref 0, .ref 16]) (pm_q0_9 (Nat.le_of_ble_eq_true rfl)) (congrArg (fun z => some (Value.int z :: [.ref 0, .ref 16])) (p2_ad (n := n) (c := 1) (k := 1) rfl)) rfl ?_
  refine pm_R_iald pm_M0 (pc' := 881) (v := x1) (pm_q0_9 (Nat.le_of_ble_eq_true rfl)) ((T.old (by decide)).trans e0) (T.lt (by decide)) (p2_in (by omega) hL) v1 rfl ?_
  refine pm_R_lo pm_M0 (pc' := 882) (pm_q0_9 (Nat.le_of_ble_eq_true rfl)) rfl rfl ?_
  refine pm_R_lo pm_M0 (pc' := 883) (pm_q0_9 (Nat.le_of_ble_eq_true rfl)) rfl rfl ?_
  refine pm_R_op pm_M0 (pc' := 884) (st' := [.int 2, .int (Int32.ofNat n), .ref 0, .int x1, .ref 16]) (pm_q0_9 (Nat.le_of_ble_eq_true rfl)) rfl rfl ?_
  refine pm_R_op pm_M0 (pc' := 885) (st' := [.int (Int32.ofNat (n + 2)), .ref 0, .int x1, .ref 16]) (pm_q0_9 (Nat.le_of_ble_eq_true rfl)) (congrArg (fun z => some (Value.int z :: [.ref 0, .int x1, .ref 16])) (p2_ad (n := n) (c := 2) (k := 2) rfl)) rfl ?_
  refine pm_R_iald pm_M0 (pc' := 886) (v := x2) (pm_q0_9 (Nat.le_of_ble_eq_true rfl)) ((T.old (by decide)).trans e0) (T.lt (by decide)) (p2_in (by omega) hL) v2 rfl ?_
  refine pm_R_lo pm_M0 (pc' := 887) (pm_q0_9 (Nat.le_of_ble_eq_true rfl)) rfl rfl ?_
  refine pm_R_lo pm_M0 (pc' := 888) (pm_q0_9 (Nat.le_of_ble_eq_true rfl)) rfl rfl ?_
  refine pm_R_op pm_M0 (pc' := 889) (st' := [.int 3, .int (Int32.ofNat n), .ref 0, .int x2, .int x1, .ref 16]) (pm_q0_9 (Nat.le_of_ble_eq_true rfl)) rfl rfl ?_
  refine pm_R_op pm_M0 (pc' := 890) (st' := [.int (Int32.ofNat (n + 3)), .ref 0, .int x2, .int x1, .ref 16]) (pm_q0_9 (Nat.le_of_ble_eq_true rfl)) (congrArg (fun z => some (Value.int z :: [.ref 0, .int x2, .int x1, .ref 16])) (p2_ad (n := n) (c := 3) (k := 3) rfl)) rfl ?_
  refine pm_R_iald pm_M0 (pc' := 891) (v := x3) (pm_q0_9 (Nat.le_of_ble_eq_true rfl)) ((T.old (by decide)).trans e0) (T.lt (by decide)) (p2_in (by omega) hL) v3 rfl ?_
  refine pm_R_lo pm_M0 (pc' := 892) (pm_q0_9 (Nat.le_of_ble_eq_true rfl)) rfl rfl ?_
  refine pm_R_lo pm_M0 (pc' := 893) (pm_q0_9 (Nat.le_of_ble_eq_true rfl)) rfl rfl ?_
  refine pm_R_op pm_M0 (pc' := 894) (st' := [.int 4, .int (Int32.ofNat n), .ref 0, .int x3, .int x2, .int x1, .ref 16]) (pm_q0_9 (Nat.le_of_ble_eq_true rfl)) rfl rfl ?_
  refine pm_R_op pm_M0 (pc' := 895) (st' := [.int (Int32.ofNat (n + 4)), .ref 0, .int x3, .int x2, .int x1, .ref 16]) (pm_q0_10 (Nat.le_of_ble_eq_true rfl)) (congrArg (fun z => some (Value.int z :: [.ref 0, .int x3, .int x2, .int x1, .ref 16])) (p2_ad (n := n) (c := 4) (k := 4) rfl)) rfl ?_
  refine pm_R_iald pm_M0 (pc' := 896) (v := x4) (pm_q0_10 (Nat.le_of_ble_eq_true rfl)) ((T.old (by decide)).trans e0) (T.lt (by decide)) (p2_in (by omega) hL) v4 rfl ?_
  refine pm_R_cv pm_M0 (pc' := 899) (a := 16) (ra := [.int x4, .int x3, .int x2, .int x1]) (rest := []) (ls' := [.ref 16, .int x1, .int x2, .int x3, .int x4]) (pm_q0_10 (Nat.le_of_ble_eq_true rfl)) rfl (Or.inl rfl) pm_M121 T.e16 rfl (by decide) (T.lt (by decide)) rfl rfl (Nat.le_of_ble_eq_true rfl) rfl rfl ?_
  suffices go : ∀ (r1 : Int32) (h1 : pm_H), p2_I L xs (j + 1) h1 → ex_W h1 → ex_K h1 → R2 (ex_V h1) → pm_R 100 0 899 [.ref 0, .ref 16, .ref 41, .int (Int32.ofNat n)] [.int r1] h1 Q by
    refine ex_inj WW KK rfl ?_
    refine cl_c121_x G T (fun r1 m1 h1 T1 F1 W1 X1 => ?_) (fun r1 m1 ck1 h1 A1 G1 T1 F1 W1 X1 => ?_)
    · exact fun WW KK => go _ _ (p2_clg (j := j) G T Tr S hc G T1 e0 (Y.cl G F1 (by decide)) (by obtain ⟨f, e, b⟩ := R; obtain ⟨f1, e1, b1⟩ := X1 f e; exact ⟨f1, e1, by omega⟩) F1 (W1 0 (by decide)) (by decide) (by decide) (by decide)) WW KK (R2_cl G T F1 (by decide) RR)
    · exact fun WW KK => go _ _ (p2_clg (j := j) G T Tr S hc G1 T1 e0 (Y.cl G F1 (by decide)) (by obtain ⟨f, e, b⟩ := R; obtain ⟨f1, e1, b1⟩ := X1 f e; exact ⟨f1, e1, by omega⟩) F1 (W1 0 (by decide)) (by decide) (by decide) (by decide)) WW KK (R2_cl G T F1 (by decide) RR)
  intro r1 h1 I WW KK RR
  obtain ⟨ck, E, m, o, mr, wr, G, T, Tr, Y, e0, S, R, hc⟩ := I
  refine pm_R_op pm_M0 (pc' := 900) (st' := []) (pm_q0_10 (Nat.le_of_ble_eq_true rfl)) rfl rfl ?_
  refine pm_R_lo pm_M0 (pc' := 901) (pm_q0_10 (Nat.le_of_ble_eq_true rfl)) rfl rfl ?_
  refine pm_R_lo pm_M0 (pc' := 902) (pm_q0_10 (Nat.le_of_ble_eq_true rfl)) rfl rfl ?_
  refine pm_R_lo pm_M0 (pc' := 903) (pm_q0_10 (Nat.le_of_ble_eq_true rfl)) rfl rfl ?_
  refine pm_R_op pm_M0 (pc' := 904) (st' := [.int 1, .int (Int32.ofNat n), .ref 0, .ref 41]) (pm_q0_10 (Nat.le_of_ble_eq_true rfl)) rfl rfl ?_
  refine pm_R_op pm_M0 (pc' := 905) (st' := [.int (Int32.ofNat (n + 1)), .ref 0, .ref 41]) (pm_q0_10 (Nat.le_of_ble_eq_true rfl)) (congrArg (fun z => some (Value.int z :: [.ref 0, .ref 41])) (p2_ad (n := n) (c := 1) (k := 1) rfl)) rfl ?_
  refine pm_R_iald pm_M0 (pc' := 906) (v := x1) (pm_q0_10 (Nat.le_of_ble_eq_true rfl)) ((T.old (by decide)).trans e0) (T.lt (by decide)) (p2_in (by omega) hL) v1 rfl ?_
  refine pm_R_lo pm_M0 (pc' := 907) (pm_q0_10 (Nat.le_of_ble_eq_true rfl)) rfl rfl ?_
  refine pm_R_lo pm_M0 (pc' := 908) (pm_q0_10 (Nat.le_of_ble_eq_true rfl)) rfl rfl ?_
  refine pm_R_op pm_M0 (pc' := 909) (st' := [.int 2, .int (Int32.ofNat n), .ref 0, .int x1, .ref 41]) (pm_q0_10 (Nat.le_of_ble_eq_true rfl)) rfl rfl ?_
  refine pm_R_op pm_M0 (pc' := 910) (st' := [.int (Int32.ofNat (n + 2)), .ref 0, .int x1, .ref 41]) (pm_q0_10 (Nat.le_of_ble_eq_true rfl)) (congrArg (fun z => some (Value.int z :: [.ref 0, .int x1, .ref 41])) (p2_ad (n := n) (c := 2) (k := 2) rfl)) rfl ?_
  refine pm_R_iald pm_M0 (pc' := 911) (v := x2) (pm_q0_10 (Nat.le_of_ble_eq_true rfl)) ((T.old (by decide)).trans e0) (T.lt (by decide)) (p2_in (by omega) hL) v2 rfl ?_
  refine pm_R_lo pm_M0 (pc' := 912) (pm_q0_10 (Nat.le_of_ble_eq_true rfl)) rfl rfl ?_
  refine pm_R_lo pm_M0 (pc' := 913) (pm_q0_10 (Nat.le_of_ble_eq_true rfl)) rfl rfl ?_
  refine pm_R_op pm_M0 (pc' := 914) (st' := [.int 3, .int (Int32.ofNat n), .ref 0, .int x2, .int x1, .ref 41]) (pm_q0_10 (Nat.le_of_ble_eq_true rfl)) rfl rfl ?_
  refine pm_R_op pm_M0 (pc' := 915) (st' := [.int (Int32.ofNat (n + 3)), .ref 0, .int x2, .int x1, .ref 41]) (pm_q0_10 (Nat.le_of_ble_eq_true rfl)) (congrArg (fun z => some (Value.int z :: [.ref 0, .int x2, .int x1, .ref 41])) (p2_ad (n := n) (c := 3) (k := 3) rfl)) rfl ?_
  refine pm_R_iald pm_M0 (pc' := 916) (v := x3) (pm_q0_10 (Nat.le_of_ble_eq_true rfl)) ((T.old (by decide)).trans e0) (T.lt (by decide)) (p2_in (by omega) hL) v3 rfl ?_
  refine pm_R_lo pm_M0 (pc' := 917) (pm_q0_10 (Nat.le_of_ble_eq_true rfl)) rfl rfl ?_
  refine pm_R_lo pm_M0 (pc' := 918) (pm_q0_10 (Nat.le_of_ble_eq_true rfl)) rfl rfl ?_
  refine pm_R_op pm_M0 (pc' := 919) (st' := [.int 4, .int (Int32.ofNat n), .ref 0, .int x3, .int x2, .int x1, .ref 41]) (pm_q0_10 (Nat.le_of_ble_eq_true rfl)) rfl rfl ?_
  refine pm_R_op pm_M0 (pc' := 920) (st' := [.int (Int32.ofNat (n + 4)), .ref 0, .int x3, .int x2, .int x1, .ref 41]) (pm_q0_10 (Nat.le_of_ble_eq_true rfl)) (congrArg (fun z => some (Value.int z :: [.ref 0, .int x3, .int x2, .int x1, .ref 41])) (p2_ad (n := n) (c := 4) (k := 4) rfl)) rfl ?_
  refine pm_R_iald pm_M0 (pc' := 921) (v := x4) (pm_q0_10 (Nat.le_of_ble_eq_true rfl)) ((T.old (by decide)).trans e0) (T.lt (by decide)) (p2_in (by omega) hL) v4 rfl ?_
  refine pm_R_cv pm_M0 (pc' := 924) (a := 41) (ra := [.int x4, .int x3, .int x2, .int x1]) (rest := []) (ls' := [.ref 41, .int x1, .int x2, .int x3, .int x4]) (pm_q0_10 (Nat.le_of_ble_eq_true rfl)) rfl (Or.inl rfl) pm_M240 Tr.2.1 rfl (by decide) (Nat.lt_of_lt_of_le (by decide) Tr.1) rfl rfl (Nat.le_of_ble_eq_true rfl) rfl rfl ?_
  refine ex_inj WW KK rfl ?_
  refine rf_c240 Tr (fun r2 m1 w1 h1 T1 F1 W1 _ => ?_)
  intro WW KK
  show pm_R 100 0 924 [.ref 0, .ref 16, .ref 41, .int (Int32.ofNat n)] [.int r2] _ _
  have RR := R2_rf F1 (by decide) RR
  have I := p2_rf G T Y e0 S R hc T1 F1 (by decide)
  refine pm_R_op pm_M0 (pc' := 925) (st' := []) (pm_q0_10 (Nat.le_of_ble_eq_true rfl)) rfl rfl ?_
  refine pm_R_br pm_M0 (pc' := 2117) (pm_q0_10 (Nat.le_of_ble_eq_true rfl)) rfl ?_
  exact K _ ⟨I, WW, KK, RR⟩

set_option maxRecDepth 100000 in
set_option maxHeartbeats 4000000 in
theorem p6_k16 {L n j : Nat} {xs : Nat → Int32} {h : pm_H} {Q : Option Value → pm_H → Prop} (I : p6_I L xs j h) (hn : n + 7 ≤ L) (hL : L ≤ 3584) (K : ∀ h', p6_I L xs (j + 1) h' → pm_R 100 0 2117 [.ref 0, .ref 16, .ref 41, .int (Int32.ofNat n)] [] h' Q) : pm_R 100 0 928 [.ref 0, .ref 16, .ref 41, .int (Int32.ofNat n)] [] h Q := by
  obtain ⟨x1, v1⟩ : ∃ y, xs (Int32.toNatClampNeg (Int32.ofNat (n + 1))) = y := ⟨_, rfl⟩
  obtain ⟨x2, v2⟩ : ∃ y, xs (Int32.toNatClampNeg (Int32.ofNat (n + 2))) = y := ⟨_, rfl⟩
  obtain ⟨x3, v3⟩ : ∃ y, xs (Int32.toNatClampNeg (Int32.ofNat (n + 3))) = y := ⟨_, rfl⟩
  obtain ⟨I, WW, KK, RR⟩ := I
  obtain ⟨ck, E, m, o, mr, wr, G, T, Tr, Y, e0, S, R, hc⟩ := I
  refine pm_R_lo pm_M0 (pc' := 929) (pm_q0_10 (Nat.le_of_ble_eq_true rfl)) rfl rfl ?_
  refine pm_R_lo pm_M0 (pc' := 930) (pm_q0_10 (Nat.le_of_ble_eq_true rfl)) rfl rfl ?_
  refine pm_R_lo pm_M0 (pc' := 931) (pm_q0_10 (Nat.le_of_ble_eq_true rfl)) rfl rfl ?_
  refine pm_R_op pm_M0 (pc' := 932) (st' := [.int 1, .int (Int32.ofNat n), .ref 0, .ref 16]) (pm_q0_10 (Nat.le_of_ble_eq_true rfl)) rfl rfl ?_
  refine pm_R_op pm_M0 (pc' := 933) (st' := [.int (Int32.ofNat (n + 1)), .ref 0, .ref 16]) (pm_q0_10 (Nat.le_of_ble_eq_true rfl)) (congrArg (fun z => some (Value.int z :: [.ref 0, .ref 16])) (p2_ad (n := n) (c := 1) (k := 1) rfl)) rfl ?_
  refine pm_R_iald pm_M0 (pc' := 934) (v := x1) (pm_q0_10 (Nat.le_of_ble_eq_true rfl)) ((T.old (by decide)).trans e0) (T.lt (by decide)) (p2_in (by omega) hL) v1 rfl ?_
  refine pm_R_lo pm_M0 (pc' := 935) (pm_q0_10 (Nat.le_of_ble_eq_true rfl)) rfl rfl ?_
  refine pm_R_lo pm_M0 (pc' := 936) (pm_q0_10 (Nat.le_of_ble_eq_true rfl)) rfl rfl ?_
  refine pm_R_op pm_M0 (pc' := 937) (st' := [.int 2, .int (Int32.ofNat n), .ref 0, .int x1, .ref 16]) (pm_q0_10 (Nat.le_of_ble_eq_true rfl)) rfl rfl ?_
  refine pm_R_op pm_M0 (pc' := 938) (st' := [.int (Int32.ofNat (n + 2)), .ref 0, .int x1, .ref 16]) (pm_q0_10 (Nat.le_of_ble_eq_true rfl)) (congrArg (fun z => some (Value.int z :: [.ref 0, .int x1, .ref 16])) (p2_ad (n := n) (c := 2) (k := 2) rfl)) rfl ?_
  refine pm_R_iald pm_M0 (pc' := 939) (v := x2) (pm_q0_10 (Nat.le_of_ble_eq_true rfl)) ((T.old (by decide)).trans e0) (T.lt (by decide)) (p2_in (by omega) hL) v2 rfl ?_
  refine pm_R_lo pm_M0 (pc' := 940) (pm_q0_10 (Nat.le_of_ble_eq_true rfl)) rfl rfl ?_
  refine pm_R_lo pm_M0 (pc' := 941) (pm_q0_10 (Nat.le_of_ble_eq_true rfl)) rfl rfl ?_
  refine pm_R_op pm_M0 (pc' := 942) (st' := [.int 3, .int (Int32.ofNat n), .ref 0, .int x2, .int x1, .ref 16]) (pm_q0_10 (Nat.le_of_ble_eq_true rfl)) rfl rfl ?_
  refine pm_R_op pm_M0 (pc' := 943) (st' := [.int (Int32.ofNat (n + 3)), .ref 0, .int x2, .int x1, .ref 16]) (pm_q0_10 (Nat.le_of_ble_eq_true rfl)) (congrArg (fun z => some (Value.int z :: [.ref 0, .int x2, .int x1, .ref 16])) (p2_ad (n := n) (c := 3) (k := 3) rfl)) rfl ?_
  refine pm_R_iald pm_M0 (pc' := 944) (v := x3) (pm_q0_10 (Nat.le_of_ble_eq_true rfl)) ((T.old (by decide)).trans e0) (T.lt (by decide)) (p2_in (by omega) hL) v3 rfl ?_
  refine pm_R_cv pm_M0 (pc' := 947) (a := 16) (ra := [.int x3, .int x2, .int x1]) (rest := []) (ls' := [.ref 16, .int x1, .int x2, .int x3]) (pm_q0_10 (Nat.le_of_ble_eq_true rfl)) rfl (Or.inl rfl) pm_M135 T.e16 rfl (by decide) (T.lt (by decide)) rfl rfl (Nat.le_of_ble_eq_true rfl) rfl rfl ?_
  suffices go : ∀ (r1 : Int32) (h1 : pm_H), p2_I L xs (j + 1) h1 → ex_W h1 → ex_K h1 → R2 (ex_V h1) → pm_R 100 0 947 [.ref 0, .ref 16, .ref 41, .int (Int32.ofNat n)] [.int r1] h1 Q by
    refine ex_inj WW KK rfl ?_
    refine cl_c135_x G T (fun r1 m1 h1 T1 F1 W1 X1 => ?_) (fun r1 m1 ck1 h1 A1 G1 T1 F1 W1 X1 => ?_)
    · exact fun WW KK => go _ _ (p2_clg (j := j) G T Tr S hc G T1 e0 (Y.cl G F1 (by decide)) (by obtain ⟨f, e, b⟩ := R; obtain ⟨f1, e1, b1⟩ := X1 f e; exact ⟨f1, e1, by omega⟩) F1 (W1 0 (by decide)) (by decide) (by decide) (by decide)) WW KK (R2_cl G T F1 (by decide) RR)
    · exact fun WW KK => go _ _ (p2_clg (j := j) G T Tr S hc G1 T1 e0 (Y.cl G F1 (by decide)) (by obtain ⟨f, e, b⟩ := R; obtain ⟨f1, e1, b1⟩ := X1 f e; exact ⟨f1, e1, by omega⟩) F1 (W1 0 (by decide)) (by decide) (by decide) (by decide)) WW KK (R2_cl G T F1 (by decide) RR)
  intro r1 h1 I WW KK RR
  obtain ⟨ck, E, m, o, mr, wr, G, T, Tr, Y, e0, S, R, hc⟩ := I
  refine pm_R_op pm_M0 (pc' := 948) (st' := []) (pm_q0_10 (Nat.le_of_ble_eq_true rfl)) rfl rfl ?_
  refine pm_R_lo pm_M0 (pc' := 949) (pm_q0_10 (Nat.le_of_ble_eq_true rfl)) rfl rfl ?_
  refine pm_R_lo pm_M0 (pc' := 950) (pm_q0_10 (Nat.le_of_ble_eq_true rfl)) rfl rfl ?_
  refine pm_R_lo pm_M0 (pc' := 951) (pm_q0_10 (Nat.le_of_ble_eq_true rfl)) rfl rfl ?_
  refine pm_R_op pm_M0 (pc' := 952) (st' := [.int 1, .int (Int32.ofNat n), .ref 0, .ref 41]) (pm_q0_10 (Nat.le_of_ble_eq_true rfl)) rfl rfl ?_
  refine pm_R_op pm_M0 (pc' := 953) (st' := [.int (Int32.ofNat (n + 1)), .ref 0, .ref 41]) (pm_q0_10 (Nat.le_of_ble_eq_true rfl)) (congrArg (fun z => some (Value.int z :: [.ref 0, .ref 41])) (p2_ad (n := n) (c := 1) (k := 1) rfl)) rfl ?_
  refine pm_R_iald pm_M0 (pc' := 954) (v := x1) (pm_q0_10 (Nat.le_of_ble_eq_true rfl)) ((T.old (by decide)).trans e0) (T.lt (by decide)) (p2_in (by omega) hL) v1 rfl ?_
  refine pm_R_lo pm_M0 (pc' := 955) (pm_q0_10 (Nat.le_of_ble_eq_true rfl)) rfl rfl ?_
  refine pm_R_lo pm_M0 (pc' := 956) (pm_q0_10 (Nat.le_of_ble_eq_true rfl)) rfl rfl ?_
  refine pm_R_op pm_M0 (pc' := 957) (st' := [.int 2, .int (Int32.ofNat n), .ref 0, .int x1, .ref 41]) (pm_q0_10 (Nat.le_of_ble_eq_true rfl)) rfl rfl ?_
  refine pm_R_op pm_M0 (pc' := 958) (st' := [.int (Int32.ofNat (n + 2)), .ref 0, .int x1, .ref 41]) (pm_q0_10 (Nat.le_of_ble_eq_true rfl)) (congrArg (fun z => some (Value.int z :: [.ref 0, .int x1, .ref 41])) (p2_ad (n := n) (c := 2) (k := 2) rfl)) rfl ?_
  refine pm_R_iald pm_M0 (pc' := 959) (v := x2) (pm_q0_10 (Nat.le_of_ble_eq_true rfl)) ((T.old (by decide)).trans e0) (T.lt (by decide)) (p2_in (by omega) hL) v2 rfl ?_
  refine pm_R_lo pm_M0 (pc' := 960) (pm_q0_10 (Nat.le_of_ble_eq_true rfl)) rfl rfl ?_
  refine pm_R_lo pm_M0 (pc' := 961) (pm_q0_10 (Nat.le_of_ble_eq_true rfl)) rfl rfl ?_
  refine pm_R_op pm_M0 (pc' := 962) (st' := [.int 3, .int (Int32.ofNat n), .ref 0, .int x2, .int x1, .ref 41]) (pm_q0_10 (Nat.le_of_ble_eq_true rfl)) rfl rfl ?_
  refine pm_R_op pm_M0 (pc' := 963) (st' := [.int (Int32.ofNat (n + 3)), .ref 0, .int x2, .int x1, .ref 41]) (pm_q0_11 (Nat.le_of_ble_eq_true rfl)) (congrArg (fun z => some (Value.int z :: [.ref 0, .int x2, .int x1, .ref 41])) (p2_ad (n := n) (c := 3) (k := 3) rfl)) rfl ?_
  refine pm_R_iald pm_M0 (pc' := 964) (v := x3) (pm_q0_11 (Nat.le_of_ble_eq_true rfl)) ((T.old (by decide)).trans e0) (T.lt (by decide)) (p2_in (by omega) hL) v3 rfl ?_
  refine pm_R_cv pm_M0 (pc' := 967) (a := 41) (ra := [.int x3, .int x2, .int x1]) (rest := []) (ls' := [.ref 41, .int x1, .int x2, .int x3, pm_no, pm_no]) (pm_q0_11 (Nat.le_of_ble_eq_true rfl)) rfl (Or.inl rfl) pm_M247 Tr.2.1 rfl (by decide) (Nat.lt_of_lt_of_le (by decide) Tr.1) rfl rfl (Nat.le_of_ble_eq_true rfl) rfl rfl ?_
  refine ex_inj WW KK rfl ?_
  refine rf_c247 Tr (fun r2 m1 w1 h1 T1 F1 W1 _ => ?_)
  intro WW KK
  show pm_R 100 0 967 [.ref 0, .ref 16, .ref 41, .int (Int32.ofNat n)] [.int r2] _ _
  have RR := R2_rf F1 (by decide) RR
  have I := p2_rf G T Y e0 S R hc T1 F1 (by decide)
  refine pm_R_op pm_M0 (pc' := 968) (st' := []) (pm_q0_11 (Nat.le_of_ble_eq_true rfl)) rfl rfl ?_
  refine pm_R_br pm_M0 (pc' := 2117) (pm_q0_11 (Nat.le_of_ble_eq_true rfl)) rfl ?_
  exact K _ ⟨I, WW, KK, RR⟩

set_option maxRecDepth 100000 in
set_option maxHeartbeats 4000000 in
theorem p6_k17 {L n j : Nat} {xs : Nat → Int32} {h : pm_H} {Q : Option Value → pm_H → Prop} (I : p6_I L xs j h) (hn : n + 7 ≤ L) (hL : L ≤ 3584) (K : ∀ h', p6_I L xs (j + 1) h' → pm_R 100 0 2117 [.ref 0, .ref 16, .ref 41, .int (Int32.ofNat n)] [] h' Q) : pm_R 100 0 971 [.ref 0, .ref 16, .ref 41, .int (Int32.ofNat n)] [] h Q := by
  obtain ⟨x1, v1⟩ : ∃ y, xs (Int32.toNatClampNeg (Int32.ofNat (n + 1))) = y := ⟨_, rfl⟩
  obtain ⟨x2, v2⟩ : ∃ y, xs (Int32.toNatClampNeg (Int32.ofNat (n + 2))) = y := ⟨_, rfl⟩
  obtain ⟨x3, v3⟩ : ∃ y, xs (Int32.toNatClampNeg (Int32.ofNat (n + 3))) = y := ⟨_, rfl⟩
  obtain ⟨I, WW, KK, RR⟩ := I
  obtain ⟨ck, E, m, o, mr, wr, G, T, Tr, Y, e0, S, R, hc⟩ := I
  refine pm_R_lo pm_M0 (pc' := 972) (pm_q0_11 (Nat.le_of_ble_eq_true rfl)) rfl rfl ?_
  refine pm_R_lo pm_M0 (pc' := 973) (pm_q0_11 (Nat.le_of_ble_eq_true rfl)) rfl rfl ?_
  refine pm_R_lo pm_M0 (pc' := 974) (pm_q0_11 (Nat.le_of_ble_eq_true rfl)) rfl rfl ?_
  refine pm_R_op pm_M0 (pc' := 975) (st' := [.int 1, .int (Int32.ofNat n), .ref 0, .ref 16]) (pm_q0_11 (Nat.le_of_ble_eq_true rfl)) rfl rfl ?_
  refine pm_R_op pm_M0 (pc' := 976) (st' := [.int (Int32.ofNat (n + 1)), .ref 0, .ref 16]) (pm_q0_11 (Nat.le_of_ble_eq_true rfl)) (congrArg (fun z => some (Value.int z :: [.ref 0, .ref 16])) (p2_ad (n := n) (c := 1) (k := 1) rfl)) rfl ?_
  refine pm_R_iald pm_M0 (pc' := 977) (v := x1) (pm_q0_11 (Nat.le_of_ble_eq_true rfl)) ((T.old (by decide)).trans e0) (T.lt (by decide)) (p2_in (by omega) hL) v1 rfl ?_
  refine pm_R_lo pm_M0 (pc' := 978) (pm_q0_11 (Nat.le_of_ble_eq_true rfl)) rfl rfl ?_
  refine pm_R_lo pm_M0 (pc' := 979) (pm_q0_11 (Nat.le_of_ble_eq_true rfl)) rfl rfl ?_
  refine pm_R_op pm_M0 (pc' := 980) (st' := [.int 2, .int (Int32.ofNat n), .ref 0, .int x1, .ref 16]) (pm_q0_11 (Nat.le_of_ble_eq_true rfl)) rfl rfl ?_
  refine pm_R_op pm_M0 (pc' := 981) (st' := [.int (Int32.ofNat (n + 2)), .ref 0, .int x1, .ref 16]) (pm_q0_11 (Nat.le_of_ble_eq_true rfl)) (congrArg (fun z => some (Value.int z :: [.ref 0, .int x1, .ref 16])) (p2_ad (n := n) (c := 2) (k := 2) rfl)) rfl ?_
  refine pm_R_iald pm_M0 (pc' := 982) (v := x2) (pm_q0_11 (Nat.le_of_ble_eq_true rfl)) ((T.old (by decide)).trans e0) (T.lt (by decide)) (p2_in (by omega) hL) v2 rfl ?_
  refine pm_R_lo pm_M0 (pc' := 983) (pm_q0_11 (Nat.le_of_ble_eq_true rfl)) rfl rfl ?_
  refine pm_R_lo pm_M0 (pc' := 984) (pm_q0_11 (Nat.le_of_ble_eq_true rfl)) rfl rfl ?_
  refine pm_R_op pm_M0 (pc' := 985) (st' := [.int 3, .int (Int32.ofNat n), .ref 0, .int x2, .int x1, .ref 16]) (pm_q0_11 (Nat.le_of_ble_eq_true rfl)) rfl rfl ?_
  refine pm_R_op pm_M0 (pc' := 986) (st' := [.int (Int32.ofNat (n + 3)), .ref 0, .int x2, .int x1, .ref 16]) (pm_q0_11 (Nat.le_of_ble_eq_true rfl)) (congrArg (fun z => some (Value.int z :: [.ref 0, .int x2, .int x1, .ref 16])) (p2_ad (n := n) (c := 3) (k := 3) rfl)) rfl ?_
  refine pm_R_iald pm_M0 (pc' := 987) (v := x3) (pm_q0_11 (Nat.le_of_ble_eq_true rfl)) ((T.old (by decide)).trans e0) (T.lt (by decide)) (p2_in (by omega) hL) v3 rfl ?_
  refine pm_R_cv pm_M0 (pc' := 990) (a := 16) (ra := [.int x3, .int x2, .int x1]) (rest := []) (ls' := [.ref 16, .int x1, .int x2, .int x3, pm_no, pm_no, pm_no, pm_no]) (pm_q0_11 (Nat.le_of_ble_eq_true rfl)) rfl (Or.inl rfl) pm_M112 T.e16 rfl (by decide) (T.lt (by decide)) rfl rfl (Nat.le_of_ble_eq_true rfl) rfl rfl ?_
  refine ex_inj WW KK rfl ?_
  refine cl_c112 G T (fun r1 m1 h1 T1 F1 W1 => ?_)
  intro WW KK
  show pm_R 100 0 990 [.ref 0, .ref 16, .ref 41, .int (Int32.ofNat n)] [.int r1] _ _
  have RR := R2_cl G T F1 (by decide) RR
  have I := p2_cl (j := j) G T Tr Y e0 S R hc T1 F1 (W1 0 (by decide)) (by decide) (by decide) (by decide) (by decide) (by decide) (by decide) (by decide)
  obtain ⟨ck, E, m, o, mr, wr, G, T, Tr, Y, e0, S, R, hc⟩ := I
  refine pm_R_op pm_M0 (pc' := 991) (st' := []) (pm_q0_11 (Nat.le_of_ble_eq_true rfl)) rfl rfl ?_
  refine pm_R_lo pm_M0 (pc' := 992) (pm_q0_11 (Nat.le_of_ble_eq_true rfl)) rfl rfl ?_
  refine pm_R_lo pm_M0 (pc' := 993) (pm_q0_11 (Nat.le_of_ble_eq_true rfl)) rfl rfl ?_
  refine pm_R_lo pm_M0 (pc' := 994) (pm_q0_11 (Nat.le_of_ble_eq_true rfl)) rfl rfl ?_
  refine pm_R_op pm_M0 (pc' := 995) (st' := [.int 1, .int (Int32.ofNat n), .ref 0, .ref 41]) (pm_q0_11 (Nat.le_of_ble_eq_true rfl)) rfl rfl ?_
  refine pm_R_op pm_M0 (pc' := 996) (st' := [.int (Int32.ofNat (n + 1)), .ref 0, .ref 41]) (pm_q0_11 (Nat.le_of_ble_eq_true rfl)) (congrArg (fun z => some (Value.int z :: [.ref 0, .ref 41])) (p2_ad (n := n) (c := 1) (k := 1) rfl)) rfl ?_
  refine pm_R_iald pm_M0 (pc' := 997) (v := x1) (pm_q0_11 (Nat.le_of_ble_eq_true rfl)) ((T.old (by decide)).trans e0) (T.lt (by decide)) (p2_in (by omega) hL) v1 rfl ?_
  refine pm_R_lo pm_M0 (pc' := 998) (pm_q0_11 (Nat.le_of_ble_eq_true rfl)) rfl rfl ?_
  refine pm_R_lo pm_M0 (pc' := 999) (pm_q0_11 (Nat.le_of_ble_eq_true rfl)) rfl rfl ?_
  refine pm_R_op pm_M0 (pc' := 1000) (st' := [.int 2, .int (Int32.ofNat n), .ref 0, .int x1, .ref 41]) (pm_q0_11 (Nat.le_of_ble_eq_true rfl)) rfl rfl ?_
  refine pm_R_op pm_M0 (pc' := 1001) (st' := [.int (Int32.ofNat (n + 2)), .ref 0, .int x1, .ref 41]) (pm_q0_11 (Nat.le_of_ble_eq_true rfl)) (congrArg (fun z => some (Value.int z :: [.ref 0, .int x1, .ref 41])) (p2_ad (n := n) (c := 2) (k := 2) rfl)) rfl ?_
  refine pm_R_iald pm_M0 (pc' := 1002) (v := x2) (pm_q0_11 (Nat.le_of_ble_eq_true rfl)) ((T.old (by decide)).trans e0) (T.lt (by decide)) (p2_in (by omega) hL) v2 rfl ?_
  refine pm_R_lo pm_M0 (pc' := 1003) (pm_q0_11 (Nat.le_of_ble_eq_true rfl)) rfl rfl ?_
  refine pm_R_lo pm_M0 (pc' := 1004) (pm_q0_11 (Nat.le_of_ble_eq_true rfl)) rfl rfl ?_
  refine pm_R_op pm_M0 (pc' := 1005) (st' := [.int 3, .int (Int32.ofNat n), .ref 0, .int x2, .int x1, .ref 41]) (pm_q0_11 (Nat.le_of_ble_eq_true rfl)) rfl rfl ?_
  refine pm_R_op pm_M0 (pc' := 1006) (st' := [.int (Int32.ofNat (n + 3)), .ref 0, .int x2, .int x1, .ref 41]) (pm_q0_11 (Nat.le_of_ble_eq_true rfl)) (congrArg (fun z => some (Value.int z :: [.ref 0, .int x2, .int x1, .ref 41])) (p2_ad (n := n) (c := 3) (k := 3) rfl)) rfl ?_
  refine pm_R_iald pm_M0 (pc' := 1007) (v := x3) (pm_q0_11 (Nat.le_of_ble_eq_true rfl)) ((T.old (by decide)).trans e0) (T.lt (by decide)) (p2_in (by omega) hL) v3 rfl ?_
  refine pm_R_cv pm_M0 (pc' := 1010) (a := 41) (ra := [.int x3, .int x2, .int x1]) (rest := []) (ls' := [.ref 41, .int x1, .int x2, .int x3, pm_no, pm_no]) (pm_q0_11 (Nat.le_of_ble_eq_true rfl)) rfl (Or.inl rfl) pm_M249 Tr.2.1 rfl (by decide) (Nat.lt_of_lt_of_le (by decide) Tr.1) rfl rfl (Nat.le_of_ble_eq_true rfl) rfl rfl ?_
  refine ex_inj WW KK rfl ?_
  refine rf_c249 Tr (fun r2 m1 w1 h1 T1 F1 W1 => ?_)
  intro WW KK
  show pm_R 100 0 1010 [.ref 0, .ref 16, .ref 41, .int (Int32.ofNat n)] [.int r2] _ _
  have RR := R2_rf F1 (by decide) RR
  have I := p2_rf G T Y e0 S R hc T1 F1 (by decide)
  refine pm_R_op pm_M0 (pc' := 1011) (st' := []) (pm_q0_11 (Nat.le_of_ble_eq_true rfl)) rfl rfl ?_
  refine pm_R_br pm_M0 (pc' := 2117) (pm_q0_11 (Nat.le_of_ble_eq_true rfl)) rfl ?_
  exact K _ ⟨I, WW, KK, RR⟩

set_option maxRecDepth 100000 in
set_option maxHeartbeats 4000000 in
theorem p6_k18 {L n j : Nat} {xs : Nat → Int32} {h : pm_H} {Q : Option Value → pm_H → Prop} (I : p6_I L xs j h) (hn : n + 7 ≤ L) (hL : L ≤ 3584) (K : ∀ h', p6_I L xs (j + 1) h' → pm_R 100 0 2117 [.ref 0, .ref 16, .ref 41, .int (Int32.ofNat n)] [] h' Q) : pm_R 100 0 1014 [.ref 0, .ref 16, .ref 41, .int (Int32.ofNat n)] [] h Q := by
  obtain ⟨x1, v1⟩ : ∃ y, xs (Int32.toNatClampNeg (Int32.ofNat (n + 1))) = y := ⟨_, rfl⟩
  obtain ⟨x2, v2⟩ : ∃ y, xs (Int32.toNatClampNeg (Int32.ofNat (n + 2))) = y := ⟨_, rfl⟩
  obtain ⟨I, WW, KK, RR⟩ := I
  obtain ⟨ck, E, m, o, mr, wr, G, T, Tr, Y, e0, S, R, hc⟩ := I
  refine pm_R_lo pm_M0 (pc' := 1015) (pm_q0_11 (Nat.le_of_ble_eq_true rfl)) rfl rfl ?_
  refine pm_R_lo pm_M0 (pc' := 1016) (pm_q0_11 (Nat.le_of_ble_eq_true rfl)) rfl rfl ?_
  refine pm_R_lo pm_M0 (pc' := 1017) (pm_q0_11 (Nat.le_of_ble_eq_true rfl)) rfl rfl ?_
  refine pm_R_op pm_M0 (pc' := 1018) (st' := [.int 1, .int (Int32.ofNat n), .ref 0, .ref 16]) (pm_q0_11 (Nat.le_of_ble_eq_true rfl)) rfl rfl ?_
  refine pm_R_op pm_M0 (pc' := 1019) (st' := [.int (Int32.ofNat (n + 1)), .ref 0, .ref 16]) (pm_q0_11 (Nat.le_of_ble_eq_true rfl)) (congrArg (fun z => some (Value.int z :: [.ref 0, .ref 16])) (p2_ad (n := n) (c := 1) (k := 1) rfl)) rfl ?_
  refine pm_R_iald pm_M0 (pc' := 1020) (v := x1) (pm_q0_11 (Nat.le_of_ble_eq_true rfl)) ((T.old (by decide)).trans e0) (T.lt (by decide)) (p2_in (by omega) hL) v1 rfl ?_
  refine pm_R_lo pm_M0 (pc' := 1021) (pm_q0_11 (Nat.le_of_ble_eq_true rfl)) rfl rfl ?_
  refine pm_R_lo pm_M0 (pc' := 1022) (pm_q0_11 (Nat.le_of_ble_eq_true rfl)) rfl rfl ?_
  refine pm_R_op pm_M0 (pc' := 1023) (st' := [.int 2, .int (Int32.ofNat n), .ref 0, .int x1, .ref 16]) (pm_q0_11 (Nat.le_of_ble_eq_true rfl)) rfl rfl ?_
  refine pm_R_op pm_M0 (pc' := 1024) (st' := [.int (Int32.ofNat (n + 2)), .ref 0, .int x1, .ref 16]) (pm_q0_11 (Nat.le_of_ble_eq_true rfl)) (congrArg (fun z => some (Value.int z :: [.ref 0, .int x1, .ref 16])) (p2_ad (n := n) (c := 2) (k := 2) rfl)) rfl ?_
  refine pm_R_iald pm_M0 (pc' := 1025) (v := x2) (pm_q0_11 (Nat.le_of_ble_eq_true rfl)) ((T.old (by decide)).trans e0) (T.lt (by decide)) (p2_in (by omega) hL) v2 rfl ?_
  refine pm_R_cv pm_M0 (pc' := 1028) (a := 16) (ra := [.int x2, .int x1]) (rest := []) (ls' := [.ref 16, .int x1, .int x2, pm_no, pm_no, pm_no, pm_no, pm_no, pm_no]) (pm_q0_11 (Nat.le_of_ble_eq_true rfl)) rfl (Or.inl rfl) pm_M113 T.e16 rfl (by decide) (T.lt (by decide)) rfl rfl (Nat.le_of_ble_eq_true rfl) rfl rfl ?_
  refine ex_inj WW KK rfl ?_
  refine cl_c113 G T (fun r1 m1 h1 T1 F1 W1 => ?_)
  intro WW KK
  show pm_R 100 0 1028 [.ref 0, .ref 16, .ref 41, .int (Int32.ofNat n)] [.int r1] _ _
  have RR := R2_cl G T F1 (by decide) RR
  have I := p2_cl (j := j) G T Tr Y e0 S R hc T1 F1 (W1 0 (by decide)) (by decide) (by decide) (by decide) (by decide) (by decide) (by decide) (by decide)
  obtain ⟨ck, E, m, o, mr, wr, G, T, Tr, Y, e0, S, R, hc⟩ := I
  refine pm_R_op pm_M0 (pc' := 1029) (st' := []) (pm_q0_11 (Nat.le_of_ble_eq_true rfl)) rfl rfl ?_
  refine pm_R_lo pm_M0 (pc' := 1030) (pm_q0_11 (Nat.le_of_ble_eq_true rfl)) rfl rfl ?_
  refine pm_R_lo pm_M0 (pc' := 1031) (pm_q0_11 (Nat.le_of_ble_eq_true rfl)) rfl rfl ?_
  refine pm_R_lo pm_M0 (pc' := 1032) (pm_q0_11 (Nat.le_of_ble_eq_true rfl)) rfl rfl ?_
  refine pm_R_op pm_M0 (pc' := 1033) (st' := [.int 1, .int (Int32.ofNat n), .ref 0, .ref 41]) (pm_q0_11 (Nat.le_of_ble_eq_true rfl)) rfl rfl ?_
  refine pm_R_op pm_M0 (pc' := 1034) (st' := [.int (Int32.ofNat (n + 1)), .ref 0, .ref 41]) (pm_q0_11 (Nat.le_of_ble_eq_true rfl)) (congrArg (fun z => some (Value.int z :: [.ref 0, .ref 41])) (p2_ad (n := n) (c := 1) (k := 1) rfl)) rfl ?_
  refine pm_R_iald pm_M0 (pc' := 1035) (v := x1) (pm_q0_12 (Nat.le_of_ble_eq_true rfl)) ((T.old (by decide)).trans e0) (T.lt (by decide)) (p2_in (by omega) hL) v1 rfl ?_
  refine pm_R_lo pm_M0 (pc' := 1036) (pm_q0_12 (Nat.le_of_ble_eq_true rfl)) rfl rfl ?_
  refine pm_R_lo pm_M0 (pc' := 1037) (pm_q0_12 (Nat.le_of_ble_eq_true rfl)) rfl rfl ?_
  refine pm_R_op pm_M0 (pc' := 1038) (st' := [.int 2, .int (Int32.ofNat n), .ref 0, .int x1, .ref 41]) (pm_q0_12 (Nat.le_of_ble_eq_true rfl)) rfl rfl ?_
  refine pm_R_op pm_M0 (pc' := 1039) (st' := [.int (Int32.ofNat (n + 2)), .ref 0, .int x1, .ref 41]) (pm_q0_12 (Nat.le_of_ble_eq_true rfl)) (congrArg (fun z => some (Value.int z :: [.ref 0, .int x1, .ref 41])) (p2_ad (n := n) (c := 2) (k := 2) rfl)) rfl ?_
  refine pm_R_iald pm_M0 (pc' := 1040) (v := x2) (pm_q0_12 (Nat.le_of_ble_eq_true rfl)) ((T.old (by decide)).trans e0) (T.lt (by decide)) (p2_in (by omega) hL) v2 rfl ?_
  refine pm_R_cv pm_M0 (pc' := 1043) (a := 41) (ra := [.int x2, .int x1]) (rest := []) (ls' := [.ref 41, .int x1, .int x2, pm_no, pm_no, pm_no, pm_no, pm_no, pm_no]) (pm_q0_12 (Nat.le_of_ble_eq_true rfl)) rfl (Or.inl rfl) pm_M251 Tr.2.1 rfl (by decide) (Nat.lt_of_lt_of_le (by decide) Tr.1) rfl rfl (Nat.le_of_ble_eq_true rfl) rfl rfl ?_
  refine ex_inj WW KK rfl ?_
  refine rf_c251 Tr (fun r2 m1 w1 h1 T1 F1 W1 => ?_)
  intro WW KK
  show pm_R 100 0 1043 [.ref 0, .ref 16, .ref 41, .int (Int32.ofNat n)] [.int r2] _ _
  have RR := R2_rf F1 (by decide) RR
  have I := p2_rf G T Y e0 S R hc T1 F1 (by decide)
  refine pm_R_op pm_M0 (pc' := 1044) (st' := []) (pm_q0_12 (Nat.le_of_ble_eq_true rfl)) rfl rfl ?_
  refine pm_R_br pm_M0 (pc' := 2117) (pm_q0_12 (Nat.le_of_ble_eq_true rfl)) rfl ?_
  exact K _ ⟨I, WW, KK, RR⟩

set_option maxRecDepth 100000 in
set_option maxHeartbeats 4000000 in
theorem p6_k19 {L n j : Nat} {xs : Nat → Int32} {h : pm_H} {Q : Option Value → pm_H → Prop} (I : p6_I L xs j h) (hn : n + 7 ≤ L) (hL : L ≤ 3584) (K : ∀ h', p6_I L xs (j + 1) h' → pm_R 100 0 2117 [.ref 0, .ref 16, .ref 41, .int (Int32.ofNat n)] [] h' Q) : pm_R 100 0 1047 [.ref 0, .ref 16, .ref 41, .int (Int32.ofNat n)] [] h Q := by
  obtain ⟨x1, v1⟩ : ∃ y, xs (Int32.toNatClampNeg (Int32.ofNat (n + 1))) = y := ⟨_, rfl⟩
  obtain ⟨x2, v2⟩ : ∃ y, xs (Int32.toNatClampNeg (Int32.ofNat (n + 2))) = y := ⟨_, rfl⟩
  obtain ⟨x3, v3⟩ : ∃ y, xs (Int32.toNatClampNeg (Int32.ofNat (n + 3))) = y := ⟨_, rfl⟩
  obtain ⟨I, WW, KK, RR⟩ := I
  obtain ⟨ck, E, m, o, mr, wr, G, T, Tr, Y, e0, S, R, hc⟩ := I
  refine pm_R_lo pm_M0 (pc' := 1048) (pm_q0_12 (Nat.le_of_ble_eq_true rfl)) rfl rfl ?_
  refine pm_R_lo pm_M0 (pc' := 1049) (pm_q0_12 (Nat.le_of_ble_eq_true rfl)) rfl rfl ?_
  refine pm_R_lo pm_M0 (pc' := 1050) (pm_q0_12 (Nat.le_of_ble_eq_true rfl)) rfl rfl ?_
  refine pm_R_op pm_M0 (pc' := 1051) (st' := [.int 1, .int (Int32.ofNat n), .ref 0, .ref 16]) (pm_q0_12 (Nat.le_of_ble_eq_true rfl)) rfl rfl ?_
  refine pm_R_op pm_M0 (pc' := 1052) (st' := [.int (Int32.ofNat (n + 1)), .ref 0, .ref 16]) (pm_q0_12 (Nat.le_of_ble_eq_true rfl)) (congrArg (fun z => some (Value.int z :: [.ref 0, .ref 16])) (p2_ad (n := n) (c := 1) (k := 1) rfl)) rfl ?_
  refine pm_R_iald pm_M0 (pc' := 1053) (v := x1) (pm_q0_12 (Nat.le_of_ble_eq_true rfl)) ((T.old (by decide)).trans e0) (T.lt (by decide)) (p2_in (by omega) hL) v1 rfl ?_
  refine pm_R_lo pm_M0 (pc' := 1054) (pm_q0_12 (Nat.le_of_ble_eq_true rfl)) rfl rfl ?_
  refine pm_R_lo pm_M0 (pc' := 1055) (pm_q0_12 (Nat.le_of_ble_eq_true rfl)) rfl rfl ?_
  refine pm_R_op pm_M0 (pc' := 1056) (st' := [.int 2, .int (Int32.ofNat n), .ref 0, .int x1, .ref 16]) (pm_q0_12 (Nat.le_of_ble_eq_true rfl)) rfl rfl ?_
  refine pm_R_op pm_M0 (pc' := 1057) (st' := [.int (Int32.ofNat (n + 2)), .ref 0, .int x1, .ref 16]) (pm_q0_12 (Nat.le_of_ble_eq_true rfl)) (congrArg (fun z => some (Value.int z :: [.ref 0, .int x1, .ref 16])) (p2_ad (n := n) (c := 2) (k := 2) rfl)) rfl ?_
  refine pm_R_iald pm_M0 (pc' := 1058) (v := x2) (pm_q0_12 (Nat.le_of_ble_eq_true rfl)) ((T.old (by decide)).trans e0) (T.lt (by decide)) (p2_in (by omega) hL) v2 rfl ?_
  refine pm_R_lo pm_M0 (pc' := 1059) (pm_q0_12 (Nat.le_of_ble_eq_true rfl)) rfl rfl ?_
  refine pm_R_lo pm_M0 (pc' := 1060) (pm_q0_12 (Nat.le_of_ble_eq_true rfl)) rfl rfl ?_
  refine pm_R_op pm_M0 (pc' := 1061) (st' := [.int 3, .int (Int32.ofNat n), .ref 0, .int x2, .int x1, .ref 16]) (pm_q0_12 (Nat.le_of_ble_eq_true rfl)) rfl rfl ?_
  refine pm_R_op pm_M0 (pc' := 1062) (st' := [.int (Int32.ofNat (n + 3)), .ref 0, .int x2, .int x1, .ref 16]) (pm_q0_12 (Nat.le_of_ble_eq_true rfl)) (congrArg (fun z => some (Value.int z :: [.ref 0, .int x2, .int x1, .ref 16])) (p2_ad (n := n) (c := 3) (k := 3) rfl)) rfl ?_
  refine pm_R_iald pm_M0 (pc' := 1063) (v := x3) (pm_q0_12 (Nat.le_of_ble_eq_true rfl)) ((T.old (by decide)).trans e0) (T.lt (by decide)) (p2_in (by omega) hL) v3 rfl ?_
  refine pm_R_cv pm_M0 (pc' := 1066) (a := 16) (ra := [.int x3, .int x2, .int x1]) (rest := []) (ls' := [.ref 16, .int x1, .int x2, .int x3, pm_no, pm_no]) (pm_q0_12 (Nat.le_of_ble_eq_true rfl)) rfl (Or.inl rfl) pm_M94 T.e16 rfl (by decide) (T.lt (by decide)) rfl rfl (Nat.le_of_ble_eq_true rfl) rfl rfl ?_
  refine ex_inj WW KK rfl ?_
  refine cl_c94 G T (fun r1 m1 o1 h1 T1 F1 W1 => ?_)
  intro WW KK
  show pm_R 100 0 1066 [.ref 0, .ref 16, .ref 41, .int (Int32.ofNat n)] [.int r1] _ _
  have RR := R2_cl G T F1 (by decide) RR
  have I := p2_cl (j := j) G T Tr Y e0 S R hc T1 F1 (W1 0 (by decide)) (by decide) (by decide) (by decide) (by decide) (by decide) (by decide) (by decide)
  obtain ⟨ck, E, m, o, mr, wr, G, T, Tr, Y, e0, S, R, hc⟩ := I
  refine pm_R_op pm_M0 (pc' := 1067) (st' := []) (pm_q0_12 (Nat.le_of_ble_eq_true rfl)) rfl rfl ?_
  refine pm_R_lo pm_M0 (pc' := 1068) (pm_q0_12 (Nat.le_of_ble_eq_true rfl)) rfl rfl ?_
  refine pm_R_lo pm_M0 (pc' := 1069) (pm_q0_12 (Nat.le_of_ble_eq_true rfl)) rfl rfl ?_
  refine pm_R_lo pm_M0 (pc' := 1070) (pm_q0_12 (Nat.le_of_ble_eq_true rfl)) rfl rfl ?_
  refine pm_R_op pm_M0 (pc' := 1071) (st' := [.int 1, .int (Int32.ofNat n), .ref 0, .ref 41]) (pm_q0_12 (Nat.le_of_ble_eq_true rfl)) rfl rfl ?_
  refine pm_R_op pm_M0 (pc' := 1072) (st' := [.int (Int32.ofNat (n + 1)), .ref 0, .ref 41]) (pm_q0_12 (Nat.le_of_ble_eq_true rfl)) (congrArg (fun z => some (Value.int z :: [.ref 0, .ref 41])) (p2_ad (n := n) (c := 1) (k := 1) rfl)) rfl ?_
  refine pm_R_iald pm_M0 (pc' := 1073) (v := x1) (pm_q0_12 (Nat.le_of_ble_eq_true rfl)) ((T.old (by decide)).trans e0) (T.lt (by decide)) (p2_in (by omega) hL) v1 rfl ?_
  refine pm_R_lo pm_M0 (pc' := 1074) (pm_q0_12 (Nat.le_of_ble_eq_true rfl)) rfl rfl ?_
  refine pm_R_lo pm_M0 (pc' := 1075) (pm_q0_12 (Nat.le_of_ble_eq_true rfl)) rfl rfl ?_
  refine pm_R_op pm_M0 (pc' := 1076) (st' := [.int 2, .int (Int32.ofNat n), .ref 0, .int x1, .ref 41]) (pm_q0_12 (Nat.le_of_ble_eq_true rfl)) rfl rfl ?_
  refine pm_R_op pm_M0 (pc' := 1077) (st' := [.int (Int32.ofNat (n + 2)), .ref 0, .int x1, .ref 41]) (pm_q0_12 (Nat.le_of_ble_eq_true rfl)) (congrArg (fun z => some (Value.int z :: [.ref 0, .int x1, .ref 41])) (p2_ad (n := n) (c := 2) (k := 2) rfl)) rfl ?_
  refine pm_R_iald pm_M0 (pc' := 1078) (v := x2) (pm_q0_12 (Nat.le_of_ble_eq_true rfl)) ((T.old (by decide)).trans e0) (T.lt (by decide)) (p2_in (by omega) hL) v2 rfl ?_
  refine pm_R_lo pm_M0 (pc' := 1079) (pm_q0_12 (Nat.le_of_ble_eq_true rfl)) rfl rfl ?_
  refine pm_R_lo pm_M0 (pc' := 1080) (pm_q0_12 (Nat.le_of_ble_eq_true rfl)) rfl rfl ?_
  refine pm_R_op pm_M0 (pc' := 1081) (st' := [.int 3, .int (Int32.ofNat n), .ref 0, .int x2, .int x1, .ref 41]) (pm_q0_12 (Nat.le_of_ble_eq_true rfl)) rfl rfl ?_
  refine pm_R_op pm_M0 (pc' := 1082) (st' := [.int (Int32.ofNat (n + 3)), .ref 0, .int x2, .int x1, .ref 41]) (pm_q0_12 (Nat.le_of_ble_eq_true rfl)) (congrArg (fun z => some (Value.int z :: [.ref 0, .int x2, .int x1, .ref 41])) (p2_ad (n := n) (c := 3) (k := 3) rfl)) rfl ?_
  refine pm_R_iald pm_M0 (pc' := 1083) (v := x3) (pm_q0_12 (Nat.le_of_ble_eq_true rfl)) ((T.old (by decide)).trans e0) (T.lt (by decide)) (p2_in (by omega) hL) v3 rfl ?_
  refine pm_R_cv pm_M0 (pc' := 1086) (a := 41) (ra := [.int x3, .int x2, .int x1]) (rest := []) (ls' := [.ref 41, .int x1, .int x2, .int x3, pm_no, pm_no]) (pm_q0_12 (Nat.le_of_ble_eq_true rfl)) rfl (Or.inl rfl) pm_M252 Tr.2.1 rfl (by decide) (Nat.lt_of_lt_of_le (by decide) Tr.1) rfl rfl (Nat.le_of_ble_eq_true rfl) rfl rfl ?_
  refine ex_inj WW KK rfl ?_
  refine rf_c252 Tr (fun r2 m1 w1 h1 T1 F1 W1 => ?_)
  intro WW KK
  show pm_R 100 0 1086 [.ref 0, .ref 16, .ref 41, .int (Int32.ofNat n)] [.int r2] _ _
  have RR := R2_rf F1 (by decide) RR
  have I := p2_rf G T Y e0 S R hc T1 F1 (by decide)
  refine pm_R_op pm_M0 (pc' := 1087) (st' := []) (pm_q0_12 (Nat.le_of_ble_eq_true rfl)) rfl rfl ?_
  refine pm_R_br pm_M0 (pc' := 2117) (pm_q0_12 (Nat.le_of_ble_eq_true rfl)) rfl ?_
  exact K _ ⟨I, WW, KK, RR⟩

set_option maxRecDepth 100000 in
set_option maxHeartbeats 4000000 in
theorem p6_k20 {L n j : Nat} {xs : Nat → Int32} {h : pm_H} {Q : Option Value → pm_H → Prop} (I : p6_I L xs j h) (hn : n + 7 ≤ L) (hL : L ≤ 3584) (K : ∀ h', p6_I L xs (j + 1) h' → pm_R 100 0 2117 [.ref 0, .ref 16, .ref 41, .int (Int32.ofNat n)] [] h' Q) : pm_R 100 0 1090 [.ref 0, .ref 16, .ref 41, .int (Int32.ofNat n)] [] h Q := by
  obtain ⟨x1, v1⟩ : ∃ y, xs (Int32.toNatClampNeg (Int32.ofNat (n + 1))) = y := ⟨_, rfl⟩
  obtain ⟨x2, v2⟩ : ∃ y, xs (Int32.toNatClampNeg (Int32.ofNat (n + 2))) = y := ⟨_, rfl⟩
  obtain ⟨I, WW, KK, RR⟩ := I
  obtain ⟨ck, E, m, o, mr, wr, G, T, Tr, Y, e0, S, R, hc⟩ := I
  refine pm_R_lo pm_M0 (pc' := 1091) (pm_q0_12 (Nat.le_of_ble_eq_true rfl)) rfl rfl ?_
  refine pm_R_lo pm_M0 (pc' := 1092) (pm_q0_12 (Nat.le_of_ble_eq_true rfl)) rfl rfl ?_
  refine pm_R_lo pm_M0 (pc' := 1093) (pm_q0_12 (Nat.le_of_ble_eq_true rfl)) rfl rfl ?_
  refine pm_R_op pm_M0 (pc' := 1094) (st' := [.int 1, .int (Int32.ofNat n), .ref 0, .ref 16]) (pm_q0_12 (Nat.le_of_ble_eq_true rfl)) rfl rfl ?_
  refine pm_R_op pm_M0 (pc' := 1095) (st' := [.int (Int32.ofNat (n + 1)), .ref 0, .ref 16]) (pm_q0_12 (Nat.le_of_ble_eq_true rfl)) (congrArg (fun z => some (Value.int z :: [.ref 0, .ref 16])) (p2_ad (n := n) (c := 1) (k := 1) rfl)) rfl ?_
  refine pm_R_iald pm_M0 (pc' := 1096) (v := x1) (pm_q0_12 (Nat.le_of_ble_eq_true rfl)) ((T.old (by decide)).trans e0) (T.lt (by decide)) (p2_in (by omega) hL) v1 rfl ?_
  refine pm_R_lo pm_M0 (pc' := 1097) (pm_q0_12 (Nat.le_of_ble_eq_true rfl)) rfl rfl ?_
  refine pm_R_lo pm_M0 (pc' := 1098) (pm_q0_12 (Nat.le_of_ble_eq_true rfl)) rfl rfl ?_
  refine pm_R_op pm_M0 (pc' := 1099) (st' := [.int 2, .int (Int32.ofNat n), .ref 0, .int x1, .ref 16]) (pm_q0_12 (Nat.le_of_ble_eq_true rfl)) rfl rfl ?_
  refine pm_R_op pm_M0 (pc' := 1100) (st' := [.int (Int32.ofNat (n + 2)), .ref 0, .int x1, .ref 16]) (pm_q0_12 (Nat.le_of_ble_eq_true rfl)) (congrArg (fun z => some (Value.int z :: [.ref 0, .int x1, .ref 16])) (p2_ad (n := n) (c := 2) (k := 2) rfl)) rfl ?_
  refine pm_R_iald pm_M0 (pc' := 1101) (v := x2) (pm_q0_12 (Nat.le_of_ble_eq_true rfl)) ((T.old (by decide)).trans e0) (T.lt (by decide)) (p2_in (by omega) hL) v2 rfl ?_
  refine pm_R_cv pm_M0 (pc' := 1104) (a := 16) (ra := [.int x2, .int x1]) (rest := []) (ls' := [.ref 16, .int x1, .int x2, pm_no]) (pm_q0_12 (Nat.le_of_ble_eq_true rfl)) rfl (Or.inl rfl) pm_M138 T.e16 rfl (by decide) (T.lt (by decide)) rfl rfl (Nat.le_of_ble_eq_true rfl) rfl rfl ?_
  refine ex_inj WW KK rfl ?_
  refine cl_c138 G T (fun r1 => ?_)
  intro WW KK
  show pm_R 100 0 1104 [.ref 0, .ref 16, .ref 41, .int (Int32.ofNat n)] [.int r1] _ _
  have I := p2_up (⟨ck, E, m, o, mr, wr, G, T, Tr, Y, e0, S, R, hc⟩ : p2_I L xs j h)
  obtain ⟨ck, E, m, o, mr, wr, G, T, Tr, Y, e0, S, R, hc⟩ := I
  refine pm_R_op pm_M0 (pc' := 1105) (st' := []) (pm_q0_12 (Nat.le_of_ble_eq_true rfl)) rfl rfl ?_
  refine pm_R_lo pm_M0 (pc' := 1106) (pm_q0_12 (Nat.le_of_ble_eq_true rfl)) rfl rfl ?_
  refine pm_R_lo pm_M0 (pc' := 1107) (pm_q0_13 (Nat.le_of_ble_eq_true rfl)) rfl rfl ?_
  refine pm_R_lo pm_M0 (pc' := 1108) (pm_q0_13 (Nat.le_of_ble_eq_true rfl)) rfl rfl ?_
  refine pm_R_op pm_M0 (pc' := 1109) (st' := [.int 1, .int (Int32.ofNat n), .ref 0, .ref 41]) (pm_q0_13 (Nat.le_of_ble_eq_true rfl)) rfl rfl ?_
  refine pm_R_op pm_M0 (pc' := 1110) (st' := [.int (Int32.ofNat (n + 1)), .ref 0, .ref 41]) (pm_q0_13 (Nat.le_of_ble_eq_true rfl)) (congrArg (fun z => some (Value.int z :: [.ref 0, .ref 41])) (p2_ad (n := n) (c := 1) (k := 1) rfl)) rfl ?_
  refine pm_R_iald pm_M0 (pc' := 1111) (v := x1) (pm_q0_13 (Nat.le_of_ble_eq_true rfl)) ((T.old (by decide)).trans e0) (T.lt (by decide)) (p2_in (by omega) hL) v1 rfl ?_
  refine pm_R_lo pm_M0 (pc' := 1112) (pm_q0_13 (Nat.le_of_ble_eq_true rfl)) rfl rfl ?_
  refine pm_R_lo pm_M0 (pc' := 1113) (pm_q0_13 (Nat.le_of_ble_eq_true rfl)) rfl rfl ?_
  refine pm_R_op pm_M0 (pc' := 1114) (st' := [.int 2, .int (Int32.ofNat n), .ref 0, .int x1, .ref 41]) (pm_q0_13 (Nat.le_of_ble_eq_true rfl)) rfl rfl ?_
  refine pm_R_op pm_M0 (pc' := 1115) (st' := [.int (Int32.ofNat (n + 2)), .ref 0, .int x1, .ref 41]) (pm_q0_13 (Nat.le_of_ble_eq_true rfl)) (congrArg (fun z => some (Value.int z :: [.ref 0, .int x1, .ref 41])) (p2_ad (n := n) (c := 2) (k := 2) rfl)) rfl ?_
  refine pm_R_iald pm_M0 (pc' := 1116) (v := x2) (pm_q0_13 (Nat.le_of_ble_eq_true rfl)) ((T.old (by decide)).trans e0) (T.lt (by decide)) (p2_in (by omega) hL) v2 rfl ?_
  refine pm_R_cv pm_M0 (pc' := 1119) (a := 41) (ra := [.int x2, .int x1]) (rest := []) (ls' := [.ref 41, .int x1, .int x2, pm_no, pm_no, pm_no]) (pm_q0_13 (Nat.le_of_ble_eq_true rfl)) rfl (Or.inl rfl) pm_M253 Tr.2.1 rfl (by decide) (Nat.lt_of_lt_of_le (by decide) Tr.1) rfl rfl (Nat.le_of_ble_eq_true rfl) rfl rfl ?_
  refine ex_inj WW KK rfl ?_
  refine rf_c253 Tr (fun r2 m1 w1 h1 T1 F1 W1 => ?_)
  intro WW KK
  show pm_R 100 0 1119 [.ref 0, .ref 16, .ref 41, .int (Int32.ofNat n)] [.int r2] _ _
  have RR := R2_rf F1 (by decide) RR
  have I := p2_rf G T Y e0 S R hc T1 F1 (by decide)
  refine pm_R_op pm_M0 (pc' := 1120) (st' := []) (pm_q0_13 (Nat.le_of_ble_eq_true rfl)) rfl rfl ?_
  refine pm_R_br pm_M0 (pc' := 2117) (pm_q0_13 (Nat.le_of_ble_eq_true rfl)) rfl ?_
  exact K _ ⟨I, WW, KK, RR⟩

set_option maxRecDepth 100000 in
set_option maxHeartbeats 4000000 in
theorem p6_k21 {L n j : Nat} {xs : Nat → Int32} {h : pm_H} {Q : Option Value → pm_H → Prop} (I : p6_I L xs j h) (hn : n + 7 ≤ L) (hL : L ≤ 3584) (K : ∀ h', p6_I L xs (j + 1) h' → pm_R 100 0 2117 [.ref 0, .ref 16, .ref 41, .int (Int32.ofNat n)] [] h' Q) : pm_R 100 0 1123 [.ref 0, .ref 16, .ref 41, .int (Int32.ofNat n)] [] h Q := by
  obtain ⟨x1, v1⟩ : ∃ y, xs (Int32.toNatClampNeg (Int32.ofNat (n + 1))) = y := ⟨_, rfl⟩
  obtain ⟨x2, v2⟩ : ∃ y, xs (Int32.toNatClampNeg (Int32.ofNat (n + 2))) = y := ⟨_, rfl⟩
  obtain ⟨x3, v3⟩ : ∃ y, xs (Int32.toNatClampNeg (Int32.ofNat (n + 3))) = y := ⟨_, rfl⟩
  obtain ⟨I, WW, KK, RR⟩ := I
  obtain ⟨ck, E, m, o, mr, wr, G, T, Tr, Y, e0, S, R, hc⟩ := I
  refine pm_R_lo pm_M0 (pc' := 1124) (pm_q0_13 (Nat.le_of_ble_eq_true rfl)) rfl rfl ?_
  refine pm_R_lo pm_M0 (pc' := 1125) (pm_q0_13 (Nat.le_of_ble_eq_true rfl)) rfl rfl ?_
  refine pm_R_lo pm_M0 (pc' := 1126) (pm_q0_13 (Nat.le_of_ble_eq_true rfl)) rfl rfl ?_
  refine pm_R_op pm_M0 (pc' := 1127) (st' := [.int 1, .int (Int32.ofNat n), .ref 0, .ref 16]) (pm_q0_13 (Nat.le_of_ble_eq_true rfl)) rfl rfl ?_
  refine pm_R_op pm_M0 (pc' := 1128) (st' := [.int (Int32.ofNat (n + 1)), .ref 0, .ref 16]) (pm_q0_13 (Nat.le_of_ble_eq_true rfl)) (congrArg (fun z => some (Value.int z :: [.ref 0, .ref 16])) (p2_ad (n := n) (c := 1) (k := 1) rfl)) rfl ?_
  refine pm_R_iald pm_M0 (pc' := 1129) (v := x1) (pm_q0_13 (Nat.le_of_ble_eq_true rfl)) ((T.old (by decide)).trans e0) (T.lt (by decide)) (p2_in (by omega) hL) v1 rfl ?_
  refine pm_R_lo pm_M0 (pc' := 1130) (pm_q0_13 (Nat.le_of_ble_eq_true rfl)) rfl rfl ?_
  refine pm_R_lo pm_M0 (pc' := 1131) (pm_q0_13 (Nat.le_of_ble_eq_true rfl)) rfl rfl ?_
  refine pm_R_op pm_M0 (pc' := 1132) (st' := [.int 2, .int (Int32.ofNat n), .ref 0, .int x1, .ref 16]) (pm_q0_13 (Nat.le_of_ble_eq_true rfl)) rfl rfl ?_
  refine pm_R_op pm_M0 (pc' := 1133) (st' := [.int (Int32.ofNat (n + 2)), .ref 0, .int x1, .ref 16]) (pm_q0_13 (Nat.le_of_ble_eq_true rfl)) (congrArg (fun z => some (Value.int z :: [.ref 0, .int x1, .ref 16])) (p2_ad (n := n) (c := 2) (k := 2) rfl)) rfl ?_
  refine pm_R_iald pm_M0 (pc' := 1134) (v := x2) (pm_q0_13 (Nat.le_of_ble_eq_true rfl)) ((T.old (by decide)).trans e0) (T.lt (by decide)) (p2_in (by omega) hL) v2 rfl ?_
  refine pm_R_lo pm_M0 (pc' := 1135) (pm_q0_13 (Nat.le_of_ble_eq_true rfl)) rfl rfl ?_
  refine pm_R_lo pm_M0 (pc' := 1136) (pm_q0_13 (Nat.le_of_ble_eq_true rfl)) rfl rfl ?_
  refine pm_R_op pm_M0 (pc' := 1137) (st' := [.int 3, .int (Int32.ofNat n), .ref 0, .int x2, .int x1, .ref 16]) (pm_q0_13 (Nat.le_of_ble_eq_true rfl)) rfl rfl ?_
  refine pm_R_op pm_M0 (pc' := 1138) (st' := [.int (Int32.ofNat (n + 3)), .ref 0, .int x2, .int x1, .ref 16]) (pm_q0_13 (Nat.le_of_ble_eq_true rfl)) (congrArg (fun z => some (Value.int z :: [.ref 0, .int x2, .int x1, .ref 16])) (p2_ad (n := n) (c := 3) (k := 3) rfl)) rfl ?_
  refine pm_R_iald pm_M0 (pc' := 1139) (v := x3) (pm_q0_13 (Nat.le_of_ble_eq_true rfl)) ((T.old (by decide)).trans e0) (T.lt (by decide)) (p2_in (by omega) hL) v3 rfl ?_
  refine pm_R_cv pm_M0 (pc' := 1142) (a := 16) (ra := [.int x3, .int x2, .int x1]) (rest := []) (ls' := [.ref 16, .int x1, .int x2, .int x3, pm_no]) (pm_q0_13 (Nat.le_of_ble_eq_true rfl)) rfl (Or.inl rfl) pm_M141 T.e16 rfl (by decide) (T.lt (by decide)) rfl rfl (Nat.le_of_ble_eq_true rfl) rfl rfl ?_
  refine ex_inj WW KK rfl ?_
  refine cl_c141 G T (fun r1 => ?_)
  intro WW KK
  show pm_R 100 0 1142 [.ref 0, .ref 16, .ref 41, .int (Int32.ofNat n)] [.int r1] _ _
  have I := p2_up (⟨ck, E, m, o, mr, wr, G, T, Tr, Y, e0, S, R, hc⟩ : p2_I L xs j h)
  obtain ⟨ck, E, m, o, mr, wr, G, T, Tr, Y, e0, S, R, hc⟩ := I
  refine pm_R_op pm_M0 (pc' := 1143) (st' := []) (pm_q0_13 (Nat.le_of_ble_eq_true rfl)) rfl rfl ?_
  refine pm_R_lo pm_M0 (pc' := 1144) (pm_q0_13 (Nat.le_of_ble_eq_true rfl)) rfl rfl ?_
  refine pm_R_lo pm_M0 (pc' := 1145) (pm_q0_13 (Nat.le_of_ble_eq_true rfl)) rfl rfl ?_
  refine pm_R_lo pm_M0 (pc' := 1146) (pm_q0_13 (Nat.le_of_ble_eq_true rfl)) rfl rfl ?_
  refine pm_R_op pm_M0 (pc' := 1147) (st' := [.int 1, .int (Int32.ofNat n), .ref 0, .ref 41]) (pm_q0_13 (Nat.le_of_ble_eq_true rfl)) rfl rfl ?_
  refine pm_R_op pm_M0 (pc' := 1148) (st' := [.int (Int32.ofNat (n + 1)), .ref 0, .ref 41]) (pm_q0_13 (Nat.le_of_ble_eq_true rfl)) (congrArg (fun z => some (Value.int z :: [.ref 0, .ref 41])) (p2_ad (n := n) (c := 1) (k := 1) rfl)) rfl ?_
  refine pm_R_iald pm_M0 (pc' := 1149) (v := x1) (pm_q0_13 (Nat.le_of_ble_eq_true rfl)) ((T.old (by decide)).trans e0) (T.lt (by decide)) (p2_in (by omega) hL) v1 rfl ?_
  refine pm_R_lo pm_M0 (pc' := 1150) (pm_q0_13 (Nat.le_of_ble_eq_true rfl)) rfl rfl ?_
  refine pm_R_lo pm_M0 (pc' := 1151) (pm_q0_13 (Nat.le_of_ble_eq_true rfl)) rfl rfl ?_
  refine pm_R_op pm_M0 (pc' := 1152) (st' := [.int 2, .int (Int32.ofNat n), .ref 0, .int x1, .ref 41]) (pm_q0_13 (Nat.le_of_ble_eq_true rfl)) rfl rfl ?_
  refine pm_R_op pm_M0 (pc' := 1153) (st' := [.int (Int32.ofNat (n + 2)), .ref 0, .int x1, .ref 41]) (pm_q0_13 (Nat.le_of_ble_eq_true rfl)) (congrArg (fun z => some (Value.int z :: [.ref 0, .int x1, .ref 41])) (p2_ad (n := n) (c := 2) (k := 2) rfl)) rfl ?_
  refine pm_R_iald pm_M0 (pc' := 1154) (v := x2) (pm_q0_13 (Nat.le_of_ble_eq_true rfl)) ((T.old (by decide)).trans e0) (T.lt (by decide)) (p2_in (by omega) hL) v2 rfl ?_
  refine pm_R_lo pm_M0 (pc' := 1155) (pm_q0_13 (Nat.le_of_ble_eq_true rfl)) rfl rfl ?_
  refine pm_R_lo pm_M0 (pc' := 1156) (pm_q0_13 (Nat.le_of_ble_eq_true rfl)) rfl rfl ?_
  refine pm_R_op pm_M0 (pc' := 1157) (st' := [.int 3, .int (Int32.ofNat n), .ref 0, .int x2, .int x1, .ref 41]) (pm_q0_13 (Nat.le_of_ble_eq_true rfl)) rfl rfl ?_
  refine pm_R_op pm_M0 (pc' := 1158) (st' := [.int (Int32.ofNat (n + 3)), .ref 0, .int x2, .int x1, .ref 41]) (pm_q0_13 (Nat.le_of_ble_eq_true rfl)) (congrArg (fun z => some (Value.int z :: [.ref 0, .int x2, .int x1, .ref 41])) (p2_ad (n := n) (c := 3) (k := 3) rfl)) rfl ?_
  refine pm_R_iald pm_M0 (pc' := 1159) (v := x3) (pm_q0_13 (Nat.le_of_ble_eq_true rfl)) ((T.old (by decide)).trans e0) (T.lt (by decide)) (p2_in (by omega) hL) v3 rfl ?_
  refine pm_R_cv pm_M0 (pc' := 1162) (a := 41) (ra := [.int x3, .int x2, .int x1]) (rest := []) (ls' := [.ref 41, .int x1, .int x2, .int x3]) (pm_q0_13 (Nat.le_of_ble_eq_true rfl)) rfl (Or.inl rfl) pm_M257 Tr.2.1 rfl (by decide) (Nat.lt_of_lt_of_le (by decide) Tr.1) rfl rfl (Nat.le_of_ble_eq_true rfl) rfl rfl ?_
  refine ex_inj WW KK rfl ?_
  refine rf_c257 Tr (fun r2 m1 w1 h1 T1 F1 W1 => ?_)
  intro WW KK
  show pm_R 100 0 1162 [.ref 0, .ref 16, .ref 41, .int (Int32.ofNat n)] [.int r2] _ _
  have RR := R2_rf F1 (by decide) RR
  have I := p2_rf G T Y e0 S R hc T1 F1 (by decide)
  refine pm_R_op pm_M0 (pc' := 1163) (st' := []) (pm_q0_13 (Nat.le_of_ble_eq_true rfl)) rfl rfl ?_
  refine pm_R_br pm_M0 (pc' := 2117) (pm_q0_13 (Nat.le_of_ble_eq_true rfl)) rfl ?_
  exact K _ ⟨I, WW, KK, RR⟩

set_option maxRecDepth 100000 in
set_option maxHeartbeats 4000000 in
theorem p6_k22 {L n j : Nat} {xs : Nat → Int32} {h : pm_H} {Q : Option Value → pm_H → Prop} (I : p6_I L xs j h) (hn : n + 7 ≤ L) (hL : L ≤ 3584) (K : ∀ h', p6_I L xs (j + 1) h' → pm_R 100 0 2117 [.ref 0, .ref 16, .ref 41, .int (Int32.ofNat n)] [] h' Q) : pm_R 100 0 1166 [.ref 0, .ref 16, .ref 41, .int (Int32.ofNat n)] [] h Q := by
  obtain ⟨x1, v1⟩ : ∃ y, xs (Int32.toNatClampNeg (Int32.ofNat (n + 1))) = y := ⟨_, rfl⟩
  obtain ⟨x2, v2⟩ : ∃ y, xs (Int32.toNatClampNeg (Int32.ofNat (n + 2))) = y := ⟨_, rfl⟩
  obtain ⟨x3, v3⟩ : ∃ y, xs (Int32.toNatClampNeg (Int32.ofNat (n + 3))) = y := ⟨_, rfl⟩
  obtain ⟨I, WW, KK, RR⟩ := I
  obtain ⟨ck, E, m, o, mr, wr, G, T, Tr, Y, e0, S, R, hc⟩ := I
  refine pm_R_lo pm_M0 (pc' := 1167) (pm_q0_13 (Nat.le_of_ble_eq_true rfl)) rfl rfl ?_
  refine pm_R_lo pm_M0 (pc' := 1168) (pm_q0_13 (Nat.le_of_ble_eq_true rfl)) rfl rfl ?_
  refine pm_R_lo pm_M0 (pc' := 1169) (pm_q0_13 (Nat.le_of_ble_eq_true rfl)) rfl rfl ?_
  refine pm_R_op pm_M0 (pc' := 1170) (st' := [.int 1, .int (Int32.ofNat n), .ref 0, .ref 16]) (pm_q0_13 (Nat.le_of_ble_eq_true rfl)) rfl rfl ?_
  refine pm_R_op pm_M0 (pc' := 1171) (st' := [.int (Int32.ofNat (n + 1)), .ref 0, .ref 16]) (pm_q0_13 (Nat.le_of_ble_eq_true rfl)) (congrArg (fun z => some (Value.int z :: [.ref 0, .ref 16])) (p2_ad (n := n) (c := 1) (k := 1) rfl)) rfl ?_
  refine pm_R_iald pm_M0 (pc' := 1172) (v := x1) (pm_q0_13 (Nat.le_of_ble_eq_true rfl)) ((T.old (by decide)).trans e0) (T.lt (by decide)) (p2_in (by omega) hL) v1 rfl ?_
  refine pm_R_lo pm_M0 (pc' := 1173) (pm_q0_13 (Nat.le_of_ble_eq_true rfl)) rfl rfl ?_
  refine pm_R_lo pm_M0 (pc' := 1174) (pm_q0_13 (Nat.le_of_ble_eq_true rfl)) rfl rfl ?_
  refine pm_R_op pm_M0 (pc' := 1175) (st' := [.int 2, .int (Int32.ofNat n), .ref 0, .int x1, .ref 16]) (pm_q0_13 (Nat.le_of_ble_eq_true rfl)) rfl rfl ?_
  refine pm_R_op pm_M0 (pc' := 1176) (st' := [.int (Int32.ofNat (n + 2)), .ref 0, .int x1, .ref 16]) (pm_q0_13 (Nat.le_of_ble_eq_true rfl)) (congrArg (fun z => some (Value.int z :: [.ref 0, .int x1, .ref 16])) (p2_ad (n := n) (c := 2) (k := 2) rfl)) rfl ?_
  refine pm_R_iald pm_M0 (pc' := 1177) (v := x2) (pm_q0_14 (Nat.le_of_ble_eq_true rfl)) ((T.old (by decide)).trans e0) (T.lt (by decide)) (p2_in (by omega) hL) v2 rfl ?_
  refine pm_R_lo pm_M0 (pc' := 1178) (pm_q0_14 (Nat.le_of_ble_eq_true rfl)) rfl rfl ?_
  refine pm_R_lo pm_M0 (pc' := 1179) (pm_q0_14 (Nat.le_of_ble_eq_true rfl)) rfl rfl ?_
  refine pm_R_op pm_M0 (pc' := 1180) (st' := [.int 3, .int (Int32.ofNat n), .ref 0, .int x2, .int x1, .ref 16]) (pm_q0_14 (Nat.le_of_ble_eq_true rfl)) rfl rfl ?_
  refine pm_R_op pm_M0 (pc' := 1181) (st' := [.int (Int32.ofNat (n + 3)), .ref 0, .int x2, .int x1, .ref 16]) (pm_q0_14 (Nat.le_of_ble_eq_true rfl)) (congrArg (fun z => some (Value.int z :: [.ref 0, .int x2, .int x1, .ref 16])) (p2_ad (n := n) (c := 3) (k := 3) rfl)) rfl ?_
  refine pm_R_iald pm_M0 (pc' := 1182) (v := x3) (pm_q0_14 (Nat.le_of_ble_eq_true rfl)) ((T.old (by decide)).trans e0) (T.lt (by decide)) (p2_in (by omega) hL) v3 rfl ?_
  refine pm_R_cv pm_M0 (pc' := 1185) (a := 16) (ra := [.int x3, .int x2, .int x1]) (rest := []) (ls' := [.ref 16, .int x1, .int x2, .int x3, pm_no]) (pm_q0_14 (Nat.le_of_ble_eq_true rfl)) rfl (Or.inl rfl) pm_M142 T.e16 rfl (by decide) (T.lt (by decide)) rfl rfl (Nat.le_of_ble_eq_true rfl) rfl rfl ?_
  refine ex_inj WW KK rfl ?_
  refine cl_c142 G T (fun r1 => ?_)
  intro WW KK
  show pm_R 100 0 1185 [.ref 0, .ref 16, .ref 41, .int (Int32.ofNat n)] [.int r1] _ _
  have I := p2_up (⟨ck, E, m, o, mr, wr, G, T, Tr, Y, e0, S, R, hc⟩ : p2_I L xs j h)
  obtain ⟨ck, E, m, o, mr, wr, G, T, Tr, Y, e0, S, R, hc⟩ := I
  refine pm_R_op pm_M0 (pc' := 1186) (st' := []) (pm_q0_14 (Nat.le_of_ble_eq_true rfl)) rfl rfl ?_
  refine pm_R_lo pm_M0 (pc' := 1187) (pm_q0_14 (Nat.le_of_ble_eq_true rfl)) rfl rfl ?_
  refine pm_R_lo pm_M0 (pc' := 1188) (pm_q0_14 (Nat.le_of_ble_eq_true rfl)) rfl rfl ?_
  refine pm_R_lo pm_M0 (pc' := 1189) (pm_q0_14 (Nat.le_of_ble_eq_true rfl)) rfl rfl ?_
  refine pm_R_op pm_M0 (pc' := 1190) (st' := [.int 1, .int (Int32.ofNat n), .ref 0, .ref 41]) (pm_q0_14 (Nat.le_of_ble_eq_true rfl)) rfl rfl ?_
  refine pm_R_op pm_M0 (pc' := 1191) (st' := [.int (Int32.ofNat (n + 1)), .ref 0, .ref 41]) (pm_q0_14 (Nat.le_of_ble_eq_true rfl)) (congrArg (fun z => some (Value.int z :: [.ref 0, .ref 41])) (p2_ad (n := n) (c := 1) (k := 1) rfl)) rfl ?_
  refine pm_R_iald pm_M0 (pc' := 1192) (v := x1) (pm_q0_14 (Nat.le_of_ble_eq_true rfl)) ((T.old (by decide)).trans e0) (T.lt (by decide)) (p2_in (by omega) hL) v1 rfl ?_
  refine pm_R_lo pm_M0 (pc' := 1193) (pm_q0_14 (Nat.le_of_ble_eq_true rfl)) rfl rfl ?_
  refine pm_R_lo pm_M0 (pc' := 1194) (pm_q0_14 (Nat.le_of_ble_eq_true rfl)) rfl rfl ?_
  refine pm_R_op pm_M0 (pc' := 1195) (st' := [.int 2, .int (Int32.ofNat n), .ref 0, .int x1, .ref 41]) (pm_q0_14 (Nat.le_of_ble_eq_true rfl)) rfl rfl ?_
  refine pm_R_op pm_M0 (pc' := 1196) (st' := [.int (Int32.ofNat (n + 2)), .ref 0, .int x1, .ref 41]) (pm_q0_14 (Nat.le_of_ble_eq_true rfl)) (congrArg (fun z => some (Value.int z :: [.ref 0, .int x1, .ref 41])) (p2_ad (n := n) (c := 2) (k := 2) rfl)) rfl ?_
  refine pm_R_iald pm_M0 (pc' := 1197) (v := x2) (pm_q0_14 (Nat.le_of_ble_eq_true rfl)) ((T.old (by decide)).trans e0) (T.lt (by decide)) (p2_in (by omega) hL) v2 rfl ?_
  refine pm_R_lo pm_M0 (pc' := 1198) (pm_q0_14 (Nat.le_of_ble_eq_true rfl)) rfl rfl ?_
  refine pm_R_lo pm_M0 (pc' := 1199) (pm_q0_14 (Nat.le_of_ble_eq_true rfl)) rfl rfl ?_
  refine pm_R_op pm_M0 (pc' := 1200) (st' := [.int 3, .int (Int32.ofNat n), .ref 0, .int x2, .int x1, .ref 41]) (pm_q0_14 (Nat.le_of_ble_eq_true rfl)) rfl rfl ?_
  refine pm_R_op pm_M0 (pc' := 1201) (st' := [.int (Int32.ofNat (n + 3)), .ref 0, .int x2, .int x1, .ref 41]) (pm_q0_14 (Nat.le_of_ble_eq_true rfl)) (congrArg (fun z => some (Value.int z :: [.ref 0, .int x2, .int x1, .ref 41])) (p2_ad (n := n) (c := 3) (k := 3) rfl)) rfl ?_
  refine pm_R_iald pm_M0 (pc' := 1202) (v := x3) (pm_q0_14 (Nat.le_of_ble_eq_true rfl)) ((T.old (by decide)).trans e0) (T.lt (by decide)) (p2_in (by omega) hL) v3 rfl ?_
  refine pm_R_cv pm_M0 (pc' := 1205) (a := 41) (ra := [.int x3, .int x2, .int x1]) (rest := []) (ls' := [.ref 41, .int x1, .int x2, .int x3]) (pm_q0_14 (Nat.le_of_ble_eq_true rfl)) rfl (Or.inl rfl) pm_M258 Tr.2.1 rfl (by decide) (Nat.lt_of_lt_of_le (by decide) Tr.1) rfl rfl (Nat.le_of_ble_eq_true rfl) rfl rfl ?_
  refine ex_inj WW KK rfl ?_
  refine rf_c258 Tr (fun r2 m1 w1 h1 T1 F1 W1 => ?_)
  intro WW KK
  show pm_R 100 0 1205 [.ref 0, .ref 16, .ref 41, .int (Int32.ofNat n)] [.int r2] _ _
  have RR := R2_rf F1 (by decide) RR
  have I := p2_rf G T Y e0 S R hc T1 F1 (by decide)
  refine pm_R_op pm_M0 (pc' := 1206) (st' := []) (pm_q0_14 (Nat.le_of_ble_eq_true rfl)) rfl rfl ?_
  refine pm_R_br pm_M0 (pc' := 2117) (pm_q0_14 (Nat.le_of_ble_eq_true rfl)) rfl ?_
  exact K _ ⟨I, WW, KK, RR⟩

set_option maxRecDepth 100000 in
set_option maxHeartbeats 4000000 in
theorem p6_k23 {L n j : Nat} {xs : Nat → Int32} {h : pm_H} {Q : Option Value → pm_H → Prop} (I : p6_I L xs j h) (hn : n + 7 ≤ L) (hL : L ≤ 3584) (K : ∀ h', p6_I L xs (j + 1) h' → pm_R 100 0 2117 [.ref 0, .ref 16, .ref 41, .int (Int32.ofNat n)] [] h' Q) : pm_R 100 0 1209 [.ref 0, .ref 16, .ref 41, .int (Int32.ofNat n)] [] h Q := by
  obtain ⟨x1, v1⟩ : ∃ y, xs (Int32.toNatClampNeg (Int32.ofNat (n + 1))) = y := ⟨_, rfl⟩
  obtain ⟨x2, v2⟩ : ∃ y, xs (Int32.toNatClampNeg (Int32.ofNat (n + 2))) = y := ⟨_, rfl⟩
  obtain ⟨x3, v3⟩ : ∃ y, xs (Int32.toNatClampNeg (Int32.ofNat (n + 3))) = y := ⟨_, rfl⟩
  obtain ⟨x4, v4⟩ : ∃ y, xs (Int32.toNatClampNeg (Int32.ofNat (n + 4))) = y := ⟨_, rfl⟩
  obtain ⟨I, WW, KK, RR⟩ := I
  obtain ⟨ck, E, m, o, mr, wr, G, T, Tr, Y, e0, S, R, hc⟩ := I
  refine pm_R_lo pm_M0 (pc' := 1210) (pm_q0_14 (Nat.le_of_ble_eq_true rfl)) rfl rfl ?_
  refine pm_R_lo pm_M0 (pc' := 1211) (pm_q0_14 (Nat.le_of_ble_eq_true rfl)) rfl rfl ?_
  refine pm_R_lo pm_M0 (pc' := 1212) (pm_q0_14 (Nat.le_of_ble_eq_true rfl)) rfl rfl ?_
  refine pm_R_op pm_M0 (pc' := 1213) (st' := [.int 1, .int (Int32.ofNat n), .ref 0, .ref 16]) (pm_q0_14 (Nat.le_of_ble_eq_true rfl)) rfl rfl ?_
  refine pm_R_op pm_M0 (pc' := 1214) (st' := [.int (Int32.ofNat (n + 1)), .ref 0, .ref 16]) (pm_q0_14 (Nat.le_of_ble_eq_true rfl)) (congrArg (fun z => some (Value.int z :: [.ref 0, .ref 16])) (p2_ad (n := n) (c := 1) (k := 1) rfl)) rfl ?_
  refine pm_R_iald pm_M0 (pc' := 1215) (v := x1) (pm_q0_14 (Nat.le_of_ble_eq_true rfl)) ((T.old (by decide)).trans e0) (T.lt (by decide)) (p2_in (by omega) hL) v1 rfl ?_
  refine pm_R_lo pm_M0 (pc' := 1216) (pm_q0_14 (Nat.le_of_ble_eq_true rfl)) rfl rfl ?_
  refine pm_R_lo pm_M0 (pc' := 1217) (pm_q0_14 (Nat.le_of_ble_eq_true rfl)) rfl rfl ?_
  refine pm_R_op pm_M0 (pc' := 1218) (st' := [.int 2, .int (Int32.ofNat n), .ref 0, .int x1, .ref 16]) (pm_q0_14 (Nat.le_of_ble_eq_true rfl)) rfl rfl ?_
  refine pm_R_op pm_M0 (pc' := 1219) (st' := [.int (Int32.ofNat (n + 2)), .ref 0, .int x1, .ref 16]) (pm_q0_14 (Nat.le_of_ble_eq_true rfl)) (congrArg (fun z => some (Value.int z :: [.ref 0, .int x1, .ref 16])) (p2_ad (n := n) (c := 2) (k := 2) rfl)) rfl ?_
  refine pm_R_iald pm_M0 (pc' := 1220) (v := x2) (pm_q0_14 (Nat.le_of_ble_eq_true rfl)) ((T.old (by decide)).trans e0) (T.lt (by decide)) (p2_in (by omega) hL) v2 rfl ?_
  refine pm_R_lo pm_M0 (pc' := 1221) (pm_q0_14 (Nat.le_of_ble_eq_true rfl)) rfl rfl ?_
  refine pm_R_lo pm_M0 (pc' := 1222) (pm_q0_14 (Nat.le_of_ble_eq_true rfl)) rfl rfl ?_
  refine pm_R_op pm_M0 (pc' := 1223) (st' := [.int 3, .int (Int32.ofNat n), .ref 0, .int x2, .int x1, .ref 16]) (pm_q0_14 (Nat.le_of_ble_eq_true rfl)) rfl rfl ?_
  refine pm_R_op pm_M0 (pc' := 1224) (st' := [.int (Int32.ofNat (n + 3)), .ref 0, .int x2, .int x1, .ref 16]) (pm_q0_14 (Nat.le_of_ble_eq_true rfl)) (congrArg (fun z => some (Value.int z :: [.ref 0, .int x2, .int x1, .ref 16])) (p2_ad (n := n) (c := 3) (k := 3) rfl)) rfl ?_
  refine pm_R_iald pm_M0 (pc' := 1225) (v := x3) (pm_q0_14 (Nat.le_of_ble_eq_true rfl)) ((T.old (by decide)).trans e0) (T.lt (by decide)) (p2_in (by omega) hL) v3 rfl ?_
  refine pm_R_lo pm_M0 (pc' := 1226) (pm_q0_14 (Nat.le_of_ble_eq_true rfl)) rfl rfl ?_
  refine pm_R_lo pm_M0 (pc' := 1227) (pm_q0_14 (Nat.le_of_ble_eq_true rfl)) rfl rfl ?_
  refine pm_R_op pm_M0 (pc' := 1228) (st' := [.int 4, .int (Int32.ofNat n), .ref 0, .int x3, .int x2, .int x1, .ref 16]) (pm_q0_14 (Nat.le_of_ble_eq_true rfl)) rfl rfl ?_
  refine pm_R_op pm_M0 (pc' := 1229) (st' := [.int (Int32.ofNat (n + 4)), .ref 0, .int x3, .int x2, .int x1, .ref 16]) (pm_q0_14 (Nat.le_of_ble_eq_true rfl)) (congrArg (fun z => some (Value.int z :: [.ref 0, .int x3, .int x2, .int x1, .ref 16])) (p2_ad (n := n) (c := 4) (k := 4) rfl)) rfl ?_
  refine pm_R_iald pm_M0 (pc' := 1230) (v := x4) (pm_q0_14 (Nat.le_of_ble_eq_true rfl)) ((T.old (by decide)).trans e0) (T.lt (by decide)) (p2_in (by omega) hL) v4 rfl ?_
  refine pm_R_cv pm_M0 (pc' := 1233) (a := 16) (ra := [.int x4, .int x3, .int x2, .int x1]) (rest := []) (ls' := [.ref 16, .int x1, .int x2, .int x3, .int x4, pm_no, pm_no]) (pm_q0_14 (Nat.le_of_ble_eq_true rfl)) rfl (Or.inl rfl) pm_M144 T.e16 rfl (by decide) (T.lt (by decide)) rfl rfl (Nat.le_of_ble_eq_true rfl) rfl rfl ?_
  refine ex_inj WW KK rfl ?_
  refine cl_c144 G T (fun r1 m1 h1 T1 F1 W1 => ?_)
  intro WW KK
  show pm_R 100 0 1233 [.ref 0, .ref 16, .ref 41, .int (Int32.ofNat n)] [.int r1] _ _
  have RR := R2_cl G T F1 (by decide) RR
  have I := p2_cl (j := j) G T Tr Y e0 S R hc T1 F1 (W1 0 (by decide)) (by decide) (by decide) (by decide) (by decide) (by decide) (by decide) (by decide)
  obtain ⟨ck, E, m, o, mr, wr, G, T, Tr, Y, e0, S, R, hc⟩ := I
  refine pm_R_op pm_M0 (pc' := 1234) (st' := []) (pm_q0_14 (Nat.le_of_ble_eq_true rfl)) rfl rfl ?_
  refine pm_R_lo pm_M0 (pc' := 1235) (pm_q0_14 (Nat.le_of_ble_eq_true rfl)) rfl rfl ?_
  refine pm_R_lo pm_M0 (pc' := 1236) (pm_q0_14 (Nat.le_of_ble_eq_true rfl)) rfl rfl ?_
  refine pm_R_lo pm_M0 (pc' := 1237) (pm_q0_14 (Nat.le_of_ble_eq_true rfl)) rfl rfl ?_
  refine pm_R_op pm_M0 (pc' := 1238) (st' := [.int 1, .int (Int32.ofNat n), .ref 0, .ref 41]) (pm_q0_14 (Nat.le_of_ble_eq_true rfl)) rfl rfl ?_
  refine pm_R_op pm_M0 (pc' := 1239) (st' := [.int (Int32.ofNat (n + 1)), .ref 0, .ref 41]) (pm_q0_14 (Nat.le_of_ble_eq_true rfl)) (congrArg (fun z => some (Value.int z :: [.ref 0, .ref 41])) (p2_ad (n := n) (c := 1) (k := 1) rfl)) rfl ?_
  refine pm_R_iald pm_M0 (pc' := 1240) (v := x1) (pm_q0_14 (Nat.le_of_ble_eq_true rfl)) ((T.old (by decide)).trans e0) (T.lt (by decide)) (p2_in (by omega) hL) v1 rfl ?_
  refine pm_R_lo pm_M0 (pc' := 1241) (pm_q0_14 (Nat.le_of_ble_eq_true rfl)) rfl rfl ?_
  refine pm_R_lo pm_M0 (pc' := 1242) (pm_q0_14 (Nat.le_of_ble_eq_true rfl)) rfl rfl ?_
  refine pm_R_op pm_M0 (pc' := 1243) (st' := [.int 2, .int (Int32.ofNat n), .ref 0, .int x1, .ref 41]) (pm_q0_14 (Nat.le_of_ble_eq_true rfl)) rfl rfl ?_
  refine pm_R_op pm_M0 (pc' := 1244) (st' := [.int (Int32.ofNat (n + 2)), .ref 0, .int x1, .ref 41]) (pm_q0_14 (Nat.le_of_ble_eq_true rfl)) (congrArg (fun z => some (Value.int z :: [.ref 0, .int x1, .ref 41])) (p2_ad (n := n) (c := 2) (k := 2) rfl)) rfl ?_
  refine pm_R_iald pm_M0 (pc' := 1245) (v := x2) (pm_q0_15 (Nat.le_of_ble_eq_true rfl)) ((T.old (by decide)).trans e0) (T.lt (by decide)) (p2_in (by omega) hL) v2 rfl ?_
  refine pm_R_lo pm_M0 (pc' := 1246) (pm_q0_15 (Nat.le_of_ble_eq_true rfl)) rfl rfl ?_
  refine pm_R_lo pm_M0 (pc' := 1247) (pm_q0_15 (Nat.le_of_ble_eq_true rfl)) rfl rfl ?_
  refine pm_R_op pm_M0 (pc' := 1248) (st' := [.int 3, .int (Int32.ofNat n), .ref 0, .int x2, .int x1, .ref 41]) (pm_q0_15 (Nat.le_of_ble_eq_true rfl)) rfl rfl ?_
  refine pm_R_op pm_M0 (pc' := 1249) (st' := [.int (Int32.ofNat (n + 3)), .ref 0, .int x2, .int x1, .ref 41]) (pm_q0_15 (Nat.le_of_ble_eq_true rfl)) (congrArg (fun z => some (Value.int z :: [.ref 0, .int x2, .int x1, .ref 41])) (p2_ad (n := n) (c := 3) (k := 3) rfl)) rfl ?_
  refine pm_R_iald pm_M0 (pc' := 1250) (v := x3) (pm_q0_15 (Nat.le_of_ble_eq_true rfl)) ((T.old (by decide)).trans e0) (T.lt (by decide)) (p2_in (by omega) hL) v3 rfl ?_
  refine pm_R_lo pm_M0 (pc' := 1251) (pm_q0_15 (Nat.le_of_ble_eq_true rfl)) rfl rfl ?_
  refine pm_R_lo pm_M0 (pc' := 1252) (pm_q0_15 (Nat.le_of_ble_eq_true rfl)) rfl rfl ?_
  refine pm_R_op pm_M0 (pc' := 1253) (st' := [.int 4, .int (Int32.ofNat n), .ref 0, .int x3, .int x2, .int x1, .ref 41]) (pm_q0_15 (Nat.le_of_ble_eq_true rfl)) rfl rfl ?_
  refine pm_R_op pm_M0 (pc' := 1254) (st' := [.int (Int32.ofNat (n + 4)), .ref 0, .int x3, .int x2, .int x1, .ref 41]) (pm_q0_15 (Nat.le_of_ble_eq_true rfl)) (congrArg (fun z => some (Value.int z :: [.ref 0, .int x3, .int x2, .int x1, .ref 41])) (p2_ad (n := n) (c := 4) (k := 4) rfl)) rfl ?_
  refine pm_R_iald pm_M0 (pc' := 1255) (v := x4) (pm_q0_15 (Nat.le_of_ble_eq_true rfl)) ((T.old (by decide)).trans e0) (T.lt (by decide)) (p2_in (by omega) hL) v4 rfl ?_
  refine pm_R_cv pm_M0 (pc' := 1258) (a := 41) (ra := [.int x4, .int x3, .int x2, .int x1]) (rest := []) (ls' := [.ref 41, .int x1, .int x2, .int x3, .int x4]) (pm_q0_15 (Nat.le_of_ble_eq_true rfl)) rfl (Or.inl rfl) pm_M260 Tr.2.1 rfl (by decide) (Nat.lt_of_lt_of_le (by decide) Tr.1) rfl rfl (Nat.le_of_ble_eq_true rfl) rfl rfl ?_
  refine ex_inj WW KK rfl ?_
  refine rf_c260 Tr (fun r2 m1 w1 h1 T1 F1 W1 => ?_)
  intro WW KK
  show pm_R 100 0 1258 [.ref 0, .ref 16, .ref 41, .int (Int32.ofNat n)] [.int r2] _ _
  have RR := R2_rf F1 (by decide) RR
  have I := p2_rf G T Y e0 S R hc T1 F1 (by decide)
  refine pm_R_op pm_M0 (pc' := 1259) (st' := []) (pm_q0_15 (Nat.le_of_ble_eq_true rfl)) rfl rfl ?_
  refine pm_R_br pm_M0 (pc' := 2117) (pm_q0_15 (Nat.le_of_ble_eq_true rfl)) rfl ?_
  exact K _ ⟨I, WW, KK, RR⟩
