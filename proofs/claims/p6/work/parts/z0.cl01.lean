set_option maxRecDepth 100000 in
set_option maxHeartbeats 4000000 in
theorem p6_k24 {L n j : Nat} {xs : Nat → Int32} {h : pm_H} {Q : Option Value → pm_H → Prop} (I : p6_I L xs j h) (hn : n + 7 ≤ L) (hL : L ≤ 3584) (K : ∀ h', p6_I L xs (j + 1) h' → pm_R 100 0 2117 [.ref 0, .ref 16, .ref 41, .int (Int32.ofNat n)] [] h' Q) : pm_R 100 0 1262 [.ref 0, .ref 16, .ref 41, .int (Int32.ofNat n)] [] h Q := by
  obtain ⟨x1, v1⟩ : ∃ y, xs (Int32.toNatClampNeg (Int32.ofNat (n + 1))) = y := ⟨_, rfl⟩
  obtain ⟨x2, v2⟩ : ∃ y, xs (Int32.toNatClampNeg (Int32.ofNat (n + 2))) = y := ⟨_, rfl⟩
  obtain ⟨x3, v3⟩ : ∃ y, xs (Int32.toNatClampNeg (Int32.ofNat (n + 3))) = y := ⟨_, rfl⟩
  obtain ⟨x4, v4⟩ : ∃ y, xs (Int32.toNatClampNeg (Int32.ofNat (n + 4))) = y := ⟨_, rfl⟩
  obtain ⟨x5, v5⟩ : ∃ y, xs (Int32.toNatClampNeg (Int32.ofNat (n + 5))) = y := ⟨_, rfl⟩
  obtain ⟨I, WW, KK, RR⟩ := I
  obtain ⟨ck, E, m, o, mr, wr, G, T, Tr, Y, e0, S, R, hc⟩ := I
  refine pm_R_lo pm_M0 (pc' := 1263) (pm_q0_15 (Nat.le_of_ble_eq_true rfl)) rfl rfl ?_
  refine pm_R_lo pm_M0 (pc' := 1264) (pm_q0_15 (Nat.le_of_ble_eq_true rfl)) rfl rfl ?_
  refine pm_R_lo pm_M0 (pc' := 1265) (pm_q0_15 (Nat.le_of_ble_eq_true rfl)) rfl rfl ?_
  refine pm_R_op pm_M0 (pc' := 1266) (st' := [.int 1, .int (Int32.ofNat n), .ref 0, .ref 16]) (pm_q0_15 (Nat.le_of_ble_eq_true rfl)) rfl rfl ?_
  refine pm_R_op pm_M0 (pc' := 1267) (st' := [.int (Int32.ofNat (n + 1)), .ref 0, .ref 16]) (pm_q0_15 (Nat.le_of_ble_eq_true rfl)) (congrArg (fun z => some (Value.int z :: [.ref 0, .ref 16])) (p2_ad (n := n) (c := 1) (k := 1) rfl)) rfl ?_
  refine pm_R_iald pm_M0 (pc' := 1268) (v := x1) (pm_q0_15 (Nat.le_of_ble_eq_true rfl)) ((T.old (by decide)).trans e0) (T.lt (by decide)) (p2_in (by omega) hL) v1 rfl ?_
  refine pm_R_lo pm_M0 (pc' := 1269) (pm_q0_15 (Nat.le_of_ble_eq_true rfl)) rfl rfl ?_
  refine pm_R_lo pm_M0 (pc' := 1270) (pm_q0_15 (Nat.le_of_ble_eq_true rfl)) rfl rfl ?_
  refine pm_R_op pm_M0 (pc' := 1271) (st' := [.int 2, .int (Int32.ofNat n), .ref 0, .int x1, .ref 16]) (pm_q0_15 (Nat.le_of_ble_eq_true rfl)) rfl rfl ?_
  refine pm_R_op pm_M0 (pc' := 1272) (st' := [.int (Int32.ofNat (n + 2)), .ref 0, .int x1, .ref 16]) (pm_q0_15 (Nat.le_of_ble_eq_true rfl)) (congrArg (fun z => some (Value.int z :: [.ref 0, .int x1, .ref 16])) (p2_ad (n := n) (c := 2) (k := 2) rfl)) rfl ?_
  refine pm_R_iald pm_M0 (pc' := 1273) (v := x2) (pm_q0_15 (Nat.le_of_ble_eq_true rfl)) ((T.old (by decide)).trans e0) (T.lt (by decide)) (p2_in (by omega) hL) v2 rfl ?_
  refine pm_R_lo pm_M0 (pc' := 1274) (pm_q0_15 (Nat.le_of_ble_eq_true rfl)) rfl rfl ?_
  refine pm_R_lo pm_M0 (pc' := 1275) (pm_q0_15 (Nat.le_of_ble_eq_true rfl)) rfl rfl ?_
  refine pm_R_op pm_M0 (pc' := 1276) (st' := [.int 3, .int (Int32.ofNat n), .ref 0, .int x2, .int x1, .ref 16]) (pm_q0_15 (Nat.le_of_ble_eq_true rfl)) rfl rfl ?_
  refine pm_R_op pm_M0 (pc' := 1277) (st' := [.int (Int32.ofNat (n + 3)), .ref 0, .int x2, .int x1, .ref 16]) (pm_q0_15 (Nat.le_of_ble_eq_true rfl)) (congrArg (fun z => some (Value.int z :: [.ref 0, .int x2, .int x1, .ref 16])) (p2_ad (n := n) (c := 3) (k := 3) rfl)) rfl ?_
  refine pm_R_iald pm_M0 (pc' := 1278) (v := x3) (pm_q0_15 (Nat.le_of_ble_eq_true rfl)) ((T.old (by decide)).trans e0) (T.lt (by decide)) (p2_in (by omega) hL) v3 rfl ?_
  refine pm_R_lo pm_M0 (pc' := 1279) (pm_q0_15 (Nat.le_of_ble_eq_true rfl)) rfl rfl ?_
  refine pm_R_lo pm_M0 (pc' := 1280) (pm_q0_15 (Nat.le_of_ble_eq_true rfl)) rfl rfl ?_
  refine pm_R_op pm_M0 (pc' := 1281) (st' := [.int 4, .int (Int32.ofNat n), .ref 0, .int x3, .int x2, .int x1, .ref 16]) (pm_q0_15 (Nat.le_of_ble_eq_true rfl)) rfl rfl ?_
  refine pm_R_op pm_M0 (pc' := 1282) (st' := [.int (Int32.ofNat (n + 4)), .ref 0, .int x3, .int x2, .int x1, .ref 16]) (pm_q0_15 (Nat.le_of_ble_eq_true rfl)) (congrArg (fun z => some (Value.int z :: [.ref 0, .int x3, .int x2, .int x1, .ref 16])) (p2_ad (n := n) (c := 4) (k := 4) rfl)) rfl ?_
  refine pm_R_iald pm_M0 (pc' := 1283) (v := x4) (pm_q0_15 (Nat.le_of_ble_eq_true rfl)) ((T.old (by decide)).trans e0) (T.lt (by decide)) (p2_in (by omega) hL) v4 rfl ?_
  refine pm_R_lo pm_M0 (pc' := 1284) (pm_q0_15 (Nat.le_of_ble_eq_true rfl)) rfl rfl ?_
  refine pm_R_lo pm_M0 (pc' := 1285) (pm_q0_15 (Nat.le_of_ble_eq_true rfl)) rfl rfl ?_
  refine pm_R_op pm_M0 (pc' := 1286) (st' := [.int 5, .int (Int32.ofNat n), .ref 0, .int x4, .int x3, .int x2, .int x1, .ref 16]) (pm_q0_15 (Nat.le_of_ble_eq_true rfl)) rfl rfl ?_
  refine pm_R_op pm_M0 (pc' := 1287) (st' := [.int (Int32.ofNat (n + 5)), .ref 0, .int x4, .int x3, .int x2, .int x1, .ref 16]) (pm_q0_15 (Nat.le_of_ble_eq_true rfl)) (congrArg (fun z => some (Value.int z :: [.ref 0, .int x4, .int x3, .int x2, .int x1, .ref 16])) (p2_ad (n := n) (c := 5) (k := 5) rfl)) rfl ?_
  refine pm_R_iald pm_M0 (pc' := 1288) (v := x5) (pm_q0_15 (Nat.le_of_ble_eq_true rfl)) ((T.old (by decide)).trans e0) (T.lt (by decide)) (p2_in (by omega) hL) v5 rfl ?_
  refine pm_R_cv pm_M0 (pc' := 1291) (a := 16) (ra := [.int x5, .int x4, .int x3, .int x2, .int x1]) (rest := []) (ls' := [.ref 16, .int x1, .int x2, .int x3, .int x4, .int x5, pm_no, pm_no]) (pm_q0_15 (Nat.le_of_ble_eq_true rfl)) rfl (Or.inl rfl) pm_M148 T.e16 rfl (by decide) (T.lt (by decide)) rfl rfl (Nat.le_of_ble_eq_true rfl) rfl rfl ?_
  refine ex_inj WW KK rfl ?_
  refine cl_c148 G T (fun r1 m1 h1 T1 F1 W1 _ => ?_)
  intro WW KK
  show pm_R 100 0 1291 [.ref 0, .ref 16, .ref 41, .int (Int32.ofNat n)] [.int r1] _ _
  have RR := R2_cl G T F1 (by decide) RR
  have I := p2_cl (j := j) G T Tr Y e0 S R hc T1 F1 (W1 0 (by decide)) (by decide) (by decide) (by decide) (by decide) (by decide) (by decide) (by decide)
  obtain ⟨ck, E, m, o, mr, wr, G, T, Tr, Y, e0, S, R, hc⟩ := I
  refine pm_R_op pm_M0 (pc' := 1292) (st' := []) (pm_q0_15 (Nat.le_of_ble_eq_true rfl)) rfl rfl ?_
  refine pm_R_lo pm_M0 (pc' := 1293) (pm_q0_15 (Nat.le_of_ble_eq_true rfl)) rfl rfl ?_
  refine pm_R_lo pm_M0 (pc' := 1294) (pm_q0_15 (Nat.le_of_ble_eq_true rfl)) rfl rfl ?_
  refine pm_R_lo pm_M0 (pc' := 1295) (pm_q0_15 (Nat.le_of_ble_eq_true rfl)) rfl rfl ?_
  refine pm_R_op pm_M0 (pc' := 1296) (st' := [.int 1, .int (Int32.ofNat n), .ref 0, .ref 41]) (pm_q0_15 (Nat.le_of_ble_eq_true rfl)) rfl rfl ?_
  refine pm_R_op pm_M0 (pc' := 1297) (st' := [.int (Int32.ofNat (n + 1)), .ref 0, .ref 41]) (pm_q0_15 (Nat.le_of_ble_eq_true rfl)) (congrArg (fun z => some (Value.int z :: [.ref 0, .ref 41])) (p2_ad (n := n) (c := 1) (k := 1) rfl)) rfl ?_
  refine pm_R_iald pm_M0 (pc' := 1298) (v := x1) (pm_q0_15 (Nat.le_of_ble_eq_true rfl)) ((T.old (by decide)).trans e0) (T.lt (by decide)) (p2_in (by omega) hL) v1 rfl ?_
  refine pm_R_lo pm_M0 (pc' := 1299) (pm_q0_15 (Nat.le_of_ble_eq_true rfl)) rfl rfl ?_
  refine pm_R_lo pm_M0 (pc' := 1300) (pm_q0_15 (Nat.le_of_ble_eq_true rfl)) rfl rfl ?_
  refine pm_R_op pm_M0 (pc' := 1301) (st' := [.int 2, .int (Int32.ofNat n), .ref 0, .int x1, .ref 41]) (pm_q0_15 (Nat.le_of_ble_eq_true rfl)) rfl rfl ?_
  refine pm_R_op pm_M0 (pc' := 1302) (st' := [.int (Int32.ofNat (n + 2)), .ref 0, .int x1, .ref 41]) (pm_q0_15 (Nat.le_of_ble_eq_true rfl)) (congrArg (fun z => some (Value.int z :: [.ref 0, .int x1, .ref 41])) (p2_ad (n := n) (c := 2) (k := 2) rfl)) rfl ?_
  refine pm_R_iald pm_M0 (pc' := 1303) (v := x2) (pm_q0_15 (Nat.le_of_ble_eq_true rfl)) ((T.old (by decide)).trans e0) (T.lt (by decide)) (p2_in (by omega) hL) v2 rfl ?_
  refine pm_R_lo pm_M0 (pc' := 1304) (pm_q0_15 (Nat.le_of_ble_eq_true rfl)) rfl rfl ?_
  refine pm_R_lo pm_M0 (pc' := 1305) (pm_q0_15 (Nat.le_of_ble_eq_true rfl)) rfl rfl ?_
  refine pm_R_op pm_M0 (pc' := 1306) (st' := [.int 3, .int (Int32.ofNat n), .ref 0, .int x2, .int x1, .ref 41]) (pm_q0_15 (Nat.le_of_ble_eq_true rfl)) rfl rfl ?_
  refine pm_R_op pm_M0 (pc' := 1307) (st' := [.int (Int32.ofNat (n + 3)), .ref 0, .int x2, .int x1, .ref 41]) (pm_q0_15 (Nat.le_of_ble_eq_true rfl)) (congrArg (fun z => some (Value.int z :: [.ref 0, .int x2, .int x1, .ref 41])) (p2_ad (n := n) (c := 3) (k := 3) rfl)) rfl ?_
  refine pm_R_iald pm_M0 (pc' := 1308) (v := x3) (pm_q0_15 (Nat.le_of_ble_eq_true rfl)) ((T.old (by decide)).trans e0) (T.lt (by decide)) (p2_in (by omega) hL) v3 rfl ?_
  refine pm_R_lo pm_M0 (pc' := 1309) (pm_q0_15 (Nat.le_of_ble_eq_true rfl)) rfl rfl ?_
  refine pm_R_lo pm_M0 (pc' := 1310) (pm_q0_15 (Nat.le_of_ble_eq_true rfl)) rfl rfl ?_
  refine pm_R_op pm_M0 (pc' := 1311) (st' := [.int 4, .int (Int32.ofNat n), .ref 0, .int x3, .int x2, .int x1, .ref 41]) (pm_q0_16 (Nat.le_of_ble_eq_true rfl)) rfl rfl ?_
  refine pm_R_op pm_M0 (pc' := 1312) (st' := [.int (Int32.ofNat (n + 4)), .ref 0, .int x3, .int x2, .int x1, .ref 41]) (pm_q0_16 (Nat.le_of_ble_eq_true rfl)) (congrArg (fun z => some (Value.int z :: [.ref 0, .int x3, .int x2, .int x1, .ref 41])) (p2_ad (n := n) (c := 4) (k := 4) rfl)) rfl ?_
  refine pm_R_iald pm_M0 (pc' := 1313) (v := x4) (pm_q0_16 (Nat.le_of_ble_eq_true rfl)) ((T.old (by decide)).trans e0) (T.lt (by decide)) (p2_in (by omega) hL) v4 rfl ?_
  refine pm_R_lo pm_M0 (pc' := 1314) (pm_q0_16 (Nat.le_of_ble_eq_true rfl)) rfl rfl ?_
  refine pm_R_lo pm_M0 (pc' := 1315) (pm_q0_16 (Nat.le_of_ble_eq_true rfl)) rfl rfl ?_
  refine pm_R_op pm_M0 (pc' := 1316) (st' := [.int 5, .int (Int32.ofNat n), .ref 0, .int x4, .int x3, .int x2, .int x1, .ref 41]) (pm_q0_16 (Nat.le_of_ble_eq_true rfl)) rfl rfl ?_
  refine pm_R_op pm_M0 (pc' := 1317) (st' := [.int (Int32.ofNat (n + 5)), .ref 0, .int x4, .int x3, .int x2, .int x1, .ref 41]) (pm_q0_16 (Nat.le_of_ble_eq_true rfl)) (congrArg (fun z => some (Value.int z :: [.ref 0, .int x4, .int x3, .int x2, .int x1, .ref 41])) (p2_ad (n := n) (c := 5) (k := 5) rfl)) rfl ?_
  refine pm_R_iald pm_M0 (pc' := 1318) (v := x5) (pm_q0_16 (Nat.le_of_ble_eq_true rfl)) ((T.old (by decide)).trans e0) (T.lt (by decide)) (p2_in (by omega) hL) v5 rfl ?_
  refine pm_R_cv pm_M0 (pc' := 1321) (a := 41) (ra := [.int x5, .int x4, .int x3, .int x2, .int x1]) (rest := []) (ls' := [.ref 41, .int x1, .int x2, .int x3, .int x4, .int x5]) (pm_q0_16 (Nat.le_of_ble_eq_true rfl)) rfl (Or.inl rfl) pm_M262 Tr.2.1 rfl (by decide) (Nat.lt_of_lt_of_le (by decide) Tr.1) rfl rfl (Nat.le_of_ble_eq_true rfl) rfl rfl ?_
  refine ex_inj WW KK rfl ?_
  refine rf_c262 Tr (fun r2 m1 w1 h1 T1 F1 W1 _ => ?_)
  intro WW KK
  show pm_R 100 0 1321 [.ref 0, .ref 16, .ref 41, .int (Int32.ofNat n)] [.int r2] _ _
  have RR := R2_rf F1 (by decide) RR
  have I := p2_rf G T Y e0 S R hc T1 F1 (by decide)
  refine pm_R_op pm_M0 (pc' := 1322) (st' := []) (pm_q0_16 (Nat.le_of_ble_eq_true rfl)) rfl rfl ?_
  refine pm_R_br pm_M0 (pc' := 2117) (pm_q0_16 (Nat.le_of_ble_eq_true rfl)) rfl ?_
  exact K _ ⟨I, WW, KK, RR⟩

set_option maxRecDepth 100000 in
set_option maxHeartbeats 4000000 in
theorem p6_k25 {L n j : Nat} {xs : Nat → Int32} {h : pm_H} {Q : Option Value → pm_H → Prop} (I : p6_I L xs j h) (hn : n + 7 ≤ L) (hL : L ≤ 3584) (K : ∀ h', p6_I L xs (j + 1) h' → pm_R 100 0 2117 [.ref 0, .ref 16, .ref 41, .int (Int32.ofNat n)] [] h' Q) : pm_R 100 0 1325 [.ref 0, .ref 16, .ref 41, .int (Int32.ofNat n)] [] h Q := by
  obtain ⟨x1, v1⟩ : ∃ y, xs (Int32.toNatClampNeg (Int32.ofNat (n + 1))) = y := ⟨_, rfl⟩
  obtain ⟨x2, v2⟩ : ∃ y, xs (Int32.toNatClampNeg (Int32.ofNat (n + 2))) = y := ⟨_, rfl⟩
  obtain ⟨x3, v3⟩ : ∃ y, xs (Int32.toNatClampNeg (Int32.ofNat (n + 3))) = y := ⟨_, rfl⟩
  obtain ⟨I, WW, KK, RR⟩ := I
  obtain ⟨ck, E, m, o, mr, wr, G, T, Tr, Y, e0, S, R, hc⟩ := I
  refine pm_R_lo pm_M0 (pc' := 1326) (pm_q0_16 (Nat.le_of_ble_eq_true rfl)) rfl rfl ?_
  refine pm_R_lo pm_M0 (pc' := 1327) (pm_q0_16 (Nat.le_of_ble_eq_true rfl)) rfl rfl ?_
  refine pm_R_lo pm_M0 (pc' := 1328) (pm_q0_16 (Nat.le_of_ble_eq_true rfl)) rfl rfl ?_
  refine pm_R_op pm_M0 (pc' := 1329) (st' := [.int 1, .int (Int32.ofNat n), .ref 0, .ref 16]) (pm_q0_16 (Nat.le_of_ble_eq_true rfl)) rfl rfl ?_
  refine pm_R_op pm_M0 (pc' := 1330) (st' := [.int (Int32.ofNat (n + 1)), .ref 0, .ref 16]) (pm_q0_16 (Nat.le_of_ble_eq_true rfl)) (congrArg (fun z => some (Value.int z :: [.ref 0, .ref 16])) (p2_ad (n := n) (c := 1) (k := 1) rfl)) rfl ?_
  refine pm_R_iald pm_M0 (pc' := 1331) (v := x1) (pm_q0_16 (Nat.le_of_ble_eq_true rfl)) ((T.old (by decide)).trans e0) (T.lt (by decide)) (p2_in (by omega) hL) v1 rfl ?_
  refine pm_R_lo pm_M0 (pc' := 1332) (pm_q0_16 (Nat.le_of_ble_eq_true rfl)) rfl rfl ?_
  refine pm_R_lo pm_M0 (pc' := 1333) (pm_q0_16 (Nat.le_of_ble_eq_true rfl)) rfl rfl ?_
  refine pm_R_op pm_M0 (pc' := 1334) (st' := [.int 2, .int (Int32.ofNat n), .ref 0, .int x1, .ref 16]) (pm_q0_16 (Nat.le_of_ble_eq_true rfl)) rfl rfl ?_
  refine pm_R_op pm_M0 (pc' := 1335) (st' := [.int (Int32.ofNat (n + 2)), .ref 0, .int x1, .ref 16]) (pm_q0_16 (Nat.le_of_ble_eq_true rfl)) (congrArg (fun z => some (Value.int z :: [.ref 0, .int x1, .ref 16])) (p2_ad (n := n) (c := 2) (k := 2) rfl)) rfl ?_
  refine pm_R_iald pm_M0 (pc' := 1336) (v := x2) (pm_q0_16 (Nat.le_of_ble_eq_true rfl)) ((T.old (by decide)).trans e0) (T.lt (by decide)) (p2_in (by omega) hL) v2 rfl ?_
  refine pm_R_lo pm_M0 (pc' := 1337) (pm_q0_16 (Nat.le_of_ble_eq_true rfl)) rfl rfl ?_
  refine pm_R_lo pm_M0 (pc' := 1338) (pm_q0_16 (Nat.le_of_ble_eq_true rfl)) rfl rfl ?_
  refine pm_R_op pm_M0 (pc' := 1339) (st' := [.int 3, .int (Int32.ofNat n), .ref 0, .int x2, .int x1, .ref 16]) (pm_q0_16 (Nat.le_of_ble_eq_true rfl)) rfl rfl ?_
  refine pm_R_op pm_M0 (pc' := 1340) (st' := [.int (Int32.ofNat (n + 3)), .ref 0, .int x2, .int x1, .ref 16]) (pm_q0_16 (Nat.le_of_ble_eq_true rfl)) (congrArg (fun z => some (Value.int z :: [.ref 0, .int x2, .int x1, .ref 16])) (p2_ad (n := n) (c := 3) (k := 3) rfl)) rfl ?_
  refine pm_R_iald pm_M0 (pc' := 1341) (v := x3) (pm_q0_16 (Nat.le_of_ble_eq_true rfl)) ((T.old (by decide)).trans e0) (T.lt (by decide)) (p2_in (by omega) hL) v3 rfl ?_
  refine pm_R_cv pm_M0 (pc' := 1344) (a := 16) (ra := [.int x3, .int x2, .int x1]) (rest := []) (ls' := [.ref 16, .int x1, .int x2, .int x3, pm_no, pm_no, pm_no, pm_no, pm_no, pm_no]) (pm_q0_16 (Nat.le_of_ble_eq_true rfl)) rfl (Or.inl rfl) pm_M150 T.e16 rfl (by decide) (T.lt (by decide)) rfl rfl (Nat.le_of_ble_eq_true rfl) rfl rfl ?_
  refine ex_inj WW KK rfl ?_
  refine cl_c150 G T (fun r1 m1 h1 T1 F1 W1 => ?_)
  intro WW KK
  show pm_R 100 0 1344 [.ref 0, .ref 16, .ref 41, .int (Int32.ofNat n)] [.int r1] _ _
  have RR := R2_cl G T F1 (by decide) RR
  have I := p2_cl (j := j) G T Tr Y e0 S R hc T1 F1 (W1 0 (by decide)) (by decide) (by decide) (by decide) (by decide) (by decide) (by decide) (by decide)
  obtain ⟨ck, E, m, o, mr, wr, G, T, Tr, Y, e0, S, R, hc⟩ := I
  refine pm_R_op pm_M0 (pc' := 1345) (st' := []) (pm_q0_16 (Nat.le_of_ble_eq_true rfl)) rfl rfl ?_
  refine pm_R_lo pm_M0 (pc' := 1346) (pm_q0_16 (Nat.le_of_ble_eq_true rfl)) rfl rfl ?_
  refine pm_R_lo pm_M0 (pc' := 1347) (pm_q0_16 (Nat.le_of_ble_eq_true rfl)) rfl rfl ?_
  refine pm_R_lo pm_M0 (pc' := 1348) (pm_q0_16 (Nat.le_of_ble_eq_true rfl)) rfl rfl ?_
  refine pm_R_op pm_M0 (pc' := 1349) (st' := [.int 1, .int (Int32.ofNat n), .ref 0, .ref 41]) (pm_q0_16 (Nat.le_of_ble_eq_true rfl)) rfl rfl ?_
  refine pm_R_op pm_M0 (pc' := 1350) (st' := [.int (Int32.ofNat (n + 1)), .ref 0, .ref 41]) (pm_q0_16 (Nat.le_of_ble_eq_true rfl)) (congrArg (fun z => some (Value.int z :: [.ref 0, .ref 41])) (p2_ad (n := n) (c := 1) (k := 1) rfl)) rfl ?_
  refine pm_R_iald pm_M0 (pc' := 1351) (v := x1) (pm_q0_16 (Nat.le_of_ble_eq_true rfl)) ((T.old (by decide)).trans e0) (T.lt (by decide)) (p2_in (by omega) hL) v1 rfl ?_
  refine pm_R_lo pm_M0 (pc' := 1352) (pm_q0_16 (Nat.le_of_ble_eq_true rfl)) rfl rfl ?_
  refine pm_R_lo pm_M0 (pc' := 1353) (pm_q0_16 (Nat.le_of_ble_eq_true rfl)) rfl rfl ?_
  refine pm_R_op pm_M0 (pc' := 1354) (st' := [.int 2, .int (Int32.ofNat n), .ref 0, .int x1, .ref 41]) (pm_q0_16 (Nat.le_of_ble_eq_true rfl)) rfl rfl ?_
  refine pm_R_op pm_M0 (pc' := 1355) (st' := [.int (Int32.ofNat (n + 2)), .ref 0, .int x1, .ref 41]) (pm_q0_16 (Nat.le_of_ble_eq_true rfl)) (congrArg (fun z => some (Value.int z :: [.ref 0, .int x1, .ref 41])) (p2_ad (n := n) (c := 2) (k := 2) rfl)) rfl ?_
  refine pm_R_iald pm_M0 (pc' := 1356) (v := x2) (pm_q0_16 (Nat.le_of_ble_eq_true rfl)) ((T.old (by decide)).trans e0) (T.lt (by decide)) (p2_in (by omega) hL) v2 rfl ?_
  refine pm_R_lo pm_M0 (pc' := 1357) (pm_q0_16 (Nat.le_of_ble_eq_true rfl)) rfl rfl ?_
  refine pm_R_lo pm_M0 (pc' := 1358) (pm_q0_16 (Nat.le_of_ble_eq_true rfl)) rfl rfl ?_
  refine pm_R_op pm_M0 (pc' := 1359) (st' := [.int 3, .int (Int32.ofNat n), .ref 0, .int x2, .int x1, .ref 41]) (pm_q0_16 (Nat.le_of_ble_eq_true rfl)) rfl rfl ?_
  refine pm_R_op pm_M0 (pc' := 1360) (st' := [.int (Int32.ofNat (n + 3)), .ref 0, .int x2, .int x1, .ref 41]) (pm_q0_16 (Nat.le_of_ble_eq_true rfl)) (congrArg (fun z => some (Value.int z :: [.ref 0, .int x2, .int x1, .ref 41])) (p2_ad (n := n) (c := 3) (k := 3) rfl)) rfl ?_
  refine pm_R_iald pm_M0 (pc' := 1361) (v := x3) (pm_q0_16 (Nat.le_of_ble_eq_true rfl)) ((T.old (by decide)).trans e0) (T.lt (by decide)) (p2_in (by omega) hL) v3 rfl ?_
  refine pm_R_cv pm_M0 (pc' := 1364) (a := 41) (ra := [.int x3, .int x2, .int x1]) (rest := []) (ls' := [.ref 41, .int x1, .int x2, .int x3, pm_no, pm_no, pm_no, pm_no, pm_no]) (pm_q0_16 (Nat.le_of_ble_eq_true rfl)) rfl (Or.inl rfl) pm_M264 Tr.2.1 rfl (by decide) (Nat.lt_of_lt_of_le (by decide) Tr.1) rfl rfl (Nat.le_of_ble_eq_true rfl) rfl rfl ?_
  refine ex_inj WW KK rfl ?_
  refine rf_c264 Tr (fun r2 m1 w1 h1 T1 F1 W1 => ?_)
  intro WW KK
  show pm_R 100 0 1364 [.ref 0, .ref 16, .ref 41, .int (Int32.ofNat n)] [.int r2] _ _
  have RR := R2_rf F1 (by decide) RR
  have I := p2_rf G T Y e0 S R hc T1 F1 (by decide)
  refine pm_R_op pm_M0 (pc' := 1365) (st' := []) (pm_q0_16 (Nat.le_of_ble_eq_true rfl)) rfl rfl ?_
  refine pm_R_br pm_M0 (pc' := 2117) (pm_q0_16 (Nat.le_of_ble_eq_true rfl)) rfl ?_
  exact K _ ⟨I, WW, KK, RR⟩

set_option maxRecDepth 100000 in
set_option maxHeartbeats 4000000 in
theorem p6_k26 {L n j : Nat} {xs : Nat → Int32} {h : pm_H} {Q : Option Value → pm_H → Prop} (I : p6_I L xs j h) (hn : n + 7 ≤ L) (hL : L ≤ 3584) (K : ∀ h', p6_I L xs (j + 1) h' → pm_R 100 0 2117 [.ref 0, .ref 16, .ref 41, .int (Int32.ofNat n)] [] h' Q) : pm_R 100 0 1368 [.ref 0, .ref 16, .ref 41, .int (Int32.ofNat n)] [] h Q := by
  obtain ⟨x1, v1⟩ : ∃ y, xs (Int32.toNatClampNeg (Int32.ofNat (n + 1))) = y := ⟨_, rfl⟩
  obtain ⟨x2, v2⟩ : ∃ y, xs (Int32.toNatClampNeg (Int32.ofNat (n + 2))) = y := ⟨_, rfl⟩
  obtain ⟨x3, v3⟩ : ∃ y, xs (Int32.toNatClampNeg (Int32.ofNat (n + 3))) = y := ⟨_, rfl⟩
  obtain ⟨I, WW, KK, RR⟩ := I
  obtain ⟨ck, E, m, o, mr, wr, G, T, Tr, Y, e0, S, R, hc⟩ := I
  refine pm_R_lo pm_M0 (pc' := 1369) (pm_q0_16 (Nat.le_of_ble_eq_true rfl)) rfl rfl ?_
  refine pm_R_lo pm_M0 (pc' := 1370) (pm_q0_16 (Nat.le_of_ble_eq_true rfl)) rfl rfl ?_
  refine pm_R_lo pm_M0 (pc' := 1371) (pm_q0_16 (Nat.le_of_ble_eq_true rfl)) rfl rfl ?_
  refine pm_R_op pm_M0 (pc' := 1372) (st' := [.int 1, .int (Int32.ofNat n), .ref 0, .ref 16]) (pm_q0_16 (Nat.le_of_ble_eq_true rfl)) rfl rfl ?_
  refine pm_R_op pm_M0 (pc' := 1373) (st' := [.int (Int32.ofNat (n + 1)), .ref 0, .ref 16]) (pm_q0_16 (Nat.le_of_ble_eq_true rfl)) (congrArg (fun z => some (Value.int z :: [.ref 0, .ref 16])) (p2_ad (n := n) (c := 1) (k := 1) rfl)) rfl ?_
  refine pm_R_iald pm_M0 (pc' := 1374) (v := x1) (pm_q0_16 (Nat.le_of_ble_eq_true rfl)) ((T.old (by decide)).trans e0) (T.lt (by decide)) (p2_in (by omega) hL) v1 rfl ?_
  refine pm_R_lo pm_M0 (pc' := 1375) (pm_q0_16 (Nat.le_of_ble_eq_true rfl)) rfl rfl ?_
  refine pm_R_lo pm_M0 (pc' := 1376) (pm_q0_16 (Nat.le_of_ble_eq_true rfl)) rfl rfl ?_
  refine pm_R_op pm_M0 (pc' := 1377) (st' := [.int 2, .int (Int32.ofNat n), .ref 0, .int x1, .ref 16]) (pm_q0_16 (Nat.le_of_ble_eq_true rfl)) rfl rfl ?_
  refine pm_R_op pm_M0 (pc' := 1378) (st' := [.int (Int32.ofNat (n + 2)), .ref 0, .int x1, .ref 16]) (pm_q0_16 (Nat.le_of_ble_eq_true rfl)) (congrArg (fun z => some (Value.int z :: [.ref 0, .int x1, .ref 16])) (p2_ad (n := n) (c := 2) (k := 2) rfl)) rfl ?_
  refine pm_R_iald pm_M0 (pc' := 1379) (v := x2) (pm_q0_16 (Nat.le_of_ble_eq_true rfl)) ((T.old (by decide)).trans e0) (T.lt (by decide)) (p2_in (by omega) hL) v2 rfl ?_
  refine pm_R_lo pm_M0 (pc' := 1380) (pm_q0_16 (Nat.le_of_ble_eq_true rfl)) rfl rfl ?_
  refine pm_R_lo pm_M0 (pc' := 1381) (pm_q0_17 (Nat.le_of_ble_eq_true rfl)) rfl rfl ?_
  refine pm_R_op pm_M0 (pc' := 1382) (st' := [.int 3, .int (Int32.ofNat n), .ref 0, .int x2, .int x1, .ref 16]) (pm_q0_17 (Nat.le_of_ble_eq_true rfl)) rfl rfl ?_
  refine pm_R_op pm_M0 (pc' := 1383) (st' := [.int (Int32.ofNat (n + 3)), .ref 0, .int x2, .int x1, .ref 16]) (pm_q0_17 (Nat.le_of_ble_eq_true rfl)) (congrArg (fun z => some (Value.int z :: [.ref 0, .int x2, .int x1, .ref 16])) (p2_ad (n := n) (c := 3) (k := 3) rfl)) rfl ?_
  refine pm_R_iald pm_M0 (pc' := 1384) (v := x3) (pm_q0_17 (Nat.le_of_ble_eq_true rfl)) ((T.old (by decide)).trans e0) (T.lt (by decide)) (p2_in (by omega) hL) v3 rfl ?_
  refine pm_R_cv pm_M0 (pc' := 1387) (a := 16) (ra := [.int x3, .int x2, .int x1]) (rest := []) (ls' := [.ref 16, .int x1, .int x2, .int x3]) (pm_q0_17 (Nat.le_of_ble_eq_true rfl)) rfl (Or.inl rfl) pm_M151 T.e16 rfl (by decide) (T.lt (by decide)) rfl rfl (Nat.le_of_ble_eq_true rfl) rfl rfl ?_
  refine ex_inj WW KK rfl ?_
  refine cl_c151 G T (fun r1 _ => ?_)
  intro WW KK
  show pm_R 100 0 1387 [.ref 0, .ref 16, .ref 41, .int (Int32.ofNat n)] [.int r1] _ _
  have I := p2_up (⟨ck, E, m, o, mr, wr, G, T, Tr, Y, e0, S, R, hc⟩ : p2_I L xs j h)
  obtain ⟨ck, E, m, o, mr, wr, G, T, Tr, Y, e0, S, R, hc⟩ := I
  refine pm_R_op pm_M0 (pc' := 1388) (st' := []) (pm_q0_17 (Nat.le_of_ble_eq_true rfl)) rfl rfl ?_
  refine pm_R_lo pm_M0 (pc' := 1389) (pm_q0_17 (Nat.le_of_ble_eq_true rfl)) rfl rfl ?_
  refine pm_R_lo pm_M0 (pc' := 1390) (pm_q0_17 (Nat.le_of_ble_eq_true rfl)) rfl rfl ?_
  refine pm_R_lo pm_M0 (pc' := 1391) (pm_q0_17 (Nat.le_of_ble_eq_true rfl)) rfl rfl ?_
  refine pm_R_op pm_M0 (pc' := 1392) (st' := [.int 1, .int (Int32.ofNat n), .ref 0, .ref 41]) (pm_q0_17 (Nat.le_of_ble_eq_true rfl)) rfl rfl ?_
  refine pm_R_op pm_M0 (pc' := 1393) (st' := [.int (Int32.ofNat (n + 1)), .ref 0, .ref 41]) (pm_q0_17 (Nat.le_of_ble_eq_true rfl)) (congrArg (fun z => some (Value.int z :: [.ref 0, .ref 41])) (p2_ad (n := n) (c := 1) (k := 1) rfl)) rfl ?_
  refine pm_R_iald pm_M0 (pc' := 1394) (v := x1) (pm_q0_17 (Nat.le_of_ble_eq_true rfl)) ((T.old (by decide)).trans e0) (T.lt (by decide)) (p2_in (by omega) hL) v1 rfl ?_
  refine pm_R_lo pm_M0 (pc' := 1395) (pm_q0_17 (Nat.le_of_ble_eq_true rfl)) rfl rfl ?_
  refine pm_R_lo pm_M0 (pc' := 1396) (pm_q0_17 (Nat.le_of_ble_eq_true rfl)) rfl rfl ?_
  refine pm_R_op pm_M0 (pc' := 1397) (st' := [.int 2, .int (Int32.ofNat n), .ref 0, .int x1, .ref 41]) (pm_q0_17 (Nat.le_of_ble_eq_true rfl)) rfl rfl ?_
  refine pm_R_op pm_M0 (pc' := 1398) (st' := [.int (Int32.ofNat (n + 2)), .ref 0, .int x1, .ref 41]) (pm_q0_17 (Nat.le_of_ble_eq_true rfl)) (congrArg (fun z => some (Value.int z :: [.ref 0, .int x1, .ref 41])) (p2_ad (n := n) (c := 2) (k := 2) rfl)) rfl ?_
  refine pm_R_iald pm_M0 (pc' := 1399) (v := x2) (pm_q0_17 (Nat.le_of_ble_eq_true rfl)) ((T.old (by decide)).trans e0) (T.lt (by decide)) (p2_in (by omega) hL) v2 rfl ?_
  refine pm_R_lo pm_M0 (pc' := 1400) (pm_q0_17 (Nat.le_of_ble_eq_true rfl)) rfl rfl ?_
  refine pm_R_lo pm_M0 (pc' := 1401) (pm_q0_17 (Nat.le_of_ble_eq_true rfl)) rfl rfl ?_
  refine pm_R_op pm_M0 (pc' := 1402) (st' := [.int 3, .int (Int32.ofNat n), .ref 0, .int x2, .int x1, .ref 41]) (pm_q0_17 (Nat.le_of_ble_eq_true rfl)) rfl rfl ?_
  refine pm_R_op pm_M0 (pc' := 1403) (st' := [.int (Int32.ofNat (n + 3)), .ref 0, .int x2, .int x1, .ref 41]) (pm_q0_17 (Nat.le_of_ble_eq_true rfl)) (congrArg (fun z => some (Value.int z :: [.ref 0, .int x2, .int x1, .ref 41])) (p2_ad (n := n) (c := 3) (k := 3) rfl)) rfl ?_
  refine pm_R_iald pm_M0 (pc' := 1404) (v := x3) (pm_q0_17 (Nat.le_of_ble_eq_true rfl)) ((T.old (by decide)).trans e0) (T.lt (by decide)) (p2_in (by omega) hL) v3 rfl ?_
  refine pm_R_cv pm_M0 (pc' := 1407) (a := 41) (ra := [.int x3, .int x2, .int x1]) (rest := []) (ls' := [.ref 41, .int x1, .int x2, .int x3]) (pm_q0_17 (Nat.le_of_ble_eq_true rfl)) rfl (Or.inl rfl) pm_M265 Tr.2.1 rfl (by decide) (Nat.lt_of_lt_of_le (by decide) Tr.1) rfl rfl (Nat.le_of_ble_eq_true rfl) rfl rfl ?_
  refine ex_inj WW KK rfl ?_
  refine rf_c265 Tr (fun r2 m1 w1 h1 T1 F1 W1 _ => ?_)
  intro WW KK
  show pm_R 100 0 1407 [.ref 0, .ref 16, .ref 41, .int (Int32.ofNat n)] [.int r2] _ _
  have RR := R2_rf F1 (by decide) RR
  have I := p2_rf G T Y e0 S R hc T1 F1 (by decide)
  refine pm_R_op pm_M0 (pc' := 1408) (st' := []) (pm_q0_17 (Nat.le_of_ble_eq_true rfl)) rfl rfl ?_
  refine pm_R_br pm_M0 (pc' := 2117) (pm_q0_17 (Nat.le_of_ble_eq_true rfl)) rfl ?_
  exact K _ ⟨I, WW, KK, RR⟩

set_option maxRecDepth 100000 in
set_option maxHeartbeats 4000000 in
theorem p6_k27 {L n j : Nat} {xs : Nat → Int32} {h : pm_H} {Q : Option Value → pm_H → Prop} (I : p6_I L xs j h) (hn : n + 7 ≤ L) (hL : L ≤ 3584) (K : ∀ h', p6_I L xs (j + 1) h' → pm_R 100 0 2117 [.ref 0, .ref 16, .ref 41, .int (Int32.ofNat n)] [] h' Q) : pm_R 100 0 1411 [.ref 0, .ref 16, .ref 41, .int (Int32.ofNat n)] [] h Q := by
  obtain ⟨x1, v1⟩ : ∃ y, xs (Int32.toNatClampNeg (Int32.ofNat (n + 1))) = y := ⟨_, rfl⟩
  obtain ⟨x2, v2⟩ : ∃ y, xs (Int32.toNatClampNeg (Int32.ofNat (n + 2))) = y := ⟨_, rfl⟩
  obtain ⟨x3, v3⟩ : ∃ y, xs (Int32.toNatClampNeg (Int32.ofNat (n + 3))) = y := ⟨_, rfl⟩
  obtain ⟨x4, v4⟩ : ∃ y, xs (Int32.toNatClampNeg (Int32.ofNat (n + 4))) = y := ⟨_, rfl⟩
  obtain ⟨x5, v5⟩ : ∃ y, xs (Int32.toNatClampNeg (Int32.ofNat (n + 5))) = y := ⟨_, rfl⟩
  obtain ⟨I, WW, KK, RR⟩ := I
  obtain ⟨ck, E, m, o, mr, wr, G, T, Tr, Y, e0, S, R, hc⟩ := I
  refine pm_R_lo pm_M0 (pc' := 1412) (pm_q0_17 (Nat.le_of_ble_eq_true rfl)) rfl rfl ?_
  refine pm_R_lo pm_M0 (pc' := 1413) (pm_q0_17 (Nat.le_of_ble_eq_true rfl)) rfl rfl ?_
  refine pm_R_lo pm_M0 (pc' := 1414) (pm_q0_17 (Nat.le_of_ble_eq_true rfl)) rfl rfl ?_
  refine pm_R_op pm_M0 (pc' := 1415) (st' := [.int 1, .int (Int32.ofNat n), .ref 0, .ref 16]) (pm_q0_17 (Nat.le_of_ble_eq_true rfl)) rfl rfl ?_
  refine pm_R_op pm_M0 (pc' := 1416) (st' := [.int (Int32.ofNat (n + 1)), .ref 0, .ref 16]) (pm_q0_17 (Nat.le_of_ble_eq_true rfl)) (congrArg (fun z => some (Value.int z :: [.ref 0, .ref 16])) (p2_ad (n := n) (c := 1) (k := 1) rfl)) rfl ?_
  refine pm_R_iald pm_M0 (pc' := 1417) (v := x1) (pm_q0_17 (Nat.le_of_ble_eq_true rfl)) ((T.old (by decide)).trans e0) (T.lt (by decide)) (p2_in (by omega) hL) v1 rfl ?_
  refine pm_R_lo pm_M0 (pc' := 1418) (pm_q0_17 (Nat.le_of_ble_eq_true rfl)) rfl rfl ?_
  refine pm_R_lo pm_M0 (pc' := 1419) (pm_q0_17 (Nat.le_of_ble_eq_true rfl)) rfl rfl ?_
  refine pm_R_op pm_M0 (pc' := 1420) (st' := [.int 2, .int (Int32.ofNat n), .ref 0, .int x1, .ref 16]) (pm_q0_17 (Nat.le_of_ble_eq_true rfl)) rfl rfl ?_
  refine pm_R_op pm_M0 (pc' := 1421) (st' := [.int (Int32.ofNat (n + 2)), .ref 0, .int x1, .ref 16]) (pm_q0_17 (Nat.le_of_ble_eq_true rfl)) (congrArg (fun z => some (Value.int z :: [.ref 0, .int x1, .ref 16])) (p2_ad (n := n) (c := 2) (k := 2) rfl)) rfl ?_
  refine pm_R_iald pm_M0 (pc' := 1422) (v := x2) (pm_q0_17 (Nat.le_of_ble_eq_true rfl)) ((T.old (by decide)).trans e0) (T.lt (by decide)) (p2_in (by omega) hL) v2 rfl ?_
  refine pm_R_lo pm_M0 (pc' := 1423) (pm_q0_17 (Nat.le_of_ble_eq_true rfl)) rfl rfl ?_
  refine pm_R_lo pm_M0 (pc' := 1424) (pm_q0_17 (Nat.le_of_ble_eq_true rfl)) rfl rfl ?_
  refine pm_R_op pm_M0 (pc' := 1425) (st' := [.int 3, .int (Int32.ofNat n), .ref 0, .int x2, .int x1, .ref 16]) (pm_q0_17 (Nat.le_of_ble_eq_true rfl)) rfl rfl ?_
  refine pm_R_op pm_M0 (pc' := 1426) (st' := [.int (Int32.ofNat (n + 3)), .ref 0, .int x2, .int x1, .ref 16]) (pm_q0_17 (Nat.le_of_ble_eq_true rfl)) (congrArg (fun z => some (Value.int z :: [.ref 0, .int x2, .int x1, .ref 16])) (p2_ad (n := n) (c := 3) (k := 3) rfl)) rfl ?_
  refine pm_R_iald pm_M0 (pc' := 1427) (v := x3) (pm_q0_17 (Nat.le_of_ble_eq_true rfl)) ((T.old (by decide)).trans e0) (T.lt (by decide)) (p2_in (by omega) hL) v3 rfl ?_
  refine pm_R_lo pm_M0 (pc' := 1428) (pm_q0_17 (Nat.le_of_ble_eq_true rfl)) rfl rfl ?_
  refine pm_R_lo pm_M0 (pc' := 1429) (pm_q0_17 (Nat.le_of_ble_eq_true rfl)) rfl rfl ?_
  refine pm_R_op pm_M0 (pc' := 1430) (st' := [.int 4, .int (Int32.ofNat n), .ref 0, .int x3, .int x2, .int x1, .ref 16]) (pm_q0_17 (Nat.le_of_ble_eq_true rfl)) rfl rfl ?_
  refine pm_R_op pm_M0 (pc' := 1431) (st' := [.int (Int32.ofNat (n + 4)), .ref 0, .int x3, .int x2, .int x1, .ref 16]) (pm_q0_17 (Nat.le_of_ble_eq_true rfl)) (congrArg (fun z => some (Value.int z :: [.ref 0, .int x3, .int x2, .int x1, .ref 16])) (p2_ad (n := n) (c := 4) (k := 4) rfl)) rfl ?_
  refine pm_R_iald pm_M0 (pc' := 1432) (v := x4) (pm_q0_17 (Nat.le_of_ble_eq_true rfl)) ((T.old (by decide)).trans e0) (T.lt (by decide)) (p2_in (by omega) hL) v4 rfl ?_
  refine pm_R_lo pm_M0 (pc' := 1433) (pm_q0_17 (Nat.le_of_ble_eq_true rfl)) rfl rfl ?_
  refine pm_R_lo pm_M0 (pc' := 1434) (pm_q0_17 (Nat.le_of_ble_eq_true rfl)) rfl rfl ?_
  refine pm_R_op pm_M0 (pc' := 1435) (st' := [.int 5, .int (Int32.ofNat n), .ref 0, .int x4, .int x3, .int x2, .int x1, .ref 16]) (pm_q0_17 (Nat.le_of_ble_eq_true rfl)) rfl rfl ?_
  refine pm_R_op pm_M0 (pc' := 1436) (st' := [.int (Int32.ofNat (n + 5)), .ref 0, .int x4, .int x3, .int x2, .int x1, .ref 16]) (pm_q0_17 (Nat.le_of_ble_eq_true rfl)) (congrArg (fun z => some (Value.int z :: [.ref 0, .int x4, .int x3, .int x2, .int x1, .ref 16])) (p2_ad (n := n) (c := 5) (k := 5) rfl)) rfl ?_
  refine pm_R_iald pm_M0 (pc' := 1437) (v := x5) (pm_q0_17 (Nat.le_of_ble_eq_true rfl)) ((T.old (by decide)).trans e0) (T.lt (by decide)) (p2_in (by omega) hL) v5 rfl ?_
  refine pm_R_cv pm_M0 (pc' := 1440) (a := 16) (ra := [.int x5, .int x4, .int x3, .int x2, .int x1]) (rest := []) (ls' := [.ref 16, .int x1, .int x2, .int x3, .int x4, .int x5, pm_no, pm_no, pm_no, pm_no, pm_no]) (pm_q0_17 (Nat.le_of_ble_eq_true rfl)) rfl (Or.inl rfl) pm_M155 T.e16 rfl (by decide) (T.lt (by decide)) rfl rfl (Nat.le_of_ble_eq_true rfl) rfl rfl ?_
  refine ex_inj WW KK rfl ?_
  refine cl_c155 G T (fun r1 m1 h1 T1 F1 W1 _ => ?_)
  intro WW KK
  show pm_R 100 0 1440 [.ref 0, .ref 16, .ref 41, .int (Int32.ofNat n)] [.int r1] _ _
  have RR := R2_cl G T F1 (by decide) RR
  have I := p2_cl (j := j) G T Tr Y e0 S R hc T1 F1 (W1 0 (by decide)) (by decide) (by decide) (by decide) (by decide) (by decide) (by decide) (by decide)
  obtain ⟨ck, E, m, o, mr, wr, G, T, Tr, Y, e0, S, R, hc⟩ := I
  refine pm_R_op pm_M0 (pc' := 1441) (st' := []) (pm_q0_17 (Nat.le_of_ble_eq_true rfl)) rfl rfl ?_
  refine pm_R_lo pm_M0 (pc' := 1442) (pm_q0_17 (Nat.le_of_ble_eq_true rfl)) rfl rfl ?_
  refine pm_R_lo pm_M0 (pc' := 1443) (pm_q0_17 (Nat.le_of_ble_eq_true rfl)) rfl rfl ?_
  refine pm_R_lo pm_M0 (pc' := 1444) (pm_q0_17 (Nat.le_of_ble_eq_true rfl)) rfl rfl ?_
  refine pm_R_op pm_M0 (pc' := 1445) (st' := [.int 1, .int (Int32.ofNat n), .ref 0, .ref 41]) (pm_q0_17 (Nat.le_of_ble_eq_true rfl)) rfl rfl ?_
  refine pm_R_op pm_M0 (pc' := 1446) (st' := [.int (Int32.ofNat (n + 1)), .ref 0, .ref 41]) (pm_q0_17 (Nat.le_of_ble_eq_true rfl)) (congrArg (fun z => some (Value.int z :: [.ref 0, .ref 41])) (p2_ad (n := n) (c := 1) (k := 1) rfl)) rfl ?_
  refine pm_R_iald pm_M0 (pc' := 1447) (v := x1) (pm_q0_17 (Nat.le_of_ble_eq_true rfl)) ((T.old (by decide)).trans e0) (T.lt (by decide)) (p2_in (by omega) hL) v1 rfl ?_
  refine pm_R_lo pm_M0 (pc' := 1448) (pm_q0_17 (Nat.le_of_ble_eq_true rfl)) rfl rfl ?_
  refine pm_R_lo pm_M0 (pc' := 1449) (pm_q0_18 (Nat.le_of_ble_eq_true rfl)) rfl rfl ?_
  refine pm_R_op pm_M0 (pc' := 1450) (st' := [.int 2, .int (Int32.ofNat n), .ref 0, .int x1, .ref 41]) (pm_q0_18 (Nat.le_of_ble_eq_true rfl)) rfl rfl ?_
  refine pm_R_op pm_M0 (pc' := 1451) (st' := [.int (Int32.ofNat (n + 2)), .ref 0, .int x1, .ref 41]) (pm_q0_18 (Nat.le_of_ble_eq_true rfl)) (congrArg (fun z => some (Value.int z :: [.ref 0, .int x1, .ref 41])) (p2_ad (n := n) (c := 2) (k := 2) rfl)) rfl ?_
  refine pm_R_iald pm_M0 (pc' := 1452) (v := x2) (pm_q0_18 (Nat.le_of_ble_eq_true rfl)) ((T.old (by decide)).trans e0) (T.lt (by decide)) (p2_in (by omega) hL) v2 rfl ?_
  refine pm_R_lo pm_M0 (pc' := 1453) (pm_q0_18 (Nat.le_of_ble_eq_true rfl)) rfl rfl ?_
  refine pm_R_lo pm_M0 (pc' := 1454) (pm_q0_18 (Nat.le_of_ble_eq_true rfl)) rfl rfl ?_
  refine pm_R_op pm_M0 (pc' := 1455) (st' := [.int 3, .int (Int32.ofNat n), .ref 0, .int x2, .int x1, .ref 41]) (pm_q0_18 (Nat.le_of_ble_eq_true rfl)) rfl rfl ?_
  refine pm_R_op pm_M0 (pc' := 1456) (st' := [.int (Int32.ofNat (n + 3)), .ref 0, .int x2, .int x1, .ref 41]) (pm_q0_18 (Nat.le_of_ble_eq_true rfl)) (congrArg (fun z => some (Value.int z :: [.ref 0, .int x2, .int x1, .ref 41])) (p2_ad (n := n) (c := 3) (k := 3) rfl)) rfl ?_
  refine pm_R_iald pm_M0 (pc' := 1457) (v := x3) (pm_q0_18 (Nat.le_of_ble_eq_true rfl)) ((T.old (by decide)).trans e0) (T.lt (by decide)) (p2_in (by omega) hL) v3 rfl ?_
  refine pm_R_lo pm_M0 (pc' := 1458) (pm_q0_18 (Nat.le_of_ble_eq_true rfl)) rfl rfl ?_
  refine pm_R_lo pm_M0 (pc' := 1459) (pm_q0_18 (Nat.le_of_ble_eq_true rfl)) rfl rfl ?_
  refine pm_R_op pm_M0 (pc' := 1460) (st' := [.int 4, .int (Int32.ofNat n), .ref 0, .int x3, .int x2, .int x1, .ref 41]) (pm_q0_18 (Nat.le_of_ble_eq_true rfl)) rfl rfl ?_
  refine pm_R_op pm_M0 (pc' := 1461) (st' := [.int (Int32.ofNat (n + 4)), .ref 0, .int x3, .int x2, .int x1, .ref 41]) (pm_q0_18 (Nat.le_of_ble_eq_true rfl)) (congrArg (fun z => some (Value.int z :: [.ref 0, .int x3, .int x2, .int x1, .ref 41])) (p2_ad (n := n) (c := 4) (k := 4) rfl)) rfl ?_
  refine pm_R_iald pm_M0 (pc' := 1462) (v := x4) (pm_q0_18 (Nat.le_of_ble_eq_true rfl)) ((T.old (by decide)).trans e0) (T.lt (by decide)) (p2_in (by omega) hL) v4 rfl ?_
  refine pm_R_lo pm_M0 (pc' := 1463) (pm_q0_18 (Nat.le_of_ble_eq_true rfl)) rfl rfl ?_
  refine pm_R_lo pm_M0 (pc' := 1464) (pm_q0_18 (Nat.le_of_ble_eq_true rfl)) rfl rfl ?_
  refine pm_R_op pm_M0 (pc' := 1465) (st' := [.int 5, .int (Int32.ofNat n), .ref 0, .int x4, .int x3, .int x2, .int x1, .ref 41]) (pm_q0_18 (Nat.le_of_ble_eq_true rfl)) rfl rfl ?_
  refine pm_R_op pm_M0 (pc' := 1466) (st' := [.int (Int32.ofNat (n + 5)), .ref 0, .int x4, .int x3, .int x2, .int x1, .ref 41]) (pm_q0_18 (Nat.le_of_ble_eq_true rfl)) (congrArg (fun z => some (Value.int z :: [.ref 0, .int x4, .int x3, .int x2, .int x1, .ref 41])) (p2_ad (n := n) (c := 5) (k := 5) rfl)) rfl ?_
  refine pm_R_iald pm_M0 (pc' := 1467) (v := x5) (pm_q0_18 (Nat.le_of_ble_eq_true rfl)) ((T.old (by decide)).trans e0) (T.lt (by decide)) (p2_in (by omega) hL) v5 rfl ?_
  refine pm_R_cv pm_M0 (pc' := 1470) (a := 41) (ra := [.int x5, .int x4, .int x3, .int x2, .int x1]) (rest := []) (ls' := [.ref 41, .int x1, .int x2, .int x3, .int x4, .int x5, pm_no]) (pm_q0_18 (Nat.le_of_ble_eq_true rfl)) rfl (Or.inl rfl) pm_M268 Tr.2.1 rfl (by decide) (Nat.lt_of_lt_of_le (by decide) Tr.1) rfl rfl (Nat.le_of_ble_eq_true rfl) rfl rfl ?_
  refine ex_inj WW KK rfl ?_
  refine rf_c268 Tr (fun r2 m1 w1 h1 T1 F1 W1 _ => ?_)
  intro WW KK
  show pm_R 100 0 1470 [.ref 0, .ref 16, .ref 41, .int (Int32.ofNat n)] [.int r2] _ _
  have RR := R2_rf F1 (by decide) RR
  have I := p2_rf G T Y e0 S R hc T1 F1 (by decide)
  refine pm_R_op pm_M0 (pc' := 1471) (st' := []) (pm_q0_18 (Nat.le_of_ble_eq_true rfl)) rfl rfl ?_
  refine pm_R_br pm_M0 (pc' := 2117) (pm_q0_18 (Nat.le_of_ble_eq_true rfl)) rfl ?_
  exact K _ ⟨I, WW, KK, RR⟩

set_option maxRecDepth 100000 in
set_option maxHeartbeats 4000000 in
theorem p6_k28 {L n j : Nat} {xs : Nat → Int32} {h : pm_H} {Q : Option Value → pm_H → Prop} (I : p6_I L xs j h) (hn : n + 7 ≤ L) (hL : L ≤ 3584) (K : ∀ h', p6_I L xs (j + 1) h' → pm_R 100 0 2117 [.ref 0, .ref 16, .ref 41, .int (Int32.ofNat n)] [] h' Q) : pm_R 100 0 1474 [.ref 0, .ref 16, .ref 41, .int (Int32.ofNat n)] [] h Q := by
  obtain ⟨x1, v1⟩ : ∃ y, xs (Int32.toNatClampNeg (Int32.ofNat (n + 1))) = y := ⟨_, rfl⟩
  obtain ⟨x2, v2⟩ : ∃ y, xs (Int32.toNatClampNeg (Int32.ofNat (n + 2))) = y := ⟨_, rfl⟩
  obtain ⟨x3, v3⟩ : ∃ y, xs (Int32.toNatClampNeg (Int32.ofNat (n + 3))) = y := ⟨_, rfl⟩
  obtain ⟨I, WW, KK, RR⟩ := I
  obtain ⟨ck, E, m, o, mr, wr, G, T, Tr, Y, e0, S, R, hc⟩ := I
  refine pm_R_lo pm_M0 (pc' := 1475) (pm_q0_18 (Nat.le_of_ble_eq_true rfl)) rfl rfl ?_
  refine pm_R_lo pm_M0 (pc' := 1476) (pm_q0_18 (Nat.le_of_ble_eq_true rfl)) rfl rfl ?_
  refine pm_R_lo pm_M0 (pc' := 1477) (pm_q0_18 (Nat.le_of_ble_eq_true rfl)) rfl rfl ?_
  refine pm_R_op pm_M0 (pc' := 1478) (st' := [.int 1, .int (Int32.ofNat n), .ref 0, .ref 16]) (pm_q0_18 (Nat.le_of_ble_eq_true rfl)) rfl rfl ?_
  refine pm_R_op pm_M0 (pc' := 1479) (st' := [.int (Int32.ofNat (n + 1)), .ref 0, .ref 16]) (pm_q0_18 (Nat.le_of_ble_eq_true rfl)) (congrArg (fun z => some (Value.int z :: [.ref 0, .ref 16])) (p2_ad (n := n) (c := 1) (k := 1) rfl)) rfl ?_
  refine pm_R_iald pm_M0 (pc' := 1480) (v := x1) (pm_q0_18 (Nat.le_of_ble_eq_true rfl)) ((T.old (by decide)).trans e0) (T.lt (by decide)) (p2_in (by omega) hL) v1 rfl ?_
  refine pm_R_lo pm_M0 (pc' := 1481) (pm_q0_18 (Nat.le_of_ble_eq_true rfl)) rfl rfl ?_
  refine pm_R_lo pm_M0 (pc' := 1482) (pm_q0_18 (Nat.le_of_ble_eq_true rfl)) rfl rfl ?_
  refine pm_R_op pm_M0 (pc' := 1483) (st' := [.int 2, .int (Int32.ofNat n), .ref 0, .int x1, .ref 16]) (pm_q0_18 (Nat.le_of_ble_eq_true rfl)) rfl rfl ?_
  refine pm_R_op pm_M0 (pc' := 1484) (st' := [.int (Int32.ofNat (n + 2)), .ref 0, .int x1, .ref 16]) (pm_q0_18 (Nat.le_of_ble_eq_true rfl)) (congrArg (fun z => some (Value.int z :: [.ref 0, .int x1, .ref 16])) (p2_ad (n := n) (c := 2) (k := 2) rfl)) rfl ?_
  refine pm_R_iald pm_M0 (pc' := 1485) (v := x2) (pm_q0_18 (Nat.le_of_ble_eq_true rfl)) ((T.old (by decide)).trans e0) (T.lt (by decide)) (p2_in (by omega) hL) v2 rfl ?_
  refine pm_R_lo pm_M0 (pc' := 1486) (pm_q0_18 (Nat.le_of_ble_eq_true rfl)) rfl rfl ?_
  refine pm_R_lo pm_M0 (pc' := 1487) (pm_q0_18 (Nat.le_of_ble_eq_true rfl)) rfl rfl ?_
  refine pm_R_op pm_M0 (pc' := 1488) (st' := [.int 3, .int (Int32.ofNat n), .ref 0, .int x2, .int x1, .ref 16]) (pm_q0_18 (Nat.le_of_ble_eq_true rfl)) rfl rfl ?_
  refine pm_R_op pm_M0 (pc' := 1489) (st' := [.int (Int32.ofNat (n + 3)), .ref 0, .int x2, .int x1, .ref 16]) (pm_q0_18 (Nat.le_of_ble_eq_true rfl)) (congrArg (fun z => some (Value.int z :: [.ref 0, .int x2, .int x1, .ref 16])) (p2_ad (n := n) (c := 3) (k := 3) rfl)) rfl ?_
  refine pm_R_iald pm_M0 (pc' := 1490) (v := x3) (pm_q0_18 (Nat.le_of_ble_eq_true rfl)) ((T.old (by decide)).trans e0) (T.lt (by decide)) (p2_in (by omega) hL) v3 rfl ?_
  suffices sw : ∀ y1 : Int32, sf_B 0 1 y1 → pm_R 100 0 1498 [.ref 0, .ref 16, .ref 41, .int (Int32.ofNat n)] [.int y1, .int x2, .int x1, .ref 16] h Q by
    refine pm_R_ifc pm_M0 (t := 1497) (pc' := 1493) (pm_q0_18 (Nat.le_of_ble_eq_true rfl)) rfl rfl (fun _ => ?_) (fun _ => ?_)
    · refine pm_R_op pm_M0 (pc' := 1498) (st' := [.int 0, .int x2, .int x1, .ref 16]) (pm_q0_18 (Nat.le_of_ble_eq_true rfl)) rfl rfl ?_
      exact sw 0 ⟨by decide, by decide⟩
    · refine pm_R_op pm_M0 (pc' := 1494) (st' := [.int 1, .int x2, .int x1, .ref 16]) (pm_q0_18 (Nat.le_of_ble_eq_true rfl)) rfl rfl ?_
      refine pm_R_br pm_M0 (pc' := 1498) (pm_q0_18 (Nat.le_of_ble_eq_true rfl)) rfl ?_
      exact sw 1 ⟨by decide, by decide⟩
  intro y1 b1
  refine pm_R_cv pm_M0 (pc' := 1501) (a := 16) (ra := [.int y1, .int x2, .int x1]) (rest := []) (ls' := [.ref 16, .int x1, .int x2, .int y1, pm_no, pm_no, pm_no, pm_no, pm_no]) (pm_q0_18 (Nat.le_of_ble_eq_true rfl)) rfl (Or.inl rfl) pm_M157 T.e16 rfl (by decide) (T.lt (by decide)) rfl rfl (Nat.le_of_ble_eq_true rfl) rfl rfl ?_
  refine ex_inj WW KK rfl ?_
  refine cl_c157 G T (by assumption) (fun r2 m1 h1 T1 F1 W1 _ => ?_)
  intro WW KK
  show pm_R 100 0 1501 [.ref 0, .ref 16, .ref 41, .int (Int32.ofNat n)] [.int r2] _ _
  have RR := R2_cl G T F1 (by decide) RR
  have I := p2_cl (j := j) G T Tr Y e0 S R hc T1 F1 (W1 0 (by decide)) (by decide) (by decide) (by decide) (by decide) (by decide) (by decide) (by decide)
  obtain ⟨ck, E, m, o, mr, wr, G, T, Tr, Y, e0, S, R, hc⟩ := I
  refine pm_R_op pm_M0 (pc' := 1502) (st' := []) (pm_q0_18 (Nat.le_of_ble_eq_true rfl)) rfl rfl ?_
  refine pm_R_lo pm_M0 (pc' := 1503) (pm_q0_18 (Nat.le_of_ble_eq_true rfl)) rfl rfl ?_
  refine pm_R_lo pm_M0 (pc' := 1504) (pm_q0_18 (Nat.le_of_ble_eq_true rfl)) rfl rfl ?_
  refine pm_R_lo pm_M0 (pc' := 1505) (pm_q0_18 (Nat.le_of_ble_eq_true rfl)) rfl rfl ?_
  refine pm_R_op pm_M0 (pc' := 1506) (st' := [.int 1, .int (Int32.ofNat n), .ref 0, .ref 41]) (pm_q0_18 (Nat.le_of_ble_eq_true rfl)) rfl rfl ?_
  refine pm_R_op pm_M0 (pc' := 1507) (st' := [.int (Int32.ofNat (n + 1)), .ref 0, .ref 41]) (pm_q0_18 (Nat.le_of_ble_eq_true rfl)) (congrArg (fun z => some (Value.int z :: [.ref 0, .ref 41])) (p2_ad (n := n) (c := 1) (k := 1) rfl)) rfl ?_
  refine pm_R_iald pm_M0 (pc' := 1508) (v := x1) (pm_q0_18 (Nat.le_of_ble_eq_true rfl)) ((T.old (by decide)).trans e0) (T.lt (by decide)) (p2_in (by omega) hL) v1 rfl ?_
  refine pm_R_lo pm_M0 (pc' := 1509) (pm_q0_18 (Nat.le_of_ble_eq_true rfl)) rfl rfl ?_
  refine pm_R_lo pm_M0 (pc' := 1510) (pm_q0_18 (Nat.le_of_ble_eq_true rfl)) rfl rfl ?_
  refine pm_R_op pm_M0 (pc' := 1511) (st' := [.int 2, .int (Int32.ofNat n), .ref 0, .int x1, .ref 41]) (pm_q0_18 (Nat.le_of_ble_eq_true rfl)) rfl rfl ?_
  refine pm_R_op pm_M0 (pc' := 1512) (st' := [.int (Int32.ofNat (n + 2)), .ref 0, .int x1, .ref 41]) (pm_q0_18 (Nat.le_of_ble_eq_true rfl)) (congrArg (fun z => some (Value.int z :: [.ref 0, .int x1, .ref 41])) (p2_ad (n := n) (c := 2) (k := 2) rfl)) rfl ?_
  refine pm_R_iald pm_M0 (pc' := 1513) (v := x2) (pm_q0_18 (Nat.le_of_ble_eq_true rfl)) ((T.old (by decide)).trans e0) (T.lt (by decide)) (p2_in (by omega) hL) v2 rfl ?_
  refine pm_R_lo pm_M0 (pc' := 1514) (pm_q0_18 (Nat.le_of_ble_eq_true rfl)) rfl rfl ?_
  refine pm_R_lo pm_M0 (pc' := 1515) (pm_q0_18 (Nat.le_of_ble_eq_true rfl)) rfl rfl ?_
  refine pm_R_op pm_M0 (pc' := 1516) (st' := [.int 3, .int (Int32.ofNat n), .ref 0, .int x2, .int x1, .ref 41]) (pm_q0_18 (Nat.le_of_ble_eq_true rfl)) rfl rfl ?_
  refine pm_R_op pm_M0 (pc' := 1517) (st' := [.int (Int32.ofNat (n + 3)), .ref 0, .int x2, .int x1, .ref 41]) (pm_q0_18 (Nat.le_of_ble_eq_true rfl)) (congrArg (fun z => some (Value.int z :: [.ref 0, .int x2, .int x1, .ref 41])) (p2_ad (n := n) (c := 3) (k := 3) rfl)) rfl ?_
  refine pm_R_iald pm_M0 (pc' := 1518) (v := x3) (pm_q0_18 (Nat.le_of_ble_eq_true rfl)) ((T.old (by decide)).trans e0) (T.lt (by decide)) (p2_in (by omega) hL) v3 rfl ?_
  suffices sw : ∀ y3 : Int32, sf_B 0 1 y3 → pm_R 100 0 1526 [.ref 0, .ref 16, .ref 41, .int (Int32.ofNat n)] [.int y3, .int x2, .int x1, .ref 41] h1 Q by
    refine pm_R_ifc pm_M0 (t := 1525) (pc' := 1521) (pm_q0_19 (Nat.le_of_ble_eq_true rfl)) rfl rfl (fun _ => ?_) (fun _ => ?_)
    · refine pm_R_op pm_M0 (pc' := 1526) (st' := [.int 0, .int x2, .int x1, .ref 41]) (pm_q0_19 (Nat.le_of_ble_eq_true rfl)) rfl rfl ?_
      exact sw 0 ⟨by decide, by decide⟩
    · refine pm_R_op pm_M0 (pc' := 1522) (st' := [.int 1, .int x2, .int x1, .ref 41]) (pm_q0_19 (Nat.le_of_ble_eq_true rfl)) rfl rfl ?_
      refine pm_R_br pm_M0 (pc' := 1526) (pm_q0_19 (Nat.le_of_ble_eq_true rfl)) rfl ?_
      exact sw 1 ⟨by decide, by decide⟩
  intro y3 b3
  refine pm_R_cv pm_M0 (pc' := 1529) (a := 41) (ra := [.int y3, .int x2, .int x1]) (rest := []) (ls' := [.ref 41, .int x1, .int x2, .int y3, pm_no, pm_no, pm_no, pm_no]) (pm_q0_19 (Nat.le_of_ble_eq_true rfl)) rfl (Or.inl rfl) pm_M269 Tr.2.1 rfl (by decide) (Nat.lt_of_lt_of_le (by decide) Tr.1) rfl rfl (Nat.le_of_ble_eq_true rfl) rfl rfl ?_
  refine ex_inj WW KK rfl ?_
  refine rf_c269 Tr (fun r4 m1 w1 h1 T1 F1 W1 _ => ?_)
  intro WW KK
  show pm_R 100 0 1529 [.ref 0, .ref 16, .ref 41, .int (Int32.ofNat n)] [.int r4] _ _
  have RR := R2_rf F1 (by decide) RR
  have I := p2_rf G T Y e0 S R hc T1 F1 (by decide)
  refine pm_R_op pm_M0 (pc' := 1530) (st' := []) (pm_q0_19 (Nat.le_of_ble_eq_true rfl)) rfl rfl ?_
  refine pm_R_br pm_M0 (pc' := 2117) (pm_q0_19 (Nat.le_of_ble_eq_true rfl)) rfl ?_
  exact K _ ⟨I, WW, KK, RR⟩

set_option maxRecDepth 100000 in
set_option maxHeartbeats 4000000 in
theorem p6_k29 {L n j : Nat} {xs : Nat → Int32} {h : pm_H} {Q : Option Value → pm_H → Prop} (I : p6_I L xs j h) (hn : n + 7 ≤ L) (hL : L ≤ 3584) (K : ∀ h', p6_I L xs (j + 1) h' → pm_R 100 0 2117 [.ref 0, .ref 16, .ref 41, .int (Int32.ofNat n)] [] h' Q) : pm_R 100 0 1533 [.ref 0, .ref 16, .ref 41, .int (Int32.ofNat n)] [] h Q := by
  obtain ⟨x1, v1⟩ : ∃ y, xs (Int32.toNatClampNeg (Int32.ofNat (n + 1))) = y := ⟨_, rfl⟩
  obtain ⟨x2, v2⟩ : ∃ y, xs (Int32.toNatClampNeg (Int32.ofNat (n + 2))) = y := ⟨_, rfl⟩
  obtain ⟨x3, v3⟩ : ∃ y, xs (Int32.toNatClampNeg (Int32.ofNat (n + 3))) = y := ⟨_, rfl⟩
  obtain ⟨I, WW, KK, RR⟩ := I
  obtain ⟨ck, E, m, o, mr, wr, G, T, Tr, Y, e0, S, R, hc⟩ := I
  refine pm_R_lo pm_M0 (pc' := 1534) (pm_q0_19 (Nat.le_of_ble_eq_true rfl)) rfl rfl ?_
  refine pm_R_lo pm_M0 (pc' := 1535) (pm_q0_19 (Nat.le_of_ble_eq_true rfl)) rfl rfl ?_
  refine pm_R_lo pm_M0 (pc' := 1536) (pm_q0_19 (Nat.le_of_ble_eq_true rfl)) rfl rfl ?_
  refine pm_R_op pm_M0 (pc' := 1537) (st' := [.int 1, .int (Int32.ofNat n), .ref 0, .ref 16]) (pm_q0_19 (Nat.le_of_ble_eq_true rfl)) rfl rfl ?_
  refine pm_R_op pm_M0 (pc' := 1538) (st' := [.int (Int32.ofNat (n + 1)), .ref 0, .ref 16]) (pm_q0_19 (Nat.le_of_ble_eq_true rfl)) (congrArg (fun z => some (Value.int z :: [.ref 0, .ref 16])) (p2_ad (n := n) (c := 1) (k := 1) rfl)) rfl ?_
  refine pm_R_iald pm_M0 (pc' := 1539) (v := x1) (pm_q0_19 (Nat.le_of_ble_eq_true rfl)) ((T.old (by decide)).trans e0) (T.lt (by decide)) (p2_in (by omega) hL) v1 rfl ?_
  refine pm_R_lo pm_M0 (pc' := 1540) (pm_q0_19 (Nat.le_of_ble_eq_true rfl)) rfl rfl ?_
  refine pm_R_lo pm_M0 (pc' := 1541) (pm_q0_19 (Nat.le_of_ble_eq_true rfl)) rfl rfl ?_
  refine pm_R_op pm_M0 (pc' := 1542) (st' := [.int 2, .int (Int32.ofNat n), .ref 0, .int x1, .ref 16]) (pm_q0_19 (Nat.le_of_ble_eq_true rfl)) rfl rfl ?_
  refine pm_R_op pm_M0 (pc' := 1543) (st' := [.int (Int32.ofNat (n + 2)), .ref 0, .int x1, .ref 16]) (pm_q0_19 (Nat.le_of_ble_eq_true rfl)) (congrArg (fun z => some (Value.int z :: [.ref 0, .int x1, .ref 16])) (p2_ad (n := n) (c := 2) (k := 2) rfl)) rfl ?_
  refine pm_R_iald pm_M0 (pc' := 1544) (v := x2) (pm_q0_19 (Nat.le_of_ble_eq_true rfl)) ((T.old (by decide)).trans e0) (T.lt (by decide)) (p2_in (by omega) hL) v2 rfl ?_
  refine pm_R_lo pm_M0 (pc' := 1545) (pm_q0_19 (Nat.le_of_ble_eq_true rfl)) rfl rfl ?_
  refine pm_R_lo pm_M0 (pc' := 1546) (pm_q0_19 (Nat.le_of_ble_eq_true rfl)) rfl rfl ?_
  refine pm_R_op pm_M0 (pc' := 1547) (st' := [.int 3, .int (Int32.ofNat n), .ref 0, .int x2, .int x1, .ref 16]) (pm_q0_19 (Nat.le_of_ble_eq_true rfl)) rfl rfl ?_
  refine pm_R_op pm_M0 (pc' := 1548) (st' := [.int (Int32.ofNat (n + 3)), .ref 0, .int x2, .int x1, .ref 16]) (pm_q0_19 (Nat.le_of_ble_eq_true rfl)) (congrArg (fun z => some (Value.int z :: [.ref 0, .int x2, .int x1, .ref 16])) (p2_ad (n := n) (c := 3) (k := 3) rfl)) rfl ?_
  refine pm_R_iald pm_M0 (pc' := 1549) (v := x3) (pm_q0_19 (Nat.le_of_ble_eq_true rfl)) ((T.old (by decide)).trans e0) (T.lt (by decide)) (p2_in (by omega) hL) v3 rfl ?_
  refine pm_R_cv pm_M0 (pc' := 1552) (a := 16) (ra := [.int x3, .int x2, .int x1]) (rest := []) (ls' := [.ref 16, .int x1, .int x2, .int x3, pm_no]) (pm_q0_19 (Nat.le_of_ble_eq_true rfl)) rfl (Or.inl rfl) pm_M162 T.e16 rfl (by decide) (T.lt (by decide)) rfl rfl (Nat.le_of_ble_eq_true rfl) rfl rfl ?_
  refine ex_inj WW KK rfl ?_
  refine cl_c162 G T (fun r1 => ?_)
  intro WW KK
  show pm_R 100 0 1552 [.ref 0, .ref 16, .ref 41, .int (Int32.ofNat n)] [.int r1] _ _
  have I := p2_up (⟨ck, E, m, o, mr, wr, G, T, Tr, Y, e0, S, R, hc⟩ : p2_I L xs j h)
  obtain ⟨ck, E, m, o, mr, wr, G, T, Tr, Y, e0, S, R, hc⟩ := I
  refine pm_R_op pm_M0 (pc' := 1553) (st' := []) (pm_q0_19 (Nat.le_of_ble_eq_true rfl)) rfl rfl ?_
  refine pm_R_lo pm_M0 (pc' := 1554) (pm_q0_19 (Nat.le_of_ble_eq_true rfl)) rfl rfl ?_
  refine pm_R_lo pm_M0 (pc' := 1555) (pm_q0_19 (Nat.le_of_ble_eq_true rfl)) rfl rfl ?_
  refine pm_R_lo pm_M0 (pc' := 1556) (pm_q0_19 (Nat.le_of_ble_eq_true rfl)) rfl rfl ?_
  refine pm_R_op pm_M0 (pc' := 1557) (st' := [.int 1, .int (Int32.ofNat n), .ref 0, .ref 41]) (pm_q0_19 (Nat.le_of_ble_eq_true rfl)) rfl rfl ?_
  refine pm_R_op pm_M0 (pc' := 1558) (st' := [.int (Int32.ofNat (n + 1)), .ref 0, .ref 41]) (pm_q0_19 (Nat.le_of_ble_eq_true rfl)) (congrArg (fun z => some (Value.int z :: [.ref 0, .ref 41])) (p2_ad (n := n) (c := 1) (k := 1) rfl)) rfl ?_
  refine pm_R_iald pm_M0 (pc' := 1559) (v := x1) (pm_q0_19 (Nat.le_of_ble_eq_true rfl)) ((T.old (by decide)).trans e0) (T.lt (by decide)) (p2_in (by omega) hL) v1 rfl ?_
  refine pm_R_lo pm_M0 (pc' := 1560) (pm_q0_19 (Nat.le_of_ble_eq_true rfl)) rfl rfl ?_
  refine pm_R_lo pm_M0 (pc' := 1561) (pm_q0_19 (Nat.le_of_ble_eq_true rfl)) rfl rfl ?_
  refine pm_R_op pm_M0 (pc' := 1562) (st' := [.int 2, .int (Int32.ofNat n), .ref 0, .int x1, .ref 41]) (pm_q0_19 (Nat.le_of_ble_eq_true rfl)) rfl rfl ?_
  refine pm_R_op pm_M0 (pc' := 1563) (st' := [.int (Int32.ofNat (n + 2)), .ref 0, .int x1, .ref 41]) (pm_q0_19 (Nat.le_of_ble_eq_true rfl)) (congrArg (fun z => some (Value.int z :: [.ref 0, .int x1, .ref 41])) (p2_ad (n := n) (c := 2) (k := 2) rfl)) rfl ?_
  refine pm_R_iald pm_M0 (pc' := 1564) (v := x2) (pm_q0_19 (Nat.le_of_ble_eq_true rfl)) ((T.old (by decide)).trans e0) (T.lt (by decide)) (p2_in (by omega) hL) v2 rfl ?_
  refine pm_R_lo pm_M0 (pc' := 1565) (pm_q0_19 (Nat.le_of_ble_eq_true rfl)) rfl rfl ?_
  refine pm_R_lo pm_M0 (pc' := 1566) (pm_q0_19 (Nat.le_of_ble_eq_true rfl)) rfl rfl ?_
  refine pm_R_op pm_M0 (pc' := 1567) (st' := [.int 3, .int (Int32.ofNat n), .ref 0, .int x2, .int x1, .ref 41]) (pm_q0_19 (Nat.le_of_ble_eq_true rfl)) rfl rfl ?_
  refine pm_R_op pm_M0 (pc' := 1568) (st' := [.int (Int32.ofNat (n + 3)), .ref 0, .int x2, .int x1, .ref 41]) (pm_q0_19 (Nat.le_of_ble_eq_true rfl)) (congrArg (fun z => some (Value.int z :: [.ref 0, .int x2, .int x1, .ref 41])) (p2_ad (n := n) (c := 3) (k := 3) rfl)) rfl ?_
  refine pm_R_iald pm_M0 (pc' := 1569) (v := x3) (pm_q0_19 (Nat.le_of_ble_eq_true rfl)) ((T.old (by decide)).trans e0) (T.lt (by decide)) (p2_in (by omega) hL) v3 rfl ?_
  refine pm_R_cv pm_M0 (pc' := 1572) (a := 41) (ra := [.int x3, .int x2, .int x1]) (rest := []) (ls' := [.ref 41, .int x1, .int x2, .int x3]) (pm_q0_19 (Nat.le_of_ble_eq_true rfl)) rfl (Or.inl rfl) pm_M271 Tr.2.1 rfl (by decide) (Nat.lt_of_lt_of_le (by decide) Tr.1) rfl rfl (Nat.le_of_ble_eq_true rfl) rfl rfl ?_
  refine ex_inj WW KK rfl ?_
  refine rf_c271 Tr (fun r2 m1 w1 h1 T1 F1 W1 => ?_)
  intro WW KK
  show pm_R 100 0 1572 [.ref 0, .ref 16, .ref 41, .int (Int32.ofNat n)] [.int r2] _ _
  have RR := R2_rf F1 (by decide) RR
  have I := p2_rf G T Y e0 S R hc T1 F1 (by decide)
  refine pm_R_op pm_M0 (pc' := 1573) (st' := []) (pm_q0_19 (Nat.le_of_ble_eq_true rfl)) rfl rfl ?_
  refine pm_R_br pm_M0 (pc' := 2117) (pm_q0_19 (Nat.le_of_ble_eq_true rfl)) rfl ?_
  exact K _ ⟨I, WW, KK, RR⟩

set_option maxRecDepth 100000 in
set_option maxHeartbeats 4000000 in
theorem p6_k30 {L n j : Nat} {xs : Nat → Int32} {h : pm_H} {Q : Option Value → pm_H → Prop} (I : p6_I L xs j h) (hn : n + 7 ≤ L) (hL : L ≤ 3584) (K : ∀ h', p6_I L xs (j + 1) h' → pm_R 100 0 2117 [.ref 0, .ref 16, .ref 41, .int (Int32.ofNat n)] [] h' Q) : pm_R 100 0 1576 [.ref 0, .ref 16, .ref 41, .int (Int32.ofNat n)] [] h Q := by
  obtain ⟨x1, v1⟩ : ∃ y, xs (Int32.toNatClampNeg (Int32.ofNat (n + 1))) = y := ⟨_, rfl⟩
  obtain ⟨x2, v2⟩ : ∃ y, xs (Int32.toNatClampNeg (Int32.ofNat (n + 2))) = y := ⟨_, rfl⟩
  obtain ⟨x3, v3⟩ : ∃ y, xs (Int32.toNatClampNeg (Int32.ofNat (n + 3))) = y := ⟨_, rfl⟩
  obtain ⟨I, WW, KK, RR⟩ := I
  obtain ⟨ck, E, m, o, mr, wr, G, T, Tr, Y, e0, S, R, hc⟩ := I
  refine pm_R_lo pm_M0 (pc' := 1577) (pm_q0_19 (Nat.le_of_ble_eq_true rfl)) rfl rfl ?_
  refine pm_R_lo pm_M0 (pc' := 1578) (pm_q0_19 (Nat.le_of_ble_eq_true rfl)) rfl rfl ?_
  refine pm_R_lo pm_M0 (pc' := 1579) (pm_q0_19 (Nat.le_of_ble_eq_true rfl)) rfl rfl ?_
  refine pm_R_op pm_M0 (pc' := 1580) (st' := [.int 1, .int (Int32.ofNat n), .ref 0, .ref 16]) (pm_q0_19 (Nat.le_of_ble_eq_true rfl)) rfl rfl ?_
  refine pm_R_op pm_M0 (pc' := 1581) (st' := [.int (Int32.ofNat (n + 1)), .ref 0, .ref 16]) (pm_q0_19 (Nat.le_of_ble_eq_true rfl)) (congrArg (fun z => some (Value.int z :: [.ref 0, .ref 16])) (p2_ad (n := n) (c := 1) (k := 1) rfl)) rfl ?_
  refine pm_R_iald pm_M0 (pc' := 1582) (v := x1) (pm_q0_19 (Nat.le_of_ble_eq_true rfl)) ((T.old (by decide)).trans e0) (T.lt (by decide)) (p2_in (by omega) hL) v1 rfl ?_
  refine pm_R_lo pm_M0 (pc' := 1583) (pm_q0_19 (Nat.le_of_ble_eq_true rfl)) rfl rfl ?_
  refine pm_R_lo pm_M0 (pc' := 1584) (pm_q0_19 (Nat.le_of_ble_eq_true rfl)) rfl rfl ?_
  refine pm_R_op pm_M0 (pc' := 1585) (st' := [.int 2, .int (Int32.ofNat n), .ref 0, .int x1, .ref 16]) (pm_q0_19 (Nat.le_of_ble_eq_true rfl)) rfl rfl ?_
  refine pm_R_op pm_M0 (pc' := 1586) (st' := [.int (Int32.ofNat (n + 2)), .ref 0, .int x1, .ref 16]) (pm_q0_19 (Nat.le_of_ble_eq_true rfl)) (congrArg (fun z => some (Value.int z :: [.ref 0, .int x1, .ref 16])) (p2_ad (n := n) (c := 2) (k := 2) rfl)) rfl ?_
  refine pm_R_iald pm_M0 (pc' := 1587) (v := x2) (pm_q0_19 (Nat.le_of_ble_eq_true rfl)) ((T.old (by decide)).trans e0) (T.lt (by decide)) (p2_in (by omega) hL) v2 rfl ?_
  refine pm_R_lo pm_M0 (pc' := 1588) (pm_q0_19 (Nat.le_of_ble_eq_true rfl)) rfl rfl ?_
  refine pm_R_lo pm_M0 (pc' := 1589) (pm_q0_19 (Nat.le_of_ble_eq_true rfl)) rfl rfl ?_
  refine pm_R_op pm_M0 (pc' := 1590) (st' := [.int 3, .int (Int32.ofNat n), .ref 0, .int x2, .int x1, .ref 16]) (pm_q0_19 (Nat.le_of_ble_eq_true rfl)) rfl rfl ?_
  refine pm_R_op pm_M0 (pc' := 1591) (st' := [.int (Int32.ofNat (n + 3)), .ref 0, .int x2, .int x1, .ref 16]) (pm_q0_19 (Nat.le_of_ble_eq_true rfl)) (congrArg (fun z => some (Value.int z :: [.ref 0, .int x2, .int x1, .ref 16])) (p2_ad (n := n) (c := 3) (k := 3) rfl)) rfl ?_
  refine pm_R_iald pm_M0 (pc' := 1592) (v := x3) (pm_q0_19 (Nat.le_of_ble_eq_true rfl)) ((T.old (by decide)).trans e0) (T.lt (by decide)) (p2_in (by omega) hL) v3 rfl ?_
  refine pm_R_cv pm_M0 (pc' := 1595) (a := 16) (ra := [.int x3, .int x2, .int x1]) (rest := []) (ls' := [.ref 16, .int x1, .int x2, .int x3, pm_no, pm_no, pm_no]) (pm_q0_20 (Nat.le_of_ble_eq_true rfl)) rfl (Or.inl rfl) pm_M164 T.e16 rfl (by decide) (T.lt (by decide)) rfl rfl (Nat.le_of_ble_eq_true rfl) rfl rfl ?_
  refine ex_inj WW KK rfl ?_
  refine cl_c164 G T (fun r1 m1 h1 T1 F1 W1 _ => ?_)
  intro WW KK
  show pm_R 100 0 1595 [.ref 0, .ref 16, .ref 41, .int (Int32.ofNat n)] [.int r1] _ _
  have RR := R2_cl G T F1 (by decide) RR
  have I := p2_cl (j := j) G T Tr Y e0 S R hc T1 F1 (W1 0 (by decide)) (by decide) (by decide) (by decide) (by decide) (by decide) (by decide) (by decide)
  obtain ⟨ck, E, m, o, mr, wr, G, T, Tr, Y, e0, S, R, hc⟩ := I
  refine pm_R_op pm_M0 (pc' := 1596) (st' := []) (pm_q0_20 (Nat.le_of_ble_eq_true rfl)) rfl rfl ?_
  refine pm_R_lo pm_M0 (pc' := 1597) (pm_q0_20 (Nat.le_of_ble_eq_true rfl)) rfl rfl ?_
  refine pm_R_lo pm_M0 (pc' := 1598) (pm_q0_20 (Nat.le_of_ble_eq_true rfl)) rfl rfl ?_
  refine pm_R_lo pm_M0 (pc' := 1599) (pm_q0_20 (Nat.le_of_ble_eq_true rfl)) rfl rfl ?_
  refine pm_R_op pm_M0 (pc' := 1600) (st' := [.int 1, .int (Int32.ofNat n), .ref 0, .ref 41]) (pm_q0_20 (Nat.le_of_ble_eq_true rfl)) rfl rfl ?_
  refine pm_R_op pm_M0 (pc' := 1601) (st' := [.int (Int32.ofNat (n + 1)), .ref 0, .ref 41]) (pm_q0_20 (Nat.le_of_ble_eq_true rfl)) (congrArg (fun z => some (Value.int z :: [.ref 0, .ref 41])) (p2_ad (n := n) (c := 1) (k := 1) rfl)) rfl ?_
  refine pm_R_iald pm_M0 (pc' := 1602) (v := x1) (pm_q0_20 (Nat.le_of_ble_eq_true rfl)) ((T.old (by decide)).trans e0) (T.lt (by decide)) (p2_in (by omega) hL) v1 rfl ?_
  refine pm_R_lo pm_M0 (pc' := 1603) (pm_q0_20 (Nat.le_of_ble_eq_true rfl)) rfl rfl ?_
  refine pm_R_lo pm_M0 (pc' := 1604) (pm_q0_20 (Nat.le_of_ble_eq_true rfl)) rfl rfl ?_
  refine pm_R_op pm_M0 (pc' := 1605) (st' := [.int 2, .int (Int32.ofNat n), .ref 0, .int x1, .ref 41]) (pm_q0_20 (Nat.le_of_ble_eq_true rfl)) rfl rfl ?_
  refine pm_R_op pm_M0 (pc' := 1606) (st' := [.int (Int32.ofNat (n + 2)), .ref 0, .int x1, .ref 41]) (pm_q0_20 (Nat.le_of_ble_eq_true rfl)) (congrArg (fun z => some (Value.int z :: [.ref 0, .int x1, .ref 41])) (p2_ad (n := n) (c := 2) (k := 2) rfl)) rfl ?_
  refine pm_R_iald pm_M0 (pc' := 1607) (v := x2) (pm_q0_20 (Nat.le_of_ble_eq_true rfl)) ((T.old (by decide)).trans e0) (T.lt (by decide)) (p2_in (by omega) hL) v2 rfl ?_
  refine pm_R_lo pm_M0 (pc' := 1608) (pm_q0_20 (Nat.le_of_ble_eq_true rfl)) rfl rfl ?_
  refine pm_R_lo pm_M0 (pc' := 1609) (pm_q0_20 (Nat.le_of_ble_eq_true rfl)) rfl rfl ?_
  refine pm_R_op pm_M0 (pc' := 1610) (st' := [.int 3, .int (Int32.ofNat n), .ref 0, .int x2, .int x1, .ref 41]) (pm_q0_20 (Nat.le_of_ble_eq_true rfl)) rfl rfl ?_
  refine pm_R_op pm_M0 (pc' := 1611) (st' := [.int (Int32.ofNat (n + 3)), .ref 0, .int x2, .int x1, .ref 41]) (pm_q0_20 (Nat.le_of_ble_eq_true rfl)) (congrArg (fun z => some (Value.int z :: [.ref 0, .int x2, .int x1, .ref 41])) (p2_ad (n := n) (c := 3) (k := 3) rfl)) rfl ?_
  refine pm_R_iald pm_M0 (pc' := 1612) (v := x3) (pm_q0_20 (Nat.le_of_ble_eq_true rfl)) ((T.old (by decide)).trans e0) (T.lt (by decide)) (p2_in (by omega) hL) v3 rfl ?_
  refine pm_R_cv pm_M0 (pc' := 1615) (a := 41) (ra := [.int x3, .int x2, .int x1]) (rest := []) (ls' := [.ref 41, .int x1, .int x2, .int x3, pm_no, pm_no]) (pm_q0_20 (Nat.le_of_ble_eq_true rfl)) rfl (Or.inl rfl) pm_M274 Tr.2.1 rfl (by decide) (Nat.lt_of_lt_of_le (by decide) Tr.1) rfl rfl (Nat.le_of_ble_eq_true rfl) rfl rfl ?_
  refine ex_inj WW KK rfl ?_
  refine rf_c274 Tr (fun r2 m1 w1 h1 T1 F1 W1 _ => ?_)
  intro WW KK
  show pm_R 100 0 1615 [.ref 0, .ref 16, .ref 41, .int (Int32.ofNat n)] [.int r2] _ _
  have RR := R2_rf F1 (by decide) RR
  have I := p2_rf G T Y e0 S R hc T1 F1 (by decide)
  refine pm_R_op pm_M0 (pc' := 1616) (st' := []) (pm_q0_20 (Nat.le_of_ble_eq_true rfl)) rfl rfl ?_
  refine pm_R_br pm_M0 (pc' := 2117) (pm_q0_20 (Nat.le_of_ble_eq_true rfl)) rfl ?_
  exact K _ ⟨I, WW, KK, RR⟩

set_option maxRecDepth 100000 in
set_option maxHeartbeats 4000000 in
theorem p6_k31 {L n j : Nat} {xs : Nat → Int32} {h : pm_H} {Q : Option Value → pm_H → Prop} (I : p6_I L xs j h) (hn : n + 7 ≤ L) (hL : L ≤ 3584) (K : ∀ h', p6_I L xs (j + 1) h' → pm_R 100 0 2117 [.ref 0, .ref 16, .ref 41, .int (Int32.ofNat n)] [] h' Q) : pm_R 100 0 1619 [.ref 0, .ref 16, .ref 41, .int (Int32.ofNat n)] [] h Q := by
  obtain ⟨x1, v1⟩ : ∃ y, xs (Int32.toNatClampNeg (Int32.ofNat (n + 1))) = y := ⟨_, rfl⟩
  obtain ⟨x2, v2⟩ : ∃ y, xs (Int32.toNatClampNeg (Int32.ofNat (n + 2))) = y := ⟨_, rfl⟩
  obtain ⟨x3, v3⟩ : ∃ y, xs (Int32.toNatClampNeg (Int32.ofNat (n + 3))) = y := ⟨_, rfl⟩
  obtain ⟨I, WW, KK, RR⟩ := I
  obtain ⟨ck, E, m, o, mr, wr, G, T, Tr, Y, e0, S, R, hc⟩ := I
  refine pm_R_lo pm_M0 (pc' := 1620) (pm_q0_20 (Nat.le_of_ble_eq_true rfl)) rfl rfl ?_
  refine pm_R_lo pm_M0 (pc' := 1621) (pm_q0_20 (Nat.le_of_ble_eq_true rfl)) rfl rfl ?_
  refine pm_R_lo pm_M0 (pc' := 1622) (pm_q0_20 (Nat.le_of_ble_eq_true rfl)) rfl rfl ?_
  refine pm_R_op pm_M0 (pc' := 1623) (st' := [.int 1, .int (Int32.ofNat n), .ref 0, .ref 16]) (pm_q0_20 (Nat.le_of_ble_eq_true rfl)) rfl rfl ?_
  refine pm_R_op pm_M0 (pc' := 1624) (st' := [.int (Int32.ofNat (n + 1)), .ref 0, .ref 16]) (pm_q0_20 (Nat.le_of_ble_eq_true rfl)) (congrArg (fun z => some (Value.int z :: [.ref 0, .ref 16])) (p2_ad (n := n) (c := 1) (k := 1) rfl)) rfl ?_
  refine pm_R_iald pm_M0 (pc' := 1625) (v := x1) (pm_q0_20 (Nat.le_of_ble_eq_true rfl)) ((T.old (by decide)).trans e0) (T.lt (by decide)) (p2_in (by omega) hL) v1 rfl ?_
  refine pm_R_lo pm_M0 (pc' := 1626) (pm_q0_20 (Nat.le_of_ble_eq_true rfl)) rfl rfl ?_
  refine pm_R_lo pm_M0 (pc' := 1627) (pm_q0_20 (Nat.le_of_ble_eq_true rfl)) rfl rfl ?_
  refine pm_R_op pm_M0 (pc' := 1628) (st' := [.int 2, .int (Int32.ofNat n), .ref 0, .int x1, .ref 16]) (pm_q0_20 (Nat.le_of_ble_eq_true rfl)) rfl rfl ?_
  refine pm_R_op pm_M0 (pc' := 1629) (st' := [.int (Int32.ofNat (n + 2)), .ref 0, .int x1, .ref 16]) (pm_q0_20 (Nat.le_of_ble_eq_true rfl)) (congrArg (fun z => some (Value.int z :: [.ref 0, .int x1, .ref 16])) (p2_ad (n := n) (c := 2) (k := 2) rfl)) rfl ?_
  refine pm_R_iald pm_M0 (pc' := 1630) (v := x2) (pm_q0_20 (Nat.le_of_ble_eq_true rfl)) ((T.old (by decide)).trans e0) (T.lt (by decide)) (p2_in (by omega) hL) v2 rfl ?_
  refine pm_R_lo pm_M0 (pc' := 1631) (pm_q0_20 (Nat.le_of_ble_eq_true rfl)) rfl rfl ?_
  refine pm_R_lo pm_M0 (pc' := 1632) (pm_q0_20 (Nat.le_of_ble_eq_true rfl)) rfl rfl ?_
  refine pm_R_op pm_M0 (pc' := 1633) (st' := [.int 3, .int (Int32.ofNat n), .ref 0, .int x2, .int x1, .ref 16]) (pm_q0_20 (Nat.le_of_ble_eq_true rfl)) rfl rfl ?_
  refine pm_R_op pm_M0 (pc' := 1634) (st' := [.int (Int32.ofNat (n + 3)), .ref 0, .int x2, .int x1, .ref 16]) (pm_q0_20 (Nat.le_of_ble_eq_true rfl)) (congrArg (fun z => some (Value.int z :: [.ref 0, .int x2, .int x1, .ref 16])) (p2_ad (n := n) (c := 3) (k := 3) rfl)) rfl ?_
  refine pm_R_iald pm_M0 (pc' := 1635) (v := x3) (pm_q0_20 (Nat.le_of_ble_eq_true rfl)) ((T.old (by decide)).trans e0) (T.lt (by decide)) (p2_in (by omega) hL) v3 rfl ?_
  refine pm_R_cv pm_M0 (pc' := 1638) (a := 16) (ra := [.int x3, .int x2, .int x1]) (rest := []) (ls' := [.ref 16, .int x1, .int x2, .int x3, pm_no, pm_no, pm_no, pm_no]) (pm_q0_20 (Nat.le_of_ble_eq_true rfl)) rfl (Or.inl rfl) pm_M167 T.e16 rfl (by decide) (T.lt (by decide)) rfl rfl (Nat.le_of_ble_eq_true rfl) rfl rfl ?_
  refine ex_inj WW KK rfl ?_
  refine cl_c167 G T (fun r1 m1 h1 T1 F1 W1 => ?_)
  intro WW KK
  show pm_R 100 0 1638 [.ref 0, .ref 16, .ref 41, .int (Int32.ofNat n)] [.int r1] _ _
  have RR := R2_cl G T F1 (by decide) RR
  have I := p2_cl (j := j) G T Tr Y e0 S R hc T1 F1 (W1 0 (by decide)) (by decide) (by decide) (by decide) (by decide) (by decide) (by decide) (by decide)
  obtain ⟨ck, E, m, o, mr, wr, G, T, Tr, Y, e0, S, R, hc⟩ := I
  refine pm_R_op pm_M0 (pc' := 1639) (st' := []) (pm_q0_20 (Nat.le_of_ble_eq_true rfl)) rfl rfl ?_
  refine pm_R_lo pm_M0 (pc' := 1640) (pm_q0_20 (Nat.le_of_ble_eq_true rfl)) rfl rfl ?_
  refine pm_R_lo pm_M0 (pc' := 1641) (pm_q0_20 (Nat.le_of_ble_eq_true rfl)) rfl rfl ?_
  refine pm_R_lo pm_M0 (pc' := 1642) (pm_q0_20 (Nat.le_of_ble_eq_true rfl)) rfl rfl ?_
  refine pm_R_op pm_M0 (pc' := 1643) (st' := [.int 1, .int (Int32.ofNat n), .ref 0, .ref 41]) (pm_q0_20 (Nat.le_of_ble_eq_true rfl)) rfl rfl ?_
  refine pm_R_op pm_M0 (pc' := 1644) (st' := [.int (Int32.ofNat (n + 1)), .ref 0, .ref 41]) (pm_q0_20 (Nat.le_of_ble_eq_true rfl)) (congrArg (fun z => some (Value.int z :: [.ref 0, .ref 41])) (p2_ad (n := n) (c := 1) (k := 1) rfl)) rfl ?_
  refine pm_R_iald pm_M0 (pc' := 1645) (v := x1) (pm_q0_20 (Nat.le_of_ble_eq_true rfl)) ((T.old (by decide)).trans e0) (T.lt (by decide)) (p2_in (by omega) hL) v1 rfl ?_
  refine pm_R_lo pm_M0 (pc' := 1646) (pm_q0_20 (Nat.le_of_ble_eq_true rfl)) rfl rfl ?_
  refine pm_R_lo pm_M0 (pc' := 1647) (pm_q0_20 (Nat.le_of_ble_eq_true rfl)) rfl rfl ?_
  refine pm_R_op pm_M0 (pc' := 1648) (st' := [.int 2, .int (Int32.ofNat n), .ref 0, .int x1, .ref 41]) (pm_q0_20 (Nat.le_of_ble_eq_true rfl)) rfl rfl ?_
  refine pm_R_op pm_M0 (pc' := 1649) (st' := [.int (Int32.ofNat (n + 2)), .ref 0, .int x1, .ref 41]) (pm_q0_20 (Nat.le_of_ble_eq_true rfl)) (congrArg (fun z => some (Value.int z :: [.ref 0, .int x1, .ref 41])) (p2_ad (n := n) (c := 2) (k := 2) rfl)) rfl ?_
  refine pm_R_iald pm_M0 (pc' := 1650) (v := x2) (pm_q0_20 (Nat.le_of_ble_eq_true rfl)) ((T.old (by decide)).trans e0) (T.lt (by decide)) (p2_in (by omega) hL) v2 rfl ?_
  refine pm_R_lo pm_M0 (pc' := 1651) (pm_q0_20 (Nat.le_of_ble_eq_true rfl)) rfl rfl ?_
  refine pm_R_lo pm_M0 (pc' := 1652) (pm_q0_20 (Nat.le_of_ble_eq_true rfl)) rfl rfl ?_
  refine pm_R_op pm_M0 (pc' := 1653) (st' := [.int 3, .int (Int32.ofNat n), .ref 0, .int x2, .int x1, .ref 41]) (pm_q0_20 (Nat.le_of_ble_eq_true rfl)) rfl rfl ?_
  refine pm_R_op pm_M0 (pc' := 1654) (st' := [.int (Int32.ofNat (n + 3)), .ref 0, .int x2, .int x1, .ref 41]) (pm_q0_20 (Nat.le_of_ble_eq_true rfl)) (congrArg (fun z => some (Value.int z :: [.ref 0, .int x2, .int x1, .ref 41])) (p2_ad (n := n) (c := 3) (k := 3) rfl)) rfl ?_
  refine pm_R_iald pm_M0 (pc' := 1655) (v := x3) (pm_q0_20 (Nat.le_of_ble_eq_true rfl)) ((T.old (by decide)).trans e0) (T.lt (by decide)) (p2_in (by omega) hL) v3 rfl ?_
  refine pm_R_cv pm_M0 (pc' := 1658) (a := 41) (ra := [.int x3, .int x2, .int x1]) (rest := []) (ls' := [.ref 41, .int x1, .int x2, .int x3]) (pm_q0_20 (Nat.le_of_ble_eq_true rfl)) rfl (Or.inl rfl) pm_M280 Tr.2.1 rfl (by decide) (Nat.lt_of_lt_of_le (by decide) Tr.1) rfl rfl (Nat.le_of_ble_eq_true rfl) rfl rfl ?_
  refine ex_inj WW KK rfl ?_
  refine rf_c280 Tr (fun r2 m1 w1 h1 T1 F1 W1 => ?_)
  intro WW KK
  show pm_R 100 0 1658 [.ref 0, .ref 16, .ref 41, .int (Int32.ofNat n)] [.int r2] _ _
  have RR := R2_rf F1 (by decide) RR
  have I := p2_rf G T Y e0 S R hc T1 F1 (by decide)
  refine pm_R_op pm_M0 (pc' := 1659) (st' := []) (pm_q0_20 (Nat.le_of_ble_eq_true rfl)) rfl rfl ?_
  refine pm_R_br pm_M0 (pc' := 2117) (pm_q0_20 (Nat.le_of_ble_eq_true rfl)) rfl ?_
  exact K _ ⟨I, WW, KK, RR⟩

set_option maxRecDepth 100000 in
set_option maxHeartbeats 4000000 in
theorem p6_k32 {L n j : Nat} {xs : Nat → Int32} {h : pm_H} {Q : Option Value → pm_H → Prop} (I : p6_I L xs j h) (hn : n + 7 ≤ L) (hL : L ≤ 3584) (K : ∀ h', p6_I L xs (j + 1) h' → pm_R 100 0 2117 [.ref 0, .ref 16, .ref 41, .int (Int32.ofNat n)] [] h' Q) : pm_R 100 0 1662 [.ref 0, .ref 16, .ref 41, .int (Int32.ofNat n)] [] h Q := by
  obtain ⟨x1, v1⟩ : ∃ y, xs (Int32.toNatClampNeg (Int32.ofNat (n + 1))) = y := ⟨_, rfl⟩
  obtain ⟨x2, v2⟩ : ∃ y, xs (Int32.toNatClampNeg (Int32.ofNat (n + 2))) = y := ⟨_, rfl⟩
  obtain ⟨I, WW, KK, RR⟩ := I
  obtain ⟨ck, E, m, o, mr, wr, G, T, Tr, Y, e0, S, R, hc⟩ := I
  refine pm_R_lo pm_M0 (pc' := 1663) (pm_q0_20 (Nat.le_of_ble_eq_true rfl)) rfl rfl ?_
  refine pm_R_lo pm_M0 (pc' := 1664) (pm_q0_20 (Nat.le_of_ble_eq_true rfl)) rfl rfl ?_
  refine pm_R_lo pm_M0 (pc' := 1665) (pm_q0_21 (Nat.le_of_ble_eq_true rfl)) rfl rfl ?_
  refine pm_R_op pm_M0 (pc' := 1666) (st' := [.int 1, .int (Int32.ofNat n), .ref 0, .ref 16]) (pm_q0_21 (Nat.le_of_ble_eq_true rfl)) rfl rfl ?_
  refine pm_R_op pm_M0 (pc' := 1667) (st' := [.int (Int32.ofNat (n + 1)), .ref 0, .ref 16]) (pm_q0_21 (Nat.le_of_ble_eq_true rfl)) (congrArg (fun z => some (Value.int z :: [.ref 0, .ref 16])) (p2_ad (n := n) (c := 1) (k := 1) rfl)) rfl ?_
  refine pm_R_iald pm_M0 (pc' := 1668) (v := x1) (pm_q0_21 (Nat.le_of_ble_eq_true rfl)) ((T.old (by decide)).trans e0) (T.lt (by decide)) (p2_in (by omega) hL) v1 rfl ?_
  refine pm_R_lo pm_M0 (pc' := 1669) (pm_q0_21 (Nat.le_of_ble_eq_true rfl)) rfl rfl ?_
  refine pm_R_lo pm_M0 (pc' := 1670) (pm_q0_21 (Nat.le_of_ble_eq_true rfl)) rfl rfl ?_
  refine pm_R_op pm_M0 (pc' := 1671) (st' := [.int 2, .int (Int32.ofNat n), .ref 0, .int x1, .ref 16]) (pm_q0_21 (Nat.le_of_ble_eq_true rfl)) rfl rfl ?_
  refine pm_R_op pm_M0 (pc' := 1672) (st' := [.int (Int32.ofNat (n + 2)), .ref 0, .int x1, .ref 16]) (pm_q0_21 (Nat.le_of_ble_eq_true rfl)) (congrArg (fun z => some (Value.int z :: [.ref 0, .int x1, .ref 16])) (p2_ad (n := n) (c := 2) (k := 2) rfl)) rfl ?_
  refine pm_R_iald pm_M0 (pc' := 1673) (v := x2) (pm_q0_21 (Nat.le_of_ble_eq_true rfl)) ((T.old (by decide)).trans e0) (T.lt (by decide)) (p2_in (by omega) hL) v2 rfl ?_
  refine pm_R_cv pm_M0 (pc' := 1676) (a := 16) (ra := [.int x2, .int x1]) (rest := []) (ls' := [.ref 16, .int x1, .int x2, pm_no, pm_no, pm_no, pm_no, pm_no, pm_no]) (pm_q0_21 (Nat.le_of_ble_eq_true rfl)) rfl (Or.inl rfl) pm_M168 T.e16 rfl (by decide) (T.lt (by decide)) rfl rfl (Nat.le_of_ble_eq_true rfl) rfl rfl ?_
  refine ex_inj WW KK rfl ?_
  refine cl_c168 G T (fun r1 m1 h1 T1 F1 W1 _ => ?_)
  intro WW KK
  show pm_R 100 0 1676 [.ref 0, .ref 16, .ref 41, .int (Int32.ofNat n)] [.int r1] _ _
  have RR := R2_cl G T F1 (by decide) RR
  have I := p2_cl (j := j) G T Tr Y e0 S R hc T1 F1 (W1 0 (by decide)) (by decide) (by decide) (by decide) (by decide) (by decide) (by decide) (by decide)
  obtain ⟨ck, E, m, o, mr, wr, G, T, Tr, Y, e0, S, R, hc⟩ := I
  refine pm_R_op pm_M0 (pc' := 1677) (st' := []) (pm_q0_21 (Nat.le_of_ble_eq_true rfl)) rfl rfl ?_
  refine pm_R_lo pm_M0 (pc' := 1678) (pm_q0_21 (Nat.le_of_ble_eq_true rfl)) rfl rfl ?_
  refine pm_R_lo pm_M0 (pc' := 1679) (pm_q0_21 (Nat.le_of_ble_eq_true rfl)) rfl rfl ?_
  refine pm_R_lo pm_M0 (pc' := 1680) (pm_q0_21 (Nat.le_of_ble_eq_true rfl)) rfl rfl ?_
  refine pm_R_op pm_M0 (pc' := 1681) (st' := [.int 1, .int (Int32.ofNat n), .ref 0, .ref 41]) (pm_q0_21 (Nat.le_of_ble_eq_true rfl)) rfl rfl ?_
  refine pm_R_op pm_M0 (pc' := 1682) (st' := [.int (Int32.ofNat (n + 1)), .ref 0, .ref 41]) (pm_q0_21 (Nat.le_of_ble_eq_true rfl)) (congrArg (fun z => some (Value.int z :: [.ref 0, .ref 41])) (p2_ad (n := n) (c := 1) (k := 1) rfl)) rfl ?_
  refine pm_R_iald pm_M0 (pc' := 1683) (v := x1) (pm_q0_21 (Nat.le_of_ble_eq_true rfl)) ((T.old (by decide)).trans e0) (T.lt (by decide)) (p2_in (by omega) hL) v1 rfl ?_
  refine pm_R_lo pm_M0 (pc' := 1684) (pm_q0_21 (Nat.le_of_ble_eq_true rfl)) rfl rfl ?_
  refine pm_R_lo pm_M0 (pc' := 1685) (pm_q0_21 (Nat.le_of_ble_eq_true rfl)) rfl rfl ?_
  refine pm_R_op pm_M0 (pc' := 1686) (st' := [.int 2, .int (Int32.ofNat n), .ref 0, .int x1, .ref 41]) (pm_q0_21 (Nat.le_of_ble_eq_true rfl)) rfl rfl ?_
  refine pm_R_op pm_M0 (pc' := 1687) (st' := [.int (Int32.ofNat (n + 2)), .ref 0, .int x1, .ref 41]) (pm_q0_21 (Nat.le_of_ble_eq_true rfl)) (congrArg (fun z => some (Value.int z :: [.ref 0, .int x1, .ref 41])) (p2_ad (n := n) (c := 2) (k := 2) rfl)) rfl ?_
  refine pm_R_iald pm_M0 (pc' := 1688) (v := x2) (pm_q0_21 (Nat.le_of_ble_eq_true rfl)) ((T.old (by decide)).trans e0) (T.lt (by decide)) (p2_in (by omega) hL) v2 rfl ?_
  refine pm_R_cv pm_M0 (pc' := 1691) (a := 41) (ra := [.int x2, .int x1]) (rest := []) (ls' := [.ref 41, .int x1, .int x2, pm_no, pm_no, pm_no, pm_no]) (pm_q0_21 (Nat.le_of_ble_eq_true rfl)) rfl (Or.inl rfl) pm_M282 Tr.2.1 rfl (by decide) (Nat.lt_of_lt_of_le (by decide) Tr.1) rfl rfl (Nat.le_of_ble_eq_true rfl) rfl rfl ?_
  refine ex_inj WW KK rfl ?_
  refine rf_c282 Tr (fun r2 m1 w1 h1 T1 F1 W1 _ => ?_)
  intro WW KK
  show pm_R 100 0 1691 [.ref 0, .ref 16, .ref 41, .int (Int32.ofNat n)] [.int r2] _ _
  have RR := R2_rf F1 (by decide) RR
  have I := p2_rf G T Y e0 S R hc T1 F1 (by decide)
  refine pm_R_op pm_M0 (pc' := 1692) (st' := []) (pm_q0_21 (Nat.le_of_ble_eq_true rfl)) rfl rfl ?_
  refine pm_R_br pm_M0 (pc' := 2117) (pm_q0_21 (Nat.le_of_ble_eq_true rfl)) rfl ?_
  exact K _ ⟨I, WW, KK, RR⟩

set_option maxRecDepth 100000 in
set_option maxHeartbeats 4000000 in
theorem p6_k33 {L n j : Nat} {xs : Nat → Int32} {h : pm_H} {Q : Option Value → pm_H → Prop} (I : p6_I L xs j h) (hn : n + 7 ≤ L) (hL : L ≤ 3584) (K : ∀ h', p6_I L xs (j + 1) h' → pm_R 100 0 2117 [.ref 0, .ref 16, .ref 41, .int (Int32.ofNat n)] [] h' Q) : pm_R 100 0 1695 [.ref 0, .ref 16, .ref 41, .int (Int32.ofNat n)] [] h Q := by
  obtain ⟨x1, v1⟩ : ∃ y, xs (Int32.toNatClampNeg (Int32.ofNat (n + 1))) = y := ⟨_, rfl⟩
  obtain ⟨x2, v2⟩ : ∃ y, xs (Int32.toNatClampNeg (Int32.ofNat (n + 2))) = y := ⟨_, rfl⟩
  obtain ⟨x3, v3⟩ : ∃ y, xs (Int32.toNatClampNeg (Int32.ofNat (n + 3))) = y := ⟨_, rfl⟩
  obtain ⟨x4, v4⟩ : ∃ y, xs (Int32.toNatClampNeg (Int32.ofNat (n + 4))) = y := ⟨_, rfl⟩
  obtain ⟨x5, v5⟩ : ∃ y, xs (Int32.toNatClampNeg (Int32.ofNat (n + 5))) = y := ⟨_, rfl⟩
  obtain ⟨I, WW, KK, RR⟩ := I
  obtain ⟨ck, E, m, o, mr, wr, G, T, Tr, Y, e0, S, R, hc⟩ := I
  refine pm_R_lo pm_M0 (pc' := 1696) (pm_q0_21 (Nat.le_of_ble_eq_true rfl)) rfl rfl ?_
  refine pm_R_lo pm_M0 (pc' := 1697) (pm_q0_21 (Nat.le_of_ble_eq_true rfl)) rfl rfl ?_
  refine pm_R_lo pm_M0 (pc' := 1698) (pm_q0_21 (Nat.le_of_ble_eq_true rfl)) rfl rfl ?_
  refine pm_R_op pm_M0 (pc' := 1699) (st' := [.int 1, .int (Int32.ofNat n), .ref 0, .ref 16]) (pm_q0_21 (Nat.le_of_ble_eq_true rfl)) rfl rfl ?_
  refine pm_R_op pm_M0 (pc' := 1700) (st' := [.int (Int32.ofNat (n + 1)), .ref 0, .ref 16]) (pm_q0_21 (Nat.le_of_ble_eq_true rfl)) (congrArg (fun z => some (Value.int z :: [.ref 0, .ref 16])) (p2_ad (n := n) (c := 1) (k := 1) rfl)) rfl ?_
  refine pm_R_iald pm_M0 (pc' := 1701) (v := x1) (pm_q0_21 (Nat.le_of_ble_eq_true rfl)) ((T.old (by decide)).trans e0) (T.lt (by decide)) (p2_in (by omega) hL) v1 rfl ?_
  refine pm_R_lo pm_M0 (pc' := 1702) (pm_q0_21 (Nat.le_of_ble_eq_true rfl)) rfl rfl ?_
  refine pm_R_lo pm_M0 (pc' := 1703) (pm_q0_21 (Nat.le_of_ble_eq_true rfl)) rfl rfl ?_
  refine pm_R_op pm_M0 (pc' := 1704) (st' := [.int 2, .int (Int32.ofNat n), .ref 0, .int x1, .ref 16]) (pm_q0_21 (Nat.le_of_ble_eq_true rfl)) rfl rfl ?_
  refine pm_R_op pm_M0 (pc' := 1705) (st' := [.int (Int32.ofNat (n + 2)), .ref 0, .int x1, .ref 16]) (pm_q0_21 (Nat.le_of_ble_eq_true rfl)) (congrArg (fun z => some (Value.int z :: [.ref 0, .int x1, .ref 16])) (p2_ad (n := n) (c := 2) (k := 2) rfl)) rfl ?_
  refine pm_R_iald pm_M0 (pc' := 1706) (v := x2) (pm_q0_21 (Nat.le_of_ble_eq_true rfl)) ((T.old (by decide)).trans e0) (T.lt (by decide)) (p2_in (by omega) hL) v2 rfl ?_
  refine pm_R_lo pm_M0 (pc' := 1707) (pm_q0_21 (Nat.le_of_ble_eq_true rfl)) rfl rfl ?_
  refine pm_R_lo pm_M0 (pc' := 1708) (pm_q0_21 (Nat.le_of_ble_eq_true rfl)) rfl rfl ?_
  refine pm_R_op pm_M0 (pc' := 1709) (st' := [.int 3, .int (Int32.ofNat n), .ref 0, .int x2, .int x1, .ref 16]) (pm_q0_21 (Nat.le_of_ble_eq_true rfl)) rfl rfl ?_
  refine pm_R_op pm_M0 (pc' := 1710) (st' := [.int (Int32.ofNat (n + 3)), .ref 0, .int x2, .int x1, .ref 16]) (pm_q0_21 (Nat.le_of_ble_eq_true rfl)) (congrArg (fun z => some (Value.int z :: [.ref 0, .int x2, .int x1, .ref 16])) (p2_ad (n := n) (c := 3) (k := 3) rfl)) rfl ?_
  refine pm_R_iald pm_M0 (pc' := 1711) (v := x3) (pm_q0_21 (Nat.le_of_ble_eq_true rfl)) ((T.old (by decide)).trans e0) (T.lt (by decide)) (p2_in (by omega) hL) v3 rfl ?_
  refine pm_R_lo pm_M0 (pc' := 1712) (pm_q0_21 (Nat.le_of_ble_eq_true rfl)) rfl rfl ?_
  refine pm_R_lo pm_M0 (pc' := 1713) (pm_q0_21 (Nat.le_of_ble_eq_true rfl)) rfl rfl ?_
  refine pm_R_op pm_M0 (pc' := 1714) (st' := [.int 4, .int (Int32.ofNat n), .ref 0, .int x3, .int x2, .int x1, .ref 16]) (pm_q0_21 (Nat.le_of_ble_eq_true rfl)) rfl rfl ?_
  refine pm_R_op pm_M0 (pc' := 1715) (st' := [.int (Int32.ofNat (n + 4)), .ref 0, .int x3, .int x2, .int x1, .ref 16]) (pm_q0_21 (Nat.le_of_ble_eq_true rfl)) (congrArg (fun z => some (Value.int z :: [.ref 0, .int x3, .int x2, .int x1, .ref 16])) (p2_ad (n := n) (c := 4) (k := 4) rfl)) rfl ?_
  refine pm_R_iald pm_M0 (pc' := 1716) (v := x4) (pm_q0_21 (Nat.le_of_ble_eq_true rfl)) ((T.old (by decide)).trans e0) (T.lt (by decide)) (p2_in (by omega) hL) v4 rfl ?_
  refine pm_R_lo pm_M0 (pc' := 1717) (pm_q0_21 (Nat.le_of_ble_eq_true rfl)) rfl rfl ?_
  refine pm_R_lo pm_M0 (pc' := 1718) (pm_q0_21 (Nat.le_of_ble_eq_true rfl)) rfl rfl ?_
  refine pm_R_op pm_M0 (pc' := 1719) (st' := [.int 5, .int (Int32.ofNat n), .ref 0, .int x4, .int x3, .int x2, .int x1, .ref 16]) (pm_q0_21 (Nat.le_of_ble_eq_true rfl)) rfl rfl ?_
  refine pm_R_op pm_M0 (pc' := 1720) (st' := [.int (Int32.ofNat (n + 5)), .ref 0, .int x4, .int x3, .int x2, .int x1, .ref 16]) (pm_q0_21 (Nat.le_of_ble_eq_true rfl)) (congrArg (fun z => some (Value.int z :: [.ref 0, .int x4, .int x3, .int x2, .int x1, .ref 16])) (p2_ad (n := n) (c := 5) (k := 5) rfl)) rfl ?_
  refine pm_R_iald pm_M0 (pc' := 1721) (v := x5) (pm_q0_21 (Nat.le_of_ble_eq_true rfl)) ((T.old (by decide)).trans e0) (T.lt (by decide)) (p2_in (by omega) hL) v5 rfl ?_
  refine pm_R_cv pm_M0 (pc' := 1724) (a := 16) (ra := [.int x5, .int x4, .int x3, .int x2, .int x1]) (rest := []) (ls' := [.ref 16, .int x1, .int x2, .int x3, .int x4, .int x5, pm_no, pm_no, pm_no, pm_no, pm_no, pm_no, pm_no, pm_no]) (pm_q0_21 (Nat.le_of_ble_eq_true rfl)) rfl (Or.inl rfl) pm_M120 T.e16 rfl (by decide) (T.lt (by decide)) rfl rfl (Nat.le_of_ble_eq_true rfl) rfl rfl ?_
  refine ex_inj WW KK rfl ?_
  refine cl_c120 G T (fun r1 m1 h1 T1 F1 W1 _ => ?_)
  intro WW KK
  show pm_R 100 0 1724 [.ref 0, .ref 16, .ref 41, .int (Int32.ofNat n)] [.int r1] _ _
  have RR := R2_cl G T F1 (by decide) RR
  have I := p2_cl (j := j) G T Tr Y e0 S R hc T1 F1 (W1 0 (by decide)) (by decide) (by decide) (by decide) (by decide) (by decide) (by decide) (by decide)
  obtain ⟨ck, E, m, o, mr, wr, G, T, Tr, Y, e0, S, R, hc⟩ := I
  refine pm_R_op pm_M0 (pc' := 1725) (st' := []) (pm_q0_21 (Nat.le_of_ble_eq_true rfl)) rfl rfl ?_
  refine pm_R_lo pm_M0 (pc' := 1726) (pm_q0_21 (Nat.le_of_ble_eq_true rfl)) rfl rfl ?_
  refine pm_R_lo pm_M0 (pc' := 1727) (pm_q0_21 (Nat.le_of_ble_eq_true rfl)) rfl rfl ?_
  refine pm_R_lo pm_M0 (pc' := 1728) (pm_q0_21 (Nat.le_of_ble_eq_true rfl)) rfl rfl ?_
  refine pm_R_op pm_M0 (pc' := 1729) (st' := [.int 1, .int (Int32.ofNat n), .ref 0, .ref 41]) (pm_q0_21 (Nat.le_of_ble_eq_true rfl)) rfl rfl ?_
  refine pm_R_op pm_M0 (pc' := 1730) (st' := [.int (Int32.ofNat (n + 1)), .ref 0, .ref 41]) (pm_q0_21 (Nat.le_of_ble_eq_true rfl)) (congrArg (fun z => some (Value.int z :: [.ref 0, .ref 41])) (p2_ad (n := n) (c := 1) (k := 1) rfl)) rfl ?_
  refine pm_R_iald pm_M0 (pc' := 1731) (v := x1) (pm_q0_21 (Nat.le_of_ble_eq_true rfl)) ((T.old (by decide)).trans e0) (T.lt (by decide)) (p2_in (by omega) hL) v1 rfl ?_
  refine pm_R_lo pm_M0 (pc' := 1732) (pm_q0_21 (Nat.le_of_ble_eq_true rfl)) rfl rfl ?_
  refine pm_R_lo pm_M0 (pc' := 1733) (pm_q0_22 (Nat.le_of_ble_eq_true rfl)) rfl rfl ?_
  refine pm_R_op pm_M0 (pc' := 1734) (st' := [.int 2, .int (Int32.ofNat n), .ref 0, .int x1, .ref 41]) (pm_q0_22 (Nat.le_of_ble_eq_true rfl)) rfl rfl ?_
  refine pm_R_op pm_M0 (pc' := 1735) (st' := [.int (Int32.ofNat (n + 2)), .ref 0, .int x1, .ref 41]) (pm_q0_22 (Nat.le_of_ble_eq_true rfl)) (congrArg (fun z => some (Value.int z :: [.ref 0, .int x1, .ref 41])) (p2_ad (n := n) (c := 2) (k := 2) rfl)) rfl ?_
  refine pm_R_iald pm_M0 (pc' := 1736) (v := x2) (pm_q0_22 (Nat.le_of_ble_eq_true rfl)) ((T.old (by decide)).trans e0) (T.lt (by decide)) (p2_in (by omega) hL) v2 rfl ?_
  refine pm_R_lo pm_M0 (pc' := 1737) (pm_q0_22 (Nat.le_of_ble_eq_true rfl)) rfl rfl ?_
  refine pm_R_lo pm_M0 (pc' := 1738) (pm_q0_22 (Nat.le_of_ble_eq_true rfl)) rfl rfl ?_
  refine pm_R_op pm_M0 (pc' := 1739) (st' := [.int 3, .int (Int32.ofNat n), .ref 0, .int x2, .int x1, .ref 41]) (pm_q0_22 (Nat.le_of_ble_eq_true rfl)) rfl rfl ?_
  refine pm_R_op pm_M0 (pc' := 1740) (st' := [.int (Int32.ofNat (n + 3)), .ref 0, .int x2, .int x1, .ref 41]) (pm_q0_22 (Nat.le_of_ble_eq_true rfl)) (congrArg (fun z => some (Value.int z :: [.ref 0, .int x2, .int x1, .ref 41])) (p2_ad (n := n) (c := 3) (k := 3) rfl)) rfl ?_
  refine pm_R_iald pm_M0 (pc' := 1741) (v := x3) (pm_q0_22 (Nat.le_of_ble_eq_true rfl)) ((T.old (by decide)).trans e0) (T.lt (by decide)) (p2_in (by omega) hL) v3 rfl ?_
  refine pm_R_lo pm_M0 (pc' := 1742) (pm_q0_22 (Nat.le_of_ble_eq_true rfl)) rfl rfl ?_
  refine pm_R_lo pm_M0 (pc' := 1743) (pm_q0_22 (Nat.le_of_ble_eq_true rfl)) rfl rfl ?_
  refine pm_R_op pm_M0 (pc' := 1744) (st' := [.int 4, .int (Int32.ofNat n), .ref 0, .int x3, .int x2, .int x1, .ref 41]) (pm_q0_22 (Nat.le_of_ble_eq_true rfl)) rfl rfl ?_
  refine pm_R_op pm_M0 (pc' := 1745) (st' := [.int (Int32.ofNat (n + 4)), .ref 0, .int x3, .int x2, .int x1, .ref 41]) (pm_q0_22 (Nat.le_of_ble_eq_true rfl)) (congrArg (fun z => some (Value.int z :: [.ref 0, .int x3, .int x2, .int x1, .ref 41])) (p2_ad (n := n) (c := 4) (k := 4) rfl)) rfl ?_
  refine pm_R_iald pm_M0 (pc' := 1746) (v := x4) (pm_q0_22 (Nat.le_of_ble_eq_true rfl)) ((T.old (by decide)).trans e0) (T.lt (by decide)) (p2_in (by omega) hL) v4 rfl ?_
  refine pm_R_lo pm_M0 (pc' := 1747) (pm_q0_22 (Nat.le_of_ble_eq_true rfl)) rfl rfl ?_
  refine pm_R_lo pm_M0 (pc' := 1748) (pm_q0_22 (Nat.le_of_ble_eq_true rfl)) rfl rfl ?_
  refine pm_R_op pm_M0 (pc' := 1749) (st' := [.int 5, .int (Int32.ofNat n), .ref 0, .int x4, .int x3, .int x2, .int x1, .ref 41]) (pm_q0_22 (Nat.le_of_ble_eq_true rfl)) rfl rfl ?_
  refine pm_R_op pm_M0 (pc' := 1750) (st' := [.int (Int32.ofNat (n + 5)), .ref 0, .int x4, .int x3, .int x2, .int x1, .ref 41]) (pm_q0_22 (Nat.le_of_ble_eq_true rfl)) (congrArg (fun z => some (Value.int z :: [.ref 0, .int x4, .int x3, .int x2, .int x1, .ref 41])) (p2_ad (n := n) (c := 5) (k := 5) rfl)) rfl ?_
  refine pm_R_iald pm_M0 (pc' := 1751) (v := x5) (pm_q0_22 (Nat.le_of_ble_eq_true rfl)) ((T.old (by decide)).trans e0) (T.lt (by decide)) (p2_in (by omega) hL) v5 rfl ?_
  refine pm_R_cv pm_M0 (pc' := 1754) (a := 41) (ra := [.int x5, .int x4, .int x3, .int x2, .int x1]) (rest := []) (ls' := [.ref 41, .int x1, .int x2, .int x3, .int x4, .int x5, pm_no, pm_no]) (pm_q0_22 (Nat.le_of_ble_eq_true rfl)) rfl (Or.inl rfl) pm_M284 Tr.2.1 rfl (by decide) (Nat.lt_of_lt_of_le (by decide) Tr.1) rfl rfl (Nat.le_of_ble_eq_true rfl) rfl rfl ?_
  refine ex_inj WW KK rfl ?_
  refine rf_c284 Tr (fun r2 m1 w1 h1 T1 F1 W1 _ => ?_)
  intro WW KK
  show pm_R 100 0 1754 [.ref 0, .ref 16, .ref 41, .int (Int32.ofNat n)] [.int r2] _ _
  have RR := R2_rf F1 (by decide) RR
  have I := p2_rf G T Y e0 S R hc T1 F1 (by decide)
  refine pm_R_op pm_M0 (pc' := 1755) (st' := []) (pm_q0_22 (Nat.le_of_ble_eq_true rfl)) rfl rfl ?_
  refine pm_R_br pm_M0 (pc' := 2117) (pm_q0_22 (Nat.le_of_ble_eq_true rfl)) rfl ?_
  exact K _ ⟨I, WW, KK, RR⟩

set_option maxRecDepth 100000 in
set_option maxHeartbeats 4000000 in
theorem p6_k34 {L n j : Nat} {xs : Nat → Int32} {h : pm_H} {Q : Option Value → pm_H → Prop} (I : p6_I L xs j h) (hn : n + 7 ≤ L) (hL : L ≤ 3584) (K : ∀ h', p6_I L xs (j + 1) h' → pm_R 100 0 2117 [.ref 0, .ref 16, .ref 41, .int (Int32.ofNat n)] [] h' Q) : pm_R 100 0 1758 [.ref 0, .ref 16, .ref 41, .int (Int32.ofNat n)] [] h Q := by
  obtain ⟨x1, v1⟩ : ∃ y, xs (Int32.toNatClampNeg (Int32.ofNat (n + 1))) = y := ⟨_, rfl⟩
  obtain ⟨x2, v2⟩ : ∃ y, xs (Int32.toNatClampNeg (Int32.ofNat (n + 2))) = y := ⟨_, rfl⟩
  obtain ⟨x3, v3⟩ : ∃ y, xs (Int32.toNatClampNeg (Int32.ofNat (n + 3))) = y := ⟨_, rfl⟩
  obtain ⟨I, WW, KK, RR⟩ := I
  obtain ⟨ck, E, m, o, mr, wr, G, T, Tr, Y, e0, S, R, hc⟩ := I
  refine pm_R_lo pm_M0 (pc' := 1759) (pm_q0_22 (Nat.le_of_ble_eq_true rfl)) rfl rfl ?_
  refine pm_R_lo pm_M0 (pc' := 1760) (pm_q0_22 (Nat.le_of_ble_eq_true rfl)) rfl rfl ?_
  refine pm_R_lo pm_M0 (pc' := 1761) (pm_q0_22 (Nat.le_of_ble_eq_true rfl)) rfl rfl ?_
  refine pm_R_op pm_M0 (pc' := 1762) (st' := [.int 1, .int (Int32.ofNat n), .ref 0, .ref 16]) (pm_q0_22 (Nat.le_of_ble_eq_true rfl)) rfl rfl ?_
  refine pm_R_op pm_M0 (pc' := 1763) (st' := [.int (Int32.ofNat (n + 1)), .ref 0, .ref 16]) (pm_q0_22 (Nat.le_of_ble_eq_true rfl)) (congrArg (fun z => some (Value.int z :: [.ref 0, .ref 16])) (p2_ad (n := n) (c := 1) (k := 1) rfl)) rfl ?_
  refine pm_R_iald pm_M0 (pc' := 1764) (v := x1) (pm_q0_22 (Nat.le_of_ble_eq_true rfl)) ((T.old (by decide)).trans e0) (T.lt (by decide)) (p2_in (by omega) hL) v1 rfl ?_
  refine pm_R_lo pm_M0 (pc' := 1765) (pm_q0_22 (Nat.le_of_ble_eq_true rfl)) rfl rfl ?_
  refine pm_R_lo pm_M0 (pc' := 1766) (pm_q0_22 (Nat.le_of_ble_eq_true rfl)) rfl rfl ?_
  refine pm_R_op pm_M0 (pc' := 1767) (st' := [.int 2, .int (Int32.ofNat n), .ref 0, .int x1, .ref 16]) (pm_q0_22 (Nat.le_of_ble_eq_true rfl)) rfl rfl ?_
  refine pm_R_op pm_M0 (pc' := 1768) (st' := [.int (Int32.ofNat (n + 2)), .ref 0, .int x1, .ref 16]) (pm_q0_22 (Nat.le_of_ble_eq_true rfl)) (congrArg (fun z => some (Value.int z :: [.ref 0, .int x1, .ref 16])) (p2_ad (n := n) (c := 2) (k := 2) rfl)) rfl ?_
  refine pm_R_iald pm_M0 (pc' := 1769) (v := x2) (pm_q0_22 (Nat.le_of_ble_eq_true rfl)) ((T.old (by decide)).trans e0) (T.lt (by decide)) (p2_in (by omega) hL) v2 rfl ?_
  refine pm_R_lo pm_M0 (pc' := 1770) (pm_q0_22 (Nat.le_of_ble_eq_true rfl)) rfl rfl ?_
  refine pm_R_lo pm_M0 (pc' := 1771) (pm_q0_22 (Nat.le_of_ble_eq_true rfl)) rfl rfl ?_
  refine pm_R_op pm_M0 (pc' := 1772) (st' := [.int 3, .int (Int32.ofNat n), .ref 0, .int x2, .int x1, .ref 16]) (pm_q0_22 (Nat.le_of_ble_eq_true rfl)) rfl rfl ?_
  refine pm_R_op pm_M0 (pc' := 1773) (st' := [.int (Int32.ofNat (n + 3)), .ref 0, .int x2, .int x1, .ref 16]) (pm_q0_22 (Nat.le_of_ble_eq_true rfl)) (congrArg (fun z => some (Value.int z :: [.ref 0, .int x2, .int x1, .ref 16])) (p2_ad (n := n) (c := 3) (k := 3) rfl)) rfl ?_
  refine pm_R_iald pm_M0 (pc' := 1774) (v := x3) (pm_q0_22 (Nat.le_of_ble_eq_true rfl)) ((T.old (by decide)).trans e0) (T.lt (by decide)) (p2_in (by omega) hL) v3 rfl ?_
  refine pm_R_cv pm_M0 (pc' := 1777) (a := 16) (ra := [.int x3, .int x2, .int x1]) (rest := []) (ls' := [.ref 16, .int x1, .int x2, .int x3, pm_no]) (pm_q0_22 (Nat.le_of_ble_eq_true rfl)) rfl (Or.inl rfl) pm_M137 T.e16 rfl (by decide) (T.lt (by decide)) rfl rfl (Nat.le_of_ble_eq_true rfl) rfl rfl ?_
  suffices go : ∀ (r1 : Int64) (h1 : pm_H), p2_I L xs (j + 1) h1 → ex_W h1 → ex_K h1 → R2 (ex_V h1) → pm_R 100 0 1777 [.ref 0, .ref 16, .ref 41, .int (Int32.ofNat n)] [.long r1] h1 Q by
    refine ex_inj WW KK rfl ?_
    refine cl_c137_x G T (fun r1 m1 h1 T1 F1 W1 X1 => ?_) (fun r1 m1 ck1 h1 A1 G1 T1 F1 W1 X1 => ?_)
    · exact fun WW KK => go _ _ (p2_clg (j := j) G T Tr S hc G T1 e0 (Y.cl G F1 (by decide)) (by obtain ⟨f, e, b⟩ := R; obtain ⟨f1, e1, b1⟩ := X1 f e; exact ⟨f1, e1, by omega⟩) F1 (W1 0 (by decide)) (by decide) (by decide) (by decide)) WW KK (R2_cl G T F1 (by decide) RR)
    · exact fun WW KK => go _ _ (p2_clg (j := j) G T Tr S hc G1 T1 e0 (Y.cl G F1 (by decide)) (by obtain ⟨f, e, b⟩ := R; obtain ⟨f1, e1, b1⟩ := X1 f e; exact ⟨f1, e1, by omega⟩) F1 (W1 0 (by decide)) (by decide) (by decide) (by decide)) WW KK (R2_cl G T F1 (by decide) RR)
  intro r1 h1 I WW KK RR
  obtain ⟨ck, E, m, o, mr, wr, G, T, Tr, Y, e0, S, R, hc⟩ := I
  refine pm_R_op pm_M0 (pc' := 1778) (st' := []) (pm_q0_22 (Nat.le_of_ble_eq_true rfl)) rfl rfl ?_
  refine pm_R_lo pm_M0 (pc' := 1779) (pm_q0_22 (Nat.le_of_ble_eq_true rfl)) rfl rfl ?_
  refine pm_R_lo pm_M0 (pc' := 1780) (pm_q0_22 (Nat.le_of_ble_eq_true rfl)) rfl rfl ?_
  refine pm_R_lo pm_M0 (pc' := 1781) (pm_q0_22 (Nat.le_of_ble_eq_true rfl)) rfl rfl ?_
  refine pm_R_op pm_M0 (pc' := 1782) (st' := [.int 1, .int (Int32.ofNat n), .ref 0, .ref 41]) (pm_q0_22 (Nat.le_of_ble_eq_true rfl)) rfl rfl ?_
  refine pm_R_op pm_M0 (pc' := 1783) (st' := [.int (Int32.ofNat (n + 1)), .ref 0, .ref 41]) (pm_q0_22 (Nat.le_of_ble_eq_true rfl)) (congrArg (fun z => some (Value.int z :: [.ref 0, .ref 41])) (p2_ad (n := n) (c := 1) (k := 1) rfl)) rfl ?_
  refine pm_R_iald pm_M0 (pc' := 1784) (v := x1) (pm_q0_22 (Nat.le_of_ble_eq_true rfl)) ((T.old (by decide)).trans e0) (T.lt (by decide)) (p2_in (by omega) hL) v1 rfl ?_
  refine pm_R_lo pm_M0 (pc' := 1785) (pm_q0_22 (Nat.le_of_ble_eq_true rfl)) rfl rfl ?_
  refine pm_R_lo pm_M0 (pc' := 1786) (pm_q0_22 (Nat.le_of_ble_eq_true rfl)) rfl rfl ?_
  refine pm_R_op pm_M0 (pc' := 1787) (st' := [.int 2, .int (Int32.ofNat n), .ref 0, .int x1, .ref 41]) (pm_q0_22 (Nat.le_of_ble_eq_true rfl)) rfl rfl ?_
  refine pm_R_op pm_M0 (pc' := 1788) (st' := [.int (Int32.ofNat (n + 2)), .ref 0, .int x1, .ref 41]) (pm_q0_22 (Nat.le_of_ble_eq_true rfl)) (congrArg (fun z => some (Value.int z :: [.ref 0, .int x1, .ref 41])) (p2_ad (n := n) (c := 2) (k := 2) rfl)) rfl ?_
  refine pm_R_iald pm_M0 (pc' := 1789) (v := x2) (pm_q0_22 (Nat.le_of_ble_eq_true rfl)) ((T.old (by decide)).trans e0) (T.lt (by decide)) (p2_in (by omega) hL) v2 rfl ?_
  refine pm_R_lo pm_M0 (pc' := 1790) (pm_q0_22 (Nat.le_of_ble_eq_true rfl)) rfl rfl ?_
  refine pm_R_lo pm_M0 (pc' := 1791) (pm_q0_22 (Nat.le_of_ble_eq_true rfl)) rfl rfl ?_
  refine pm_R_op pm_M0 (pc' := 1792) (st' := [.int 3, .int (Int32.ofNat n), .ref 0, .int x2, .int x1, .ref 41]) (pm_q0_22 (Nat.le_of_ble_eq_true rfl)) rfl rfl ?_
  refine pm_R_op pm_M0 (pc' := 1793) (st' := [.int (Int32.ofNat (n + 3)), .ref 0, .int x2, .int x1, .ref 41]) (pm_q0_22 (Nat.le_of_ble_eq_true rfl)) (congrArg (fun z => some (Value.int z :: [.ref 0, .int x2, .int x1, .ref 41])) (p2_ad (n := n) (c := 3) (k := 3) rfl)) rfl ?_
  refine pm_R_iald pm_M0 (pc' := 1794) (v := x3) (pm_q0_22 (Nat.le_of_ble_eq_true rfl)) ((T.old (by decide)).trans e0) (T.lt (by decide)) (p2_in (by omega) hL) v3 rfl ?_
  refine pm_R_cv pm_M0 (pc' := 1797) (a := 41) (ra := [.int x3, .int x2, .int x1]) (rest := []) (ls' := [.ref 41, .int x1, .int x2, .int x3, pm_no, pm_no, pm_no, pm_no, pm_no, pm_no, pm_no, pm_no, pm_no]) (pm_q0_22 (Nat.le_of_ble_eq_true rfl)) rfl (Or.inl rfl) pm_M287 Tr.2.1 rfl (by decide) (Nat.lt_of_lt_of_le (by decide) Tr.1) rfl rfl (Nat.le_of_ble_eq_true rfl) rfl rfl ?_
  refine ex_inj WW KK rfl ?_
  refine rf_c287 Tr (fun r2 m1 w1 h1 T1 F1 W1 => ?_)
  intro WW KK
  show pm_R 100 0 1797 [.ref 0, .ref 16, .ref 41, .int (Int32.ofNat n)] [.long r2] _ _
  have RR := R2_rf F1 (by decide) RR
  have I := p2_rf G T Y e0 S R hc T1 F1 (by decide)
  refine pm_R_op pm_M0 (pc' := 1798) (st' := []) (pm_q0_22 (Nat.le_of_ble_eq_true rfl)) rfl rfl ?_
  refine pm_R_br pm_M0 (pc' := 2117) (pm_q0_22 (Nat.le_of_ble_eq_true rfl)) rfl ?_
  exact K _ ⟨I, WW, KK, RR⟩

set_option maxRecDepth 100000 in
set_option maxHeartbeats 4000000 in
theorem p6_k35 {L n j : Nat} {xs : Nat → Int32} {h : pm_H} {Q : Option Value → pm_H → Prop} (I : p6_I L xs j h) (hn : n + 7 ≤ L) (hL : L ≤ 3584) (K : ∀ h', p6_I L xs (j + 1) h' → pm_R 100 0 2117 [.ref 0, .ref 16, .ref 41, .int (Int32.ofNat n)] [] h' Q) : pm_R 100 0 1801 [.ref 0, .ref 16, .ref 41, .int (Int32.ofNat n)] [] h Q := by
  obtain ⟨x1, v1⟩ : ∃ y, xs (Int32.toNatClampNeg (Int32.ofNat (n + 1))) = y := ⟨_, rfl⟩
  obtain ⟨x2, v2⟩ : ∃ y, xs (Int32.toNatClampNeg (Int32.ofNat (n + 2))) = y := ⟨_, rfl⟩
  obtain ⟨x3, v3⟩ : ∃ y, xs (Int32.toNatClampNeg (Int32.ofNat (n + 3))) = y := ⟨_, rfl⟩
  obtain ⟨I, WW, KK, RR⟩ := I
  obtain ⟨ck, E, m, o, mr, wr, G, T, Tr, Y, e0, S, R, hc⟩ := I
  refine pm_R_lo pm_M0 (pc' := 1802) (pm_q0_22 (Nat.le_of_ble_eq_true rfl)) rfl rfl ?_
  refine pm_R_lo pm_M0 (pc' := 1803) (pm_q0_23 (Nat.le_of_ble_eq_true rfl)) rfl rfl ?_
  refine pm_R_lo pm_M0 (pc' := 1804) (pm_q0_23 (Nat.le_of_ble_eq_true rfl)) rfl rfl ?_
  refine pm_R_op pm_M0 (pc' := 1805) (st' := [.int 1, .int (Int32.ofNat n), .ref 0, .ref 16]) (pm_q0_23 (Nat.le_of_ble_eq_true rfl)) rfl rfl ?_
  refine pm_R_op pm_M0 (pc' := 1806) (st' := [.int (Int32.ofNat (n + 1)), .ref 0, .ref 16]) (pm_q0_23 (Nat.le_of_ble_eq_true rfl)) (congrArg (fun z => some (Value.int z :: [.ref 0, .ref 16])) (p2_ad (n := n) (c := 1) (k := 1) rfl)) rfl ?_
  refine pm_R_iald pm_M0 (pc' := 1807) (v := x1) (pm_q0_23 (Nat.le_of_ble_eq_true rfl)) ((T.old (by decide)).trans e0) (T.lt (by decide)) (p2_in (by omega) hL) v1 rfl ?_
  refine pm_R_lo pm_M0 (pc' := 1808) (pm_q0_23 (Nat.le_of_ble_eq_true rfl)) rfl rfl ?_
  refine pm_R_lo pm_M0 (pc' := 1809) (pm_q0_23 (Nat.le_of_ble_eq_true rfl)) rfl rfl ?_
  refine pm_R_op pm_M0 (pc' := 1810) (st' := [.int 2, .int (Int32.ofNat n), .ref 0, .int x1, .ref 16]) (pm_q0_23 (Nat.le_of_ble_eq_true rfl)) rfl rfl ?_
  refine pm_R_op pm_M0 (pc' := 1811) (st' := [.int (Int32.ofNat (n + 2)), .ref 0, .int x1, .ref 16]) (pm_q0_23 (Nat.le_of_ble_eq_true rfl)) (congrArg (fun z => some (Value.int z :: [.ref 0, .int x1, .ref 16])) (p2_ad (n := n) (c := 2) (k := 2) rfl)) rfl ?_
  refine pm_R_iald pm_M0 (pc' := 1812) (v := x2) (pm_q0_23 (Nat.le_of_ble_eq_true rfl)) ((T.old (by decide)).trans e0) (T.lt (by decide)) (p2_in (by omega) hL) v2 rfl ?_
  refine pm_R_lo pm_M0 (pc' := 1813) (pm_q0_23 (Nat.le_of_ble_eq_true rfl)) rfl rfl ?_
  refine pm_R_lo pm_M0 (pc' := 1814) (pm_q0_23 (Nat.le_of_ble_eq_true rfl)) rfl rfl ?_
  refine pm_R_op pm_M0 (pc' := 1815) (st' := [.int 3, .int (Int32.ofNat n), .ref 0, .int x2, .int x1, .ref 16]) (pm_q0_23 (Nat.le_of_ble_eq_true rfl)) rfl rfl ?_
  refine pm_R_op pm_M0 (pc' := 1816) (st' := [.int (Int32.ofNat (n + 3)), .ref 0, .int x2, .int x1, .ref 16]) (pm_q0_23 (Nat.le_of_ble_eq_true rfl)) (congrArg (fun z => some (Value.int z :: [.ref 0, .int x2, .int x1, .ref 16])) (p2_ad (n := n) (c := 3) (k := 3) rfl)) rfl ?_
  refine pm_R_iald pm_M0 (pc' := 1817) (v := x3) (pm_q0_23 (Nat.le_of_ble_eq_true rfl)) ((T.old (by decide)).trans e0) (T.lt (by decide)) (p2_in (by omega) hL) v3 rfl ?_
  refine pm_R_cv pm_M0 (pc' := 1820) (a := 16) (ra := [.int x3, .int x2, .int x1]) (rest := []) (ls' := [.ref 16, .int x1, .int x2, .int x3, pm_no, pm_no, pm_no, pm_no, pm_no, pm_no]) (pm_q0_23 (Nat.le_of_ble_eq_true rfl)) rfl (Or.inl rfl) pm_M118 T.e16 rfl (by decide) (T.lt (by decide)) rfl rfl (Nat.le_of_ble_eq_true rfl) rfl rfl ?_
  refine ex_inj WW KK rfl ?_
  refine cl_c118 G T (fun r1 _ => ?_)
  intro WW KK
  show pm_R 100 0 1820 [.ref 0, .ref 16, .ref 41, .int (Int32.ofNat n)] [.int r1] _ _
  have I := p2_up (⟨ck, E, m, o, mr, wr, G, T, Tr, Y, e0, S, R, hc⟩ : p2_I L xs j h)
  obtain ⟨ck, E, m, o, mr, wr, G, T, Tr, Y, e0, S, R, hc⟩ := I
  refine pm_R_op pm_M0 (pc' := 1821) (st' := []) (pm_q0_23 (Nat.le_of_ble_eq_true rfl)) rfl rfl ?_
  refine pm_R_lo pm_M0 (pc' := 1822) (pm_q0_23 (Nat.le_of_ble_eq_true rfl)) rfl rfl ?_
  refine pm_R_lo pm_M0 (pc' := 1823) (pm_q0_23 (Nat.le_of_ble_eq_true rfl)) rfl rfl ?_
  refine pm_R_lo pm_M0 (pc' := 1824) (pm_q0_23 (Nat.le_of_ble_eq_true rfl)) rfl rfl ?_
  refine pm_R_op pm_M0 (pc' := 1825) (st' := [.int 1, .int (Int32.ofNat n), .ref 0, .ref 41]) (pm_q0_23 (Nat.le_of_ble_eq_true rfl)) rfl rfl ?_
  refine pm_R_op pm_M0 (pc' := 1826) (st' := [.int (Int32.ofNat (n + 1)), .ref 0, .ref 41]) (pm_q0_23 (Nat.le_of_ble_eq_true rfl)) (congrArg (fun z => some (Value.int z :: [.ref 0, .ref 41])) (p2_ad (n := n) (c := 1) (k := 1) rfl)) rfl ?_
  refine pm_R_iald pm_M0 (pc' := 1827) (v := x1) (pm_q0_23 (Nat.le_of_ble_eq_true rfl)) ((T.old (by decide)).trans e0) (T.lt (by decide)) (p2_in (by omega) hL) v1 rfl ?_
  refine pm_R_lo pm_M0 (pc' := 1828) (pm_q0_23 (Nat.le_of_ble_eq_true rfl)) rfl rfl ?_
  refine pm_R_lo pm_M0 (pc' := 1829) (pm_q0_23 (Nat.le_of_ble_eq_true rfl)) rfl rfl ?_
  refine pm_R_op pm_M0 (pc' := 1830) (st' := [.int 2, .int (Int32.ofNat n), .ref 0, .int x1, .ref 41]) (pm_q0_23 (Nat.le_of_ble_eq_true rfl)) rfl rfl ?_
  refine pm_R_op pm_M0 (pc' := 1831) (st' := [.int (Int32.ofNat (n + 2)), .ref 0, .int x1, .ref 41]) (pm_q0_23 (Nat.le_of_ble_eq_true rfl)) (congrArg (fun z => some (Value.int z :: [.ref 0, .int x1, .ref 41])) (p2_ad (n := n) (c := 2) (k := 2) rfl)) rfl ?_
  refine pm_R_iald pm_M0 (pc' := 1832) (v := x2) (pm_q0_23 (Nat.le_of_ble_eq_true rfl)) ((T.old (by decide)).trans e0) (T.lt (by decide)) (p2_in (by omega) hL) v2 rfl ?_
  refine pm_R_lo pm_M0 (pc' := 1833) (pm_q0_23 (Nat.le_of_ble_eq_true rfl)) rfl rfl ?_
  refine pm_R_lo pm_M0 (pc' := 1834) (pm_q0_23 (Nat.le_of_ble_eq_true rfl)) rfl rfl ?_
  refine pm_R_op pm_M0 (pc' := 1835) (st' := [.int 3, .int (Int32.ofNat n), .ref 0, .int x2, .int x1, .ref 41]) (pm_q0_23 (Nat.le_of_ble_eq_true rfl)) rfl rfl ?_
  refine pm_R_op pm_M0 (pc' := 1836) (st' := [.int (Int32.ofNat (n + 3)), .ref 0, .int x2, .int x1, .ref 41]) (pm_q0_23 (Nat.le_of_ble_eq_true rfl)) (congrArg (fun z => some (Value.int z :: [.ref 0, .int x2, .int x1, .ref 41])) (p2_ad (n := n) (c := 3) (k := 3) rfl)) rfl ?_
  refine pm_R_iald pm_M0 (pc' := 1837) (v := x3) (pm_q0_23 (Nat.le_of_ble_eq_true rfl)) ((T.old (by decide)).trans e0) (T.lt (by decide)) (p2_in (by omega) hL) v3 rfl ?_
  refine pm_R_cv pm_M0 (pc' := 1840) (a := 41) (ra := [.int x3, .int x2, .int x1]) (rest := []) (ls' := [.ref 41, .int x1, .int x2, .int x3, pm_no, pm_no, pm_no]) (pm_q0_23 (Nat.le_of_ble_eq_true rfl)) rfl (Or.inl rfl) pm_M288 Tr.2.1 rfl (by decide) (Nat.lt_of_lt_of_le (by decide) Tr.1) rfl rfl (Nat.le_of_ble_eq_true rfl) rfl rfl ?_
  refine ex_inj WW KK rfl ?_
  refine rf_c288 Tr (fun r2 m1 w1 h1 T1 F1 W1 _ => ?_)
  intro WW KK
  show pm_R 100 0 1840 [.ref 0, .ref 16, .ref 41, .int (Int32.ofNat n)] [.int r2] _ _
  have RR := R2_rf F1 (by decide) RR
  have I := p2_rf G T Y e0 S R hc T1 F1 (by decide)
  refine pm_R_op pm_M0 (pc' := 1841) (st' := []) (pm_q0_23 (Nat.le_of_ble_eq_true rfl)) rfl rfl ?_
  refine pm_R_br pm_M0 (pc' := 2117) (pm_q0_23 (Nat.le_of_ble_eq_true rfl)) rfl ?_
  exact K _ ⟨I, WW, KK, RR⟩

set_option maxRecDepth 100000 in
set_option maxHeartbeats 4000000 in
theorem p6_k36 {L n j : Nat} {xs : Nat → Int32} {h : pm_H} {Q : Option Value → pm_H → Prop} (I : p6_I L xs j h) (hn : n + 7 ≤ L) (hL : L ≤ 3584) (K : ∀ h', p6_I L xs (j + 1) h' → pm_R 100 0 2117 [.ref 0, .ref 16, .ref 41, .int (Int32.ofNat n)] [] h' Q) : pm_R 100 0 1844 [.ref 0, .ref 16, .ref 41, .int (Int32.ofNat n)] [] h Q := by
  obtain ⟨x1, v1⟩ : ∃ y, xs (Int32.toNatClampNeg (Int32.ofNat (n + 1))) = y := ⟨_, rfl⟩
  obtain ⟨x2, v2⟩ : ∃ y, xs (Int32.toNatClampNeg (Int32.ofNat (n + 2))) = y := ⟨_, rfl⟩
  obtain ⟨x3, v3⟩ : ∃ y, xs (Int32.toNatClampNeg (Int32.ofNat (n + 3))) = y := ⟨_, rfl⟩
  obtain ⟨x4, v4⟩ : ∃ y, xs (Int32.toNatClampNeg (Int32.ofNat (n + 4))) = y := ⟨_, rfl⟩
  obtain ⟨I, WW, KK, RR⟩ := I
  obtain ⟨ck, E, m, o, mr, wr, G, T, Tr, Y, e0, S, R, hc⟩ := I
  refine pm_R_lo pm_M0 (pc' := 1845) (pm_q0_23 (Nat.le_of_ble_eq_true rfl)) rfl rfl ?_
  refine pm_R_lo pm_M0 (pc' := 1846) (pm_q0_23 (Nat.le_of_ble_eq_true rfl)) rfl rfl ?_
  refine pm_R_lo pm_M0 (pc' := 1847) (pm_q0_23 (Nat.le_of_ble_eq_true rfl)) rfl rfl ?_
  refine pm_R_op pm_M0 (pc' := 1848) (st' := [.int 1, .int (Int32.ofNat n), .ref 0, .ref 16]) (pm_q0_23 (Nat.le_of_ble_eq_true rfl)) rfl rfl ?_
  refine pm_R_op pm_M0 (pc' := 1849) (st' := [.int (Int32.ofNat (n + 1)), .ref 0, .ref 16]) (pm_q0_23 (Nat.le_of_ble_eq_true rfl)) (congrArg (fun z => some (Value.int z :: [.ref 0, .ref 16])) (p2_ad (n := n) (c := 1) (k := 1) rfl)) rfl ?_
  refine pm_R_iald pm_M0 (pc' := 1850) (v := x1) (pm_q0_23 (Nat.le_of_ble_eq_true rfl)) ((T.old (by decide)).trans e0) (T.lt (by decide)) (p2_in (by omega) hL) v1 rfl ?_
  refine pm_R_lo pm_M0 (pc' := 1851) (pm_q0_23 (Nat.le_of_ble_eq_true rfl)) rfl rfl ?_
  refine pm_R_lo pm_M0 (pc' := 1852) (pm_q0_23 (Nat.le_of_ble_eq_true rfl)) rfl rfl ?_
  refine pm_R_op pm_M0 (pc' := 1853) (st' := [.int 2, .int (Int32.ofNat n), .ref 0, .int x1, .ref 16]) (pm_q0_23 (Nat.le_of_ble_eq_true rfl)) rfl rfl ?_
  refine pm_R_op pm_M0 (pc' := 1854) (st' := [.int (Int32.ofNat (n + 2)), .ref 0, .int x1, .ref 16]) (pm_q0_23 (Nat.le_of_ble_eq_true rfl)) (congrArg (fun z => some (Value.int z :: [.ref 0, .int x1, .ref 16])) (p2_ad (n := n) (c := 2) (k := 2) rfl)) rfl ?_
  refine pm_R_iald pm_M0 (pc' := 1855) (v := x2) (pm_q0_23 (Nat.le_of_ble_eq_true rfl)) ((T.old (by decide)).trans e0) (T.lt (by decide)) (p2_in (by omega) hL) v2 rfl ?_
  refine pm_R_lo pm_M0 (pc' := 1856) (pm_q0_23 (Nat.le_of_ble_eq_true rfl)) rfl rfl ?_
  refine pm_R_lo pm_M0 (pc' := 1857) (pm_q0_23 (Nat.le_of_ble_eq_true rfl)) rfl rfl ?_
  refine pm_R_op pm_M0 (pc' := 1858) (st' := [.int 3, .int (Int32.ofNat n), .ref 0, .int x2, .int x1, .ref 16]) (pm_q0_23 (Nat.le_of_ble_eq_true rfl)) rfl rfl ?_
  refine pm_R_op pm_M0 (pc' := 1859) (st' := [.int (Int32.ofNat (n + 3)), .ref 0, .int x2, .int x1, .ref 16]) (pm_q0_23 (Nat.le_of_ble_eq_true rfl)) (congrArg (fun z => some (Value.int z :: [.ref 0, .int x2, .int x1, .ref 16])) (p2_ad (n := n) (c := 3) (k := 3) rfl)) rfl ?_
  refine pm_R_iald pm_M0 (pc' := 1860) (v := x3) (pm_q0_23 (Nat.le_of_ble_eq_true rfl)) ((T.old (by decide)).trans e0) (T.lt (by decide)) (p2_in (by omega) hL) v3 rfl ?_
  refine pm_R_lo pm_M0 (pc' := 1861) (pm_q0_23 (Nat.le_of_ble_eq_true rfl)) rfl rfl ?_
  refine pm_R_lo pm_M0 (pc' := 1862) (pm_q0_23 (Nat.le_of_ble_eq_true rfl)) rfl rfl ?_
  refine pm_R_op pm_M0 (pc' := 1863) (st' := [.int 4, .int (Int32.ofNat n), .ref 0, .int x3, .int x2, .int x1, .ref 16]) (pm_q0_23 (Nat.le_of_ble_eq_true rfl)) rfl rfl ?_
  refine pm_R_op pm_M0 (pc' := 1864) (st' := [.int (Int32.ofNat (n + 4)), .ref 0, .int x3, .int x2, .int x1, .ref 16]) (pm_q0_23 (Nat.le_of_ble_eq_true rfl)) (congrArg (fun z => some (Value.int z :: [.ref 0, .int x3, .int x2, .int x1, .ref 16])) (p2_ad (n := n) (c := 4) (k := 4) rfl)) rfl ?_
  refine pm_R_iald pm_M0 (pc' := 1865) (v := x4) (pm_q0_23 (Nat.le_of_ble_eq_true rfl)) ((T.old (by decide)).trans e0) (T.lt (by decide)) (p2_in (by omega) hL) v4 rfl ?_
  refine pm_R_cv pm_M0 (pc' := 1868) (a := 16) (ra := [.int x4, .int x3, .int x2, .int x1]) (rest := []) (ls' := [.ref 16, .int x1, .int x2, .int x3, .int x4, pm_no, pm_no, pm_no, pm_no]) (pm_q0_23 (Nat.le_of_ble_eq_true rfl)) rfl (Or.inl rfl) pm_M80 T.e16 rfl (by decide) (T.lt (by decide)) rfl rfl (Nat.le_of_ble_eq_true rfl) rfl rfl ?_
  refine ex_inj WW KK rfl ?_
  refine cl_c80 G T (fun r1 m1 o1 h1 T1 F1 W1 => ?_)
  intro WW KK
  show pm_R 100 0 1868 [.ref 0, .ref 16, .ref 41, .int (Int32.ofNat n)] [.int r1] _ _
  have RR := R2_cl G T F1 (by decide) RR
  have I := p2_cl (j := j) G T Tr Y e0 S R hc T1 F1 (W1 0 (by decide)) (by decide) (by decide) (by decide) (by decide) (by decide) (by decide) (by decide)
  obtain ⟨ck, E, m, o, mr, wr, G, T, Tr, Y, e0, S, R, hc⟩ := I
  refine pm_R_op pm_M0 (pc' := 1869) (st' := []) (pm_q0_23 (Nat.le_of_ble_eq_true rfl)) rfl rfl ?_
  refine pm_R_lo pm_M0 (pc' := 1870) (pm_q0_23 (Nat.le_of_ble_eq_true rfl)) rfl rfl ?_
  refine pm_R_lo pm_M0 (pc' := 1871) (pm_q0_24 (Nat.le_of_ble_eq_true rfl)) rfl rfl ?_
  refine pm_R_lo pm_M0 (pc' := 1872) (pm_q0_24 (Nat.le_of_ble_eq_true rfl)) rfl rfl ?_
  refine pm_R_op pm_M0 (pc' := 1873) (st' := [.int 1, .int (Int32.ofNat n), .ref 0, .ref 41]) (pm_q0_24 (Nat.le_of_ble_eq_true rfl)) rfl rfl ?_
  refine pm_R_op pm_M0 (pc' := 1874) (st' := [.int (Int32.ofNat (n + 1)), .ref 0, .ref 41]) (pm_q0_24 (Nat.le_of_ble_eq_true rfl)) (congrArg (fun z => some (Value.int z :: [.ref 0, .ref 41])) (p2_ad (n := n) (c := 1) (k := 1) rfl)) rfl ?_
  refine pm_R_iald pm_M0 (pc' := 1875) (v := x1) (pm_q0_24 (Nat.le_of_ble_eq_true rfl)) ((T.old (by decide)).trans e0) (T.lt (by decide)) (p2_in (by omega) hL) v1 rfl ?_
  refine pm_R_lo pm_M0 (pc' := 1876) (pm_q0_24 (Nat.le_of_ble_eq_true rfl)) rfl rfl ?_
  refine pm_R_lo pm_M0 (pc' := 1877) (pm_q0_24 (Nat.le_of_ble_eq_true rfl)) rfl rfl ?_
  refine pm_R_op pm_M0 (pc' := 1878) (st' := [.int 2, .int (Int32.ofNat n), .ref 0, .int x1, .ref 41]) (pm_q0_24 (Nat.le_of_ble_eq_true rfl)) rfl rfl ?_
  refine pm_R_op pm_M0 (pc' := 1879) (st' := [.int (Int32.ofNat (n + 2)), .ref 0, .int x1, .ref 41]) (pm_q0_24 (Nat.le_of_ble_eq_true rfl)) (congrArg (fun z => some (Value.int z :: [.ref 0, .int x1, .ref 41])) (p2_ad (n := n) (c := 2) (k := 2) rfl)) rfl ?_
  refine pm_R_iald pm_M0 (pc' := 1880) (v := x2) (pm_q0_24 (Nat.le_of_ble_eq_true rfl)) ((T.old (by decide)).trans e0) (T.lt (by decide)) (p2_in (by omega) hL) v2 rfl ?_
  refine pm_R_lo pm_M0 (pc' := 1881) (pm_q0_24 (Nat.le_of_ble_eq_true rfl)) rfl rfl ?_
  refine pm_R_lo pm_M0 (pc' := 1882) (pm_q0_24 (Nat.le_of_ble_eq_true rfl)) rfl rfl ?_
  refine pm_R_op pm_M0 (pc' := 1883) (st' := [.int 3, .int (Int32.ofNat n), .ref 0, .int x2, .int x1, .ref 41]) (pm_q0_24 (Nat.le_of_ble_eq_true rfl)) rfl rfl ?_
  refine pm_R_op pm_M0 (pc' := 1884) (st' := [.int (Int32.ofNat (n + 3)), .ref 0, .int x2, .int x1, .ref 41]) (pm_q0_24 (Nat.le_of_ble_eq_true rfl)) (congrArg (fun z => some (Value.int z :: [.ref 0, .int x2, .int x1, .ref 41])) (p2_ad (n := n) (c := 3) (k := 3) rfl)) rfl ?_
  refine pm_R_iald pm_M0 (pc' := 1885) (v := x3) (pm_q0_24 (Nat.le_of_ble_eq_true rfl)) ((T.old (by decide)).trans e0) (T.lt (by decide)) (p2_in (by omega) hL) v3 rfl ?_
  refine pm_R_lo pm_M0 (pc' := 1886) (pm_q0_24 (Nat.le_of_ble_eq_true rfl)) rfl rfl ?_
  refine pm_R_lo pm_M0 (pc' := 1887) (pm_q0_24 (Nat.le_of_ble_eq_true rfl)) rfl rfl ?_
  refine pm_R_op pm_M0 (pc' := 1888) (st' := [.int 4, .int (Int32.ofNat n), .ref 0, .int x3, .int x2, .int x1, .ref 41]) (pm_q0_24 (Nat.le_of_ble_eq_true rfl)) rfl rfl ?_
  refine pm_R_op pm_M0 (pc' := 1889) (st' := [.int (Int32.ofNat (n + 4)), .ref 0, .int x3, .int x2, .int x1, .ref 41]) (pm_q0_24 (Nat.le_of_ble_eq_true rfl)) (congrArg (fun z => some (Value.int z :: [.ref 0, .int x3, .int x2, .int x1, .ref 41])) (p2_ad (n := n) (c := 4) (k := 4) rfl)) rfl ?_
  refine pm_R_iald pm_M0 (pc' := 1890) (v := x4) (pm_q0_24 (Nat.le_of_ble_eq_true rfl)) ((T.old (by decide)).trans e0) (T.lt (by decide)) (p2_in (by omega) hL) v4 rfl ?_
  refine pm_R_cv pm_M0 (pc' := 1893) (a := 41) (ra := [.int x4, .int x3, .int x2, .int x1]) (rest := []) (ls' := [.ref 41, .int x1, .int x2, .int x3, .int x4, pm_no, pm_no]) (pm_q0_24 (Nat.le_of_ble_eq_true rfl)) rfl (Or.inl rfl) pm_M289 Tr.2.1 rfl (by decide) (Nat.lt_of_lt_of_le (by decide) Tr.1) rfl rfl (Nat.le_of_ble_eq_true rfl) rfl rfl ?_
  refine ex_inj WW KK rfl ?_
  refine rf_c289 Tr (fun r2 m1 w1 h1 T1 F1 W1 => ?_)
  intro WW KK
  show pm_R 100 0 1893 [.ref 0, .ref 16, .ref 41, .int (Int32.ofNat n)] [.int r2] _ _
  have RR := R2_rf F1 (by decide) RR
  have I := p2_rf G T Y e0 S R hc T1 F1 (by decide)
  refine pm_R_op pm_M0 (pc' := 1894) (st' := []) (pm_q0_24 (Nat.le_of_ble_eq_true rfl)) rfl rfl ?_
  refine pm_R_br pm_M0 (pc' := 2117) (pm_q0_24 (Nat.le_of_ble_eq_true rfl)) rfl ?_
  exact K _ ⟨I, WW, KK, RR⟩

set_option maxRecDepth 100000 in
set_option maxHeartbeats 4000000 in
theorem p6_k37 {L n j : Nat} {xs : Nat → Int32} {h : pm_H} {Q : Option Value → pm_H → Prop} (I : p6_I L xs j h) (hn : n + 7 ≤ L) (hL : L ≤ 3584) (K : ∀ h', p6_I L xs (j + 1) h' → pm_R 100 0 2117 [.ref 0, .ref 16, .ref 41, .int (Int32.ofNat n)] [] h' Q) : pm_R 100 0 1897 [.ref 0, .ref 16, .ref 41, .int (Int32.ofNat n)] [] h Q := by
  obtain ⟨x1, v1⟩ : ∃ y, xs (Int32.toNatClampNeg (Int32.ofNat (n + 1))) = y := ⟨_, rfl⟩
  obtain ⟨x2, v2⟩ : ∃ y, xs (Int32.toNatClampNeg (Int32.ofNat (n + 2))) = y := ⟨_, rfl⟩
  obtain ⟨x3, v3⟩ : ∃ y, xs (Int32.toNatClampNeg (Int32.ofNat (n + 3))) = y := ⟨_, rfl⟩
  obtain ⟨x4, v4⟩ : ∃ y, xs (Int32.toNatClampNeg (Int32.ofNat (n + 4))) = y := ⟨_, rfl⟩
  obtain ⟨x5, v5⟩ : ∃ y, xs (Int32.toNatClampNeg (Int32.ofNat (n + 5))) = y := ⟨_, rfl⟩
  obtain ⟨x6, v6⟩ : ∃ y, xs (Int32.toNatClampNeg (Int32.ofNat (n + 6))) = y := ⟨_, rfl⟩
  obtain ⟨I, WW, KK, RR⟩ := I
  obtain ⟨ck, E, m, o, mr, wr, G, T, Tr, Y, e0, S, R, hc⟩ := I
  refine pm_R_lo pm_M0 (pc' := 1898) (pm_q0_24 (Nat.le_of_ble_eq_true rfl)) rfl rfl ?_
  refine pm_R_lo pm_M0 (pc' := 1899) (pm_q0_24 (Nat.le_of_ble_eq_true rfl)) rfl rfl ?_
  refine pm_R_lo pm_M0 (pc' := 1900) (pm_q0_24 (Nat.le_of_ble_eq_true rfl)) rfl rfl ?_
  refine pm_R_op pm_M0 (pc' := 1901) (st' := [.int 1, .int (Int32.ofNat n), .ref 0, .ref 16]) (pm_q0_24 (Nat.le_of_ble_eq_true rfl)) rfl rfl ?_
  refine pm_R_op pm_M0 (pc' := 1902) (st' := [.int (Int32.ofNat (n + 1)), .ref 0, .ref 16]) (pm_q0_24 (Nat.le_of_ble_eq_true rfl)) (congrArg (fun z => some (Value.int z :: [.ref 0, .ref 16])) (p2_ad (n := n) (c := 1) (k := 1) rfl)) rfl ?_
  refine pm_R_iald pm_M0 (pc' := 1903) (v := x1) (pm_q0_24 (Nat.le_of_ble_eq_true rfl)) ((T.old (by decide)).trans e0) (T.lt (by decide)) (p2_in (by omega) hL) v1 rfl ?_
  refine pm_R_lo pm_M0 (pc' := 1904) (pm_q0_24 (Nat.le_of_ble_eq_true rfl)) rfl rfl ?_
  refine pm_R_lo pm_M0 (pc' := 1905) (pm_q0_24 (Nat.le_of_ble_eq_true rfl)) rfl rfl ?_
  refine pm_R_op pm_M0 (pc' := 1906) (st' := [.int 2, .int (Int32.ofNat n), .ref 0, .int x1, .ref 16]) (pm_q0_24 (Nat.le_of_ble_eq_true rfl)) rfl rfl ?_
  refine pm_R_op pm_M0 (pc' := 1907) (st' := [.int (Int32.ofNat (n + 2)), .ref 0, .int x1, .ref 16]) (pm_q0_24 (Nat.le_of_ble_eq_true rfl)) (congrArg (fun z => some (Value.int z :: [.ref 0, .int x1, .ref 16])) (p2_ad (n := n) (c := 2) (k := 2) rfl)) rfl ?_
  refine pm_R_iald pm_M0 (pc' := 1908) (v := x2) (pm_q0_24 (Nat.le_of_ble_eq_true rfl)) ((T.old (by decide)).trans e0) (T.lt (by decide)) (p2_in (by omega) hL) v2 rfl ?_
  refine pm_R_lo pm_M0 (pc' := 1909) (pm_q0_24 (Nat.le_of_ble_eq_true rfl)) rfl rfl ?_
  refine pm_R_lo pm_M0 (pc' := 1910) (pm_q0_24 (Nat.le_of_ble_eq_true rfl)) rfl rfl ?_
  refine pm_R_op pm_M0 (pc' := 1911) (st' := [.int 3, .int (Int32.ofNat n), .ref 0, .int x2, .int x1, .ref 16]) (pm_q0_24 (Nat.le_of_ble_eq_true rfl)) rfl rfl ?_
  refine pm_R_op pm_M0 (pc' := 1912) (st' := [.int (Int32.ofNat (n + 3)), .ref 0, .int x2, .int x1, .ref 16]) (pm_q0_24 (Nat.le_of_ble_eq_true rfl)) (congrArg (fun z => some (Value.int z :: [.ref 0, .int x2, .int x1, .ref 16])) (p2_ad (n := n) (c := 3) (k := 3) rfl)) rfl ?_
  refine pm_R_iald pm_M0 (pc' := 1913) (v := x3) (pm_q0_24 (Nat.le_of_ble_eq_true rfl)) ((T.old (by decide)).trans e0) (T.lt (by decide)) (p2_in (by omega) hL) v3 rfl ?_
  refine pm_R_lo pm_M0 (pc' := 1914) (pm_q0_24 (Nat.le_of_ble_eq_true rfl)) rfl rfl ?_
  refine pm_R_lo pm_M0 (pc' := 1915) (pm_q0_24 (Nat.le_of_ble_eq_true rfl)) rfl rfl ?_
  refine pm_R_op pm_M0 (pc' := 1916) (st' := [.int 4, .int (Int32.ofNat n), .ref 0, .int x3, .int x2, .int x1, .ref 16]) (pm_q0_24 (Nat.le_of_ble_eq_true rfl)) rfl rfl ?_
  refine pm_R_op pm_M0 (pc' := 1917) (st' := [.int (Int32.ofNat (n + 4)), .ref 0, .int x3, .int x2, .int x1, .ref 16]) (pm_q0_24 (Nat.le_of_ble_eq_true rfl)) (congrArg (fun z => some (Value.int z :: [.ref 0, .int x3, .int x2, .int x1, .ref 16])) (p2_ad (n := n) (c := 4) (k := 4) rfl)) rfl ?_
  refine pm_R_iald pm_M0 (pc' := 1918) (v := x4) (pm_q0_24 (Nat.le_of_ble_eq_true rfl)) ((T.old (by decide)).trans e0) (T.lt (by decide)) (p2_in (by omega) hL) v4 rfl ?_
  refine pm_R_lo pm_M0 (pc' := 1919) (pm_q0_24 (Nat.le_of_ble_eq_true rfl)) rfl rfl ?_
  refine pm_R_lo pm_M0 (pc' := 1920) (pm_q0_24 (Nat.le_of_ble_eq_true rfl)) rfl rfl ?_
  refine pm_R_op pm_M0 (pc' := 1921) (st' := [.int 5, .int (Int32.ofNat n), .ref 0, .int x4, .int x3, .int x2, .int x1, .ref 16]) (pm_q0_24 (Nat.le_of_ble_eq_true rfl)) rfl rfl ?_
  refine pm_R_op pm_M0 (pc' := 1922) (st' := [.int (Int32.ofNat (n + 5)), .ref 0, .int x4, .int x3, .int x2, .int x1, .ref 16]) (pm_q0_24 (Nat.le_of_ble_eq_true rfl)) (congrArg (fun z => some (Value.int z :: [.ref 0, .int x4, .int x3, .int x2, .int x1, .ref 16])) (p2_ad (n := n) (c := 5) (k := 5) rfl)) rfl ?_
  refine pm_R_iald pm_M0 (pc' := 1923) (v := x5) (pm_q0_24 (Nat.le_of_ble_eq_true rfl)) ((T.old (by decide)).trans e0) (T.lt (by decide)) (p2_in (by omega) hL) v5 rfl ?_
  refine pm_R_lo pm_M0 (pc' := 1924) (pm_q0_24 (Nat.le_of_ble_eq_true rfl)) rfl rfl ?_
  refine pm_R_lo pm_M0 (pc' := 1925) (pm_q0_24 (Nat.le_of_ble_eq_true rfl)) rfl rfl ?_
  refine pm_R_op pm_M0 (pc' := 1927) (st' := [.int 6, .int (Int32.ofNat n), .ref 0, .int x5, .int x4, .int x3, .int x2, .int x1, .ref 16]) (pm_q0_24 (Nat.le_of_ble_eq_true rfl)) rfl rfl ?_
  refine pm_R_op pm_M0 (pc' := 1928) (st' := [.int (Int32.ofNat (n + 6)), .ref 0, .int x5, .int x4, .int x3, .int x2, .int x1, .ref 16]) (pm_q0_24 (Nat.le_of_ble_eq_true rfl)) (congrArg (fun z => some (Value.int z :: [.ref 0, .int x5, .int x4, .int x3, .int x2, .int x1, .ref 16])) (p2_ad (n := n) (c := 6) (k := 6) rfl)) rfl ?_
  refine pm_R_iald pm_M0 (pc' := 1929) (v := x6) (pm_q0_24 (Nat.le_of_ble_eq_true rfl)) ((T.old (by decide)).trans e0) (T.lt (by decide)) (p2_in (by omega) hL) v6 rfl ?_
  refine pm_R_cv pm_M0 (pc' := 1932) (a := 16) (ra := [.int x6, .int x5, .int x4, .int x3, .int x2, .int x1]) (rest := []) (ls' := [.ref 16, .int x1, .int x2, .int x3, .int x4, .int x5, .int x6, pm_no]) (pm_q0_24 (Nat.le_of_ble_eq_true rfl)) rfl (Or.inl rfl) pm_M156 T.e16 rfl (by decide) (T.lt (by decide)) rfl rfl (Nat.le_of_ble_eq_true rfl) rfl rfl ?_
  suffices go : ∀ (r1 : Int32) (h1 : pm_H), p2_I L xs (j + 1) h1 → ex_W h1 → ex_K h1 → R2 (ex_V h1) → pm_R 100 0 1932 [.ref 0, .ref 16, .ref 41, .int (Int32.ofNat n)] [.int r1] h1 Q by
    refine ex_inj WW KK rfl ?_
    refine cl_c156_x G T (fun r1 m1 h1 T1 F1 W1 X1 => ?_) (fun r1 m1 ck1 h1 A1 G1 T1 F1 W1 X1 => ?_)
    · exact fun WW KK => go _ _ (p2_clg (j := j) G T Tr S hc G T1 e0 (Y.cl G F1 (by decide)) (by obtain ⟨f, e, b⟩ := R; obtain ⟨f1, e1, b1⟩ := X1 f e; exact ⟨f1, e1, by omega⟩) F1 (W1 0 (by decide)) (by decide) (by decide) (by decide)) WW KK (R2_cl G T F1 (by decide) RR)
    · exact fun WW KK => go _ _ (p2_clg (j := j) G T Tr S hc G1 T1 e0 (Y.cl G F1 (by decide)) (by obtain ⟨f, e, b⟩ := R; obtain ⟨f1, e1, b1⟩ := X1 f e; exact ⟨f1, e1, by omega⟩) F1 (W1 0 (by decide)) (by decide) (by decide) (by decide)) WW KK (R2_cl G T F1 (by decide) RR)
  intro r1 h1 I WW KK RR
  obtain ⟨ck, E, m, o, mr, wr, G, T, Tr, Y, e0, S, R, hc⟩ := I
  refine pm_R_op pm_M0 (pc' := 1933) (st' := []) (pm_q0_24 (Nat.le_of_ble_eq_true rfl)) rfl rfl ?_
  refine pm_R_lo pm_M0 (pc' := 1934) (pm_q0_24 (Nat.le_of_ble_eq_true rfl)) rfl rfl ?_
  refine pm_R_lo pm_M0 (pc' := 1935) (pm_q0_24 (Nat.le_of_ble_eq_true rfl)) rfl rfl ?_
  refine pm_R_lo pm_M0 (pc' := 1936) (pm_q0_24 (Nat.le_of_ble_eq_true rfl)) rfl rfl ?_
  refine pm_R_op pm_M0 (pc' := 1937) (st' := [.int 1, .int (Int32.ofNat n), .ref 0, .ref 41]) (pm_q0_24 (Nat.le_of_ble_eq_true rfl)) rfl rfl ?_
  refine pm_R_op pm_M0 (pc' := 1938) (st' := [.int (Int32.ofNat (n + 1)), .ref 0, .ref 41]) (pm_q0_25 (Nat.le_of_ble_eq_true rfl)) (congrArg (fun z => some (Value.int z :: [.ref 0, .ref 41])) (p2_ad (n := n) (c := 1) (k := 1) rfl)) rfl ?_
  refine pm_R_iald pm_M0 (pc' := 1939) (v := x1) (pm_q0_25 (Nat.le_of_ble_eq_true rfl)) ((T.old (by decide)).trans e0) (T.lt (by decide)) (p2_in (by omega) hL) v1 rfl ?_
  refine pm_R_lo pm_M0 (pc' := 1940) (pm_q0_25 (Nat.le_of_ble_eq_true rfl)) rfl rfl ?_
  refine pm_R_lo pm_M0 (pc' := 1941) (pm_q0_25 (Nat.le_of_ble_eq_true rfl)) rfl rfl ?_
  refine pm_R_op pm_M0 (pc' := 1942) (st' := [.int 2, .int (Int32.ofNat n), .ref 0, .int x1, .ref 41]) (pm_q0_25 (Nat.le_of_ble_eq_true rfl)) rfl rfl ?_
  refine pm_R_op pm_M0 (pc' := 1943) (st' := [.int (Int32.ofNat (n + 2)), .ref 0, .int x1, .ref 41]) (pm_q0_25 (Nat.le_of_ble_eq_true rfl)) (congrArg (fun z => some (Value.int z :: [.ref 0, .int x1, .ref 41])) (p2_ad (n := n) (c := 2) (k := 2) rfl)) rfl ?_
  refine pm_R_iald pm_M0 (pc' := 1944) (v := x2) (pm_q0_25 (Nat.le_of_ble_eq_true rfl)) ((T.old (by decide)).trans e0) (T.lt (by decide)) (p2_in (by omega) hL) v2 rfl ?_
  refine pm_R_lo pm_M0 (pc' := 1945) (pm_q0_25 (Nat.le_of_ble_eq_true rfl)) rfl rfl ?_
  refine pm_R_lo pm_M0 (pc' := 1946) (pm_q0_25 (Nat.le_of_ble_eq_true rfl)) rfl rfl ?_
  refine pm_R_op pm_M0 (pc' := 1947) (st' := [.int 3, .int (Int32.ofNat n), .ref 0, .int x2, .int x1, .ref 41]) (pm_q0_25 (Nat.le_of_ble_eq_true rfl)) rfl rfl ?_
  refine pm_R_op pm_M0 (pc' := 1948) (st' := [.int (Int32.ofNat (n + 3)), .ref 0, .int x2, .int x1, .ref 41]) (pm_q0_25 (Nat.le_of_ble_eq_true rfl)) (congrArg (fun z => some (Value.int z :: [.ref 0, .int x2, .int x1, .ref 41])) (p2_ad (n := n) (c := 3) (k := 3) rfl)) rfl ?_
  refine pm_R_iald pm_M0 (pc' := 1949) (v := x3) (pm_q0_25 (Nat.le_of_ble_eq_true rfl)) ((T.old (by decide)).trans e0) (T.lt (by decide)) (p2_in (by omega) hL) v3 rfl ?_
  refine pm_R_lo pm_M0 (pc' := 1950) (pm_q0_25 (Nat.le_of_ble_eq_true rfl)) rfl rfl ?_
  refine pm_R_lo pm_M0 (pc' := 1951) (pm_q0_25 (Nat.le_of_ble_eq_true rfl)) rfl rfl ?_
  refine pm_R_op pm_M0 (pc' := 1952) (st' := [.int 4, .int (Int32.ofNat n), .ref 0, .int x3, .int x2, .int x1, .ref 41]) (pm_q0_25 (Nat.le_of_ble_eq_true rfl)) rfl rfl ?_
  refine pm_R_op pm_M0 (pc' := 1953) (st' := [.int (Int32.ofNat (n + 4)), .ref 0, .int x3, .int x2, .int x1, .ref 41]) (pm_q0_25 (Nat.le_of_ble_eq_true rfl)) (congrArg (fun z => some (Value.int z :: [.ref 0, .int x3, .int x2, .int x1, .ref 41])) (p2_ad (n := n) (c := 4) (k := 4) rfl)) rfl ?_
  refine pm_R_iald pm_M0 (pc' := 1954) (v := x4) (pm_q0_25 (Nat.le_of_ble_eq_true rfl)) ((T.old (by decide)).trans e0) (T.lt (by decide)) (p2_in (by omega) hL) v4 rfl ?_
  refine pm_R_lo pm_M0 (pc' := 1955) (pm_q0_25 (Nat.le_of_ble_eq_true rfl)) rfl rfl ?_
  refine pm_R_lo pm_M0 (pc' := 1956) (pm_q0_25 (Nat.le_of_ble_eq_true rfl)) rfl rfl ?_
  refine pm_R_op pm_M0 (pc' := 1957) (st' := [.int 5, .int (Int32.ofNat n), .ref 0, .int x4, .int x3, .int x2, .int x1, .ref 41]) (pm_q0_25 (Nat.le_of_ble_eq_true rfl)) rfl rfl ?_
  refine pm_R_op pm_M0 (pc' := 1958) (st' := [.int (Int32.ofNat (n + 5)), .ref 0, .int x4, .int x3, .int x2, .int x1, .ref 41]) (pm_q0_25 (Nat.le_of_ble_eq_true rfl)) (congrArg (fun z => some (Value.int z :: [.ref 0, .int x4, .int x3, .int x2, .int x1, .ref 41])) (p2_ad (n := n) (c := 5) (k := 5) rfl)) rfl ?_
  refine pm_R_iald pm_M0 (pc' := 1959) (v := x5) (pm_q0_25 (Nat.le_of_ble_eq_true rfl)) ((T.old (by decide)).trans e0) (T.lt (by decide)) (p2_in (by omega) hL) v5 rfl ?_
  refine pm_R_lo pm_M0 (pc' := 1960) (pm_q0_25 (Nat.le_of_ble_eq_true rfl)) rfl rfl ?_
  refine pm_R_lo pm_M0 (pc' := 1961) (pm_q0_25 (Nat.le_of_ble_eq_true rfl)) rfl rfl ?_
  refine pm_R_op pm_M0 (pc' := 1963) (st' := [.int 6, .int (Int32.ofNat n), .ref 0, .int x5, .int x4, .int x3, .int x2, .int x1, .ref 41]) (pm_q0_25 (Nat.le_of_ble_eq_true rfl)) rfl rfl ?_
  refine pm_R_op pm_M0 (pc' := 1964) (st' := [.int (Int32.ofNat (n + 6)), .ref 0, .int x5, .int x4, .int x3, .int x2, .int x1, .ref 41]) (pm_q0_25 (Nat.le_of_ble_eq_true rfl)) (congrArg (fun z => some (Value.int z :: [.ref 0, .int x5, .int x4, .int x3, .int x2, .int x1, .ref 41])) (p2_ad (n := n) (c := 6) (k := 6) rfl)) rfl ?_
  refine pm_R_iald pm_M0 (pc' := 1965) (v := x6) (pm_q0_25 (Nat.le_of_ble_eq_true rfl)) ((T.old (by decide)).trans e0) (T.lt (by decide)) (p2_in (by omega) hL) v6 rfl ?_
  refine pm_R_cv pm_M0 (pc' := 1968) (a := 41) (ra := [.int x6, .int x5, .int x4, .int x3, .int x2, .int x1]) (rest := []) (ls' := [.ref 41, .int x1, .int x2, .int x3, .int x4, .int x5, .int x6, pm_no]) (pm_q0_25 (Nat.le_of_ble_eq_true rfl)) rfl (Or.inl rfl) pm_M290 Tr.2.1 rfl (by decide) (Nat.lt_of_lt_of_le (by decide) Tr.1) rfl rfl (Nat.le_of_ble_eq_true rfl) rfl rfl ?_
  refine ex_inj WW KK rfl ?_
  refine rf_c290 Tr (fun r2 m1 w1 h1 T1 F1 W1 _ => ?_)
  intro WW KK
  show pm_R 100 0 1968 [.ref 0, .ref 16, .ref 41, .int (Int32.ofNat n)] [.int r2] _ _
  have RR := R2_rf F1 (by decide) RR
  have I := p2_rf G T Y e0 S R hc T1 F1 (by decide)
  refine pm_R_op pm_M0 (pc' := 1969) (st' := []) (pm_q0_25 (Nat.le_of_ble_eq_true rfl)) rfl rfl ?_
  refine pm_R_br pm_M0 (pc' := 2117) (pm_q0_25 (Nat.le_of_ble_eq_true rfl)) rfl ?_
  exact K _ ⟨I, WW, KK, RR⟩

set_option maxRecDepth 100000 in
set_option maxHeartbeats 4000000 in
theorem p6_k38 {L n j : Nat} {xs : Nat → Int32} {h : pm_H} {Q : Option Value → pm_H → Prop} (I : p6_I L xs j h) (hn : n + 7 ≤ L) (hL : L ≤ 3584) (K : ∀ h', p6_I L xs (j + 1) h' → pm_R 100 0 2117 [.ref 0, .ref 16, .ref 41, .int (Int32.ofNat n)] [] h' Q) : pm_R 100 0 1972 [.ref 0, .ref 16, .ref 41, .int (Int32.ofNat n)] [] h Q := by
  obtain ⟨x1, v1⟩ : ∃ y, xs (Int32.toNatClampNeg (Int32.ofNat (n + 1))) = y := ⟨_, rfl⟩
  obtain ⟨x2, v2⟩ : ∃ y, xs (Int32.toNatClampNeg (Int32.ofNat (n + 2))) = y := ⟨_, rfl⟩
  obtain ⟨I, WW, KK, RR⟩ := I
  obtain ⟨ck, E, m, o, mr, wr, G, T, Tr, Y, e0, S, R, hc⟩ := I
  refine pm_R_lo pm_M0 (pc' := 1973) (pm_q0_25 (Nat.le_of_ble_eq_true rfl)) rfl rfl ?_
  refine pm_R_lo pm_M0 (pc' := 1974) (pm_q0_25 (Nat.le_of_ble_eq_true rfl)) rfl rfl ?_
  refine pm_R_lo pm_M0 (pc' := 1975) (pm_q0_25 (Nat.le_of_ble_eq_true rfl)) rfl rfl ?_
  refine pm_R_op pm_M0 (pc' := 1976) (st' := [.int 1, .int (Int32.ofNat n), .ref 0, .ref 16]) (pm_q0_25 (Nat.le_of_ble_eq_true rfl)) rfl rfl ?_
  refine pm_R_op pm_M0 (pc' := 1977) (st' := [.int (Int32.ofNat (n + 1)), .ref 0, .ref 16]) (pm_q0_25 (Nat.le_of_ble_eq_true rfl)) (congrArg (fun z => some (Value.int z :: [.ref 0, .ref 16])) (p2_ad (n := n) (c := 1) (k := 1) rfl)) rfl ?_
  refine pm_R_iald pm_M0 (pc' := 1978) (v := x1) (pm_q0_25 (Nat.le_of_ble_eq_true rfl)) ((T.old (by decide)).trans e0) (T.lt (by decide)) (p2_in (by omega) hL) v1 rfl ?_
  refine pm_R_lo pm_M0 (pc' := 1979) (pm_q0_25 (Nat.le_of_ble_eq_true rfl)) rfl rfl ?_
  refine pm_R_lo pm_M0 (pc' := 1980) (pm_q0_25 (Nat.le_of_ble_eq_true rfl)) rfl rfl ?_
  refine pm_R_op pm_M0 (pc' := 1981) (st' := [.int 2, .int (Int32.ofNat n), .ref 0, .int x1, .ref 16]) (pm_q0_25 (Nat.le_of_ble_eq_true rfl)) rfl rfl ?_
  refine pm_R_op pm_M0 (pc' := 1982) (st' := [.int (Int32.ofNat (n + 2)), .ref 0, .int x1, .ref 16]) (pm_q0_25 (Nat.le_of_ble_eq_true rfl)) (congrArg (fun z => some (Value.int z :: [.ref 0, .int x1, .ref 16])) (p2_ad (n := n) (c := 2) (k := 2) rfl)) rfl ?_
  refine pm_R_iald pm_M0 (pc' := 1983) (v := x2) (pm_q0_25 (Nat.le_of_ble_eq_true rfl)) ((T.old (by decide)).trans e0) (T.lt (by decide)) (p2_in (by omega) hL) v2 rfl ?_
  refine pm_R_cv pm_M0 (pc' := 1986) (a := 16) (ra := [.int x2, .int x1]) (rest := []) (ls' := [.ref 16, .int x1, .int x2, pm_no]) (pm_q0_25 (Nat.le_of_ble_eq_true rfl)) rfl (Or.inl rfl) pm_M158 T.e16 rfl (by decide) (T.lt (by decide)) rfl rfl (Nat.le_of_ble_eq_true rfl) rfl rfl ?_
  refine ex_inj WW KK rfl ?_
  refine cl_c158 G T (fun r1 => ?_)
  intro WW KK
  show pm_R 100 0 1986 [.ref 0, .ref 16, .ref 41, .int (Int32.ofNat n)] [.int r1] _ _
  have I := p2_up (⟨ck, E, m, o, mr, wr, G, T, Tr, Y, e0, S, R, hc⟩ : p2_I L xs j h)
  obtain ⟨ck, E, m, o, mr, wr, G, T, Tr, Y, e0, S, R, hc⟩ := I
  refine pm_R_op pm_M0 (pc' := 1987) (st' := []) (pm_q0_25 (Nat.le_of_ble_eq_true rfl)) rfl rfl ?_
  refine pm_R_lo pm_M0 (pc' := 1988) (pm_q0_25 (Nat.le_of_ble_eq_true rfl)) rfl rfl ?_
  refine pm_R_lo pm_M0 (pc' := 1989) (pm_q0_25 (Nat.le_of_ble_eq_true rfl)) rfl rfl ?_
  refine pm_R_lo pm_M0 (pc' := 1990) (pm_q0_25 (Nat.le_of_ble_eq_true rfl)) rfl rfl ?_
  refine pm_R_op pm_M0 (pc' := 1991) (st' := [.int 1, .int (Int32.ofNat n), .ref 0, .ref 41]) (pm_q0_25 (Nat.le_of_ble_eq_true rfl)) rfl rfl ?_
  refine pm_R_op pm_M0 (pc' := 1992) (st' := [.int (Int32.ofNat (n + 1)), .ref 0, .ref 41]) (pm_q0_25 (Nat.le_of_ble_eq_true rfl)) (congrArg (fun z => some (Value.int z :: [.ref 0, .ref 41])) (p2_ad (n := n) (c := 1) (k := 1) rfl)) rfl ?_
  refine pm_R_iald pm_M0 (pc' := 1993) (v := x1) (pm_q0_25 (Nat.le_of_ble_eq_true rfl)) ((T.old (by decide)).trans e0) (T.lt (by decide)) (p2_in (by omega) hL) v1 rfl ?_
  refine pm_R_lo pm_M0 (pc' := 1994) (pm_q0_25 (Nat.le_of_ble_eq_true rfl)) rfl rfl ?_
  refine pm_R_lo pm_M0 (pc' := 1995) (pm_q0_25 (Nat.le_of_ble_eq_true rfl)) rfl rfl ?_
  refine pm_R_op pm_M0 (pc' := 1996) (st' := [.int 2, .int (Int32.ofNat n), .ref 0, .int x1, .ref 41]) (pm_q0_25 (Nat.le_of_ble_eq_true rfl)) rfl rfl ?_
  refine pm_R_op pm_M0 (pc' := 1997) (st' := [.int (Int32.ofNat (n + 2)), .ref 0, .int x1, .ref 41]) (pm_q0_25 (Nat.le_of_ble_eq_true rfl)) (congrArg (fun z => some (Value.int z :: [.ref 0, .int x1, .ref 41])) (p2_ad (n := n) (c := 2) (k := 2) rfl)) rfl ?_
  refine pm_R_iald pm_M0 (pc' := 1998) (v := x2) (pm_q0_25 (Nat.le_of_ble_eq_true rfl)) ((T.old (by decide)).trans e0) (T.lt (by decide)) (p2_in (by omega) hL) v2 rfl ?_
  refine pm_R_cv pm_M0 (pc' := 2001) (a := 41) (ra := [.int x2, .int x1]) (rest := []) (ls' := [.ref 41, .int x1, .int x2, pm_no, pm_no, pm_no]) (pm_q0_25 (Nat.le_of_ble_eq_true rfl)) rfl (Or.inl rfl) pm_M291 Tr.2.1 rfl (by decide) (Nat.lt_of_lt_of_le (by decide) Tr.1) rfl rfl (Nat.le_of_ble_eq_true rfl) rfl rfl ?_
  refine ex_inj WW KK rfl ?_
  refine rf_c291 Tr (fun r2 m1 w1 h1 T1 F1 W1 => ?_)
  intro WW KK
  show pm_R 100 0 2001 [.ref 0, .ref 16, .ref 41, .int (Int32.ofNat n)] [.int r2] _ _
  have RR := R2_rf F1 (by decide) RR
  have I := p2_rf G T Y e0 S R hc T1 F1 (by decide)
  refine pm_R_op pm_M0 (pc' := 2002) (st' := []) (pm_q0_25 (Nat.le_of_ble_eq_true rfl)) rfl rfl ?_
  refine pm_R_br pm_M0 (pc' := 2117) (pm_q0_25 (Nat.le_of_ble_eq_true rfl)) rfl ?_
  exact K _ ⟨I, WW, KK, RR⟩

set_option maxRecDepth 100000 in
set_option maxHeartbeats 4000000 in
theorem p6_k39 {L n j : Nat} {xs : Nat → Int32} {h : pm_H} {Q : Option Value → pm_H → Prop} (I : p6_I L xs j h) (hn : n + 7 ≤ L) (hL : L ≤ 3584) (K : ∀ h', p6_I L xs (j + 1) h' → pm_R 100 0 2117 [.ref 0, .ref 16, .ref 41, .int (Int32.ofNat n)] [] h' Q) : pm_R 100 0 2005 [.ref 0, .ref 16, .ref 41, .int (Int32.ofNat n)] [] h Q := by
  obtain ⟨x1, v1⟩ : ∃ y, xs (Int32.toNatClampNeg (Int32.ofNat (n + 1))) = y := ⟨_, rfl⟩
  obtain ⟨x2, v2⟩ : ∃ y, xs (Int32.toNatClampNeg (Int32.ofNat (n + 2))) = y := ⟨_, rfl⟩
  obtain ⟨x3, v3⟩ : ∃ y, xs (Int32.toNatClampNeg (Int32.ofNat (n + 3))) = y := ⟨_, rfl⟩
  obtain ⟨I, WW, KK, RR⟩ := I
  obtain ⟨ck, E, m, o, mr, wr, G, T, Tr, Y, e0, S, R, hc⟩ := I
  refine pm_R_lo pm_M0 (pc' := 2006) (pm_q0_25 (Nat.le_of_ble_eq_true rfl)) rfl rfl ?_
  refine pm_R_lo pm_M0 (pc' := 2007) (pm_q0_25 (Nat.le_of_ble_eq_true rfl)) rfl rfl ?_
  refine pm_R_lo pm_M0 (pc' := 2008) (pm_q0_25 (Nat.le_of_ble_eq_true rfl)) rfl rfl ?_
  refine pm_R_op pm_M0 (pc' := 2009) (st' := [.int 1, .int (Int32.ofNat n), .ref 0, .ref 16]) (pm_q0_26 (Nat.le_of_ble_eq_true rfl)) rfl rfl ?_
  refine pm_R_op pm_M0 (pc' := 2010) (st' := [.int (Int32.ofNat (n + 1)), .ref 0, .ref 16]) (pm_q0_26 (Nat.le_of_ble_eq_true rfl)) (congrArg (fun z => some (Value.int z :: [.ref 0, .ref 16])) (p2_ad (n := n) (c := 1) (k := 1) rfl)) rfl ?_
  refine pm_R_iald pm_M0 (pc' := 2011) (v := x1) (pm_q0_26 (Nat.le_of_ble_eq_true rfl)) ((T.old (by decide)).trans e0) (T.lt (by decide)) (p2_in (by omega) hL) v1 rfl ?_
  refine pm_R_lo pm_M0 (pc' := 2012) (pm_q0_26 (Nat.le_of_ble_eq_true rfl)) rfl rfl ?_
  refine pm_R_lo pm_M0 (pc' := 2013) (pm_q0_26 (Nat.le_of_ble_eq_true rfl)) rfl rfl ?_
  refine pm_R_op pm_M0 (pc' := 2014) (st' := [.int 2, .int (Int32.ofNat n), .ref 0, .int x1, .ref 16]) (pm_q0_26 (Nat.le_of_ble_eq_true rfl)) rfl rfl ?_
  refine pm_R_op pm_M0 (pc' := 2015) (st' := [.int (Int32.ofNat (n + 2)), .ref 0, .int x1, .ref 16]) (pm_q0_26 (Nat.le_of_ble_eq_true rfl)) (congrArg (fun z => some (Value.int z :: [.ref 0, .int x1, .ref 16])) (p2_ad (n := n) (c := 2) (k := 2) rfl)) rfl ?_
  refine pm_R_iald pm_M0 (pc' := 2016) (v := x2) (pm_q0_26 (Nat.le_of_ble_eq_true rfl)) ((T.old (by decide)).trans e0) (T.lt (by decide)) (p2_in (by omega) hL) v2 rfl ?_
  refine pm_R_lo pm_M0 (pc' := 2017) (pm_q0_26 (Nat.le_of_ble_eq_true rfl)) rfl rfl ?_
  refine pm_R_lo pm_M0 (pc' := 2018) (pm_q0_26 (Nat.le_of_ble_eq_true rfl)) rfl rfl ?_
  refine pm_R_op pm_M0 (pc' := 2019) (st' := [.int 3, .int (Int32.ofNat n), .ref 0, .int x2, .int x1, .ref 16]) (pm_q0_26 (Nat.le_of_ble_eq_true rfl)) rfl rfl ?_
  refine pm_R_op pm_M0 (pc' := 2020) (st' := [.int (Int32.ofNat (n + 3)), .ref 0, .int x2, .int x1, .ref 16]) (pm_q0_26 (Nat.le_of_ble_eq_true rfl)) (congrArg (fun z => some (Value.int z :: [.ref 0, .int x2, .int x1, .ref 16])) (p2_ad (n := n) (c := 3) (k := 3) rfl)) rfl ?_
  refine pm_R_iald pm_M0 (pc' := 2021) (v := x3) (pm_q0_26 (Nat.le_of_ble_eq_true rfl)) ((T.old (by decide)).trans e0) (T.lt (by decide)) (p2_in (by omega) hL) v3 rfl ?_
  refine pm_R_cv pm_M0 (pc' := 2024) (a := 16) (ra := [.int x3, .int x2, .int x1]) (rest := []) (ls' := [.ref 16, .int x1, .int x2, .int x3, pm_no, pm_no, pm_no]) (pm_q0_26 (Nat.le_of_ble_eq_true rfl)) rfl (Or.inl rfl) pm_M111 T.e16 rfl (by decide) (T.lt (by decide)) rfl rfl (Nat.le_of_ble_eq_true rfl) rfl rfl ?_
  refine ex_inj WW KK rfl ?_
  refine cl_c111 G T (fun r1 m1 h1 T1 F1 W1 _ => ?_)
  intro WW KK
  show pm_R 100 0 2024 [.ref 0, .ref 16, .ref 41, .int (Int32.ofNat n)] [.int r1] _ _
  have RR := R2_cl G T F1 (by decide) RR
  have I := p2_cl (j := j) G T Tr Y e0 S R hc T1 F1 (W1 0 (by decide)) (by decide) (by decide) (by decide) (by decide) (by decide) (by decide) (by decide)
  obtain ⟨ck, E, m, o, mr, wr, G, T, Tr, Y, e0, S, R, hc⟩ := I
  refine pm_R_op pm_M0 (pc' := 2025) (st' := []) (pm_q0_26 (Nat.le_of_ble_eq_true rfl)) rfl rfl ?_
  refine pm_R_lo pm_M0 (pc' := 2026) (pm_q0_26 (Nat.le_of_ble_eq_true rfl)) rfl rfl ?_
  refine pm_R_lo pm_M0 (pc' := 2027) (pm_q0_26 (Nat.le_of_ble_eq_true rfl)) rfl rfl ?_
  refine pm_R_lo pm_M0 (pc' := 2028) (pm_q0_26 (Nat.le_of_ble_eq_true rfl)) rfl rfl ?_
  refine pm_R_op pm_M0 (pc' := 2029) (st' := [.int 1, .int (Int32.ofNat n), .ref 0, .ref 41]) (pm_q0_26 (Nat.le_of_ble_eq_true rfl)) rfl rfl ?_
  refine pm_R_op pm_M0 (pc' := 2030) (st' := [.int (Int32.ofNat (n + 1)), .ref 0, .ref 41]) (pm_q0_26 (Nat.le_of_ble_eq_true rfl)) (congrArg (fun z => some (Value.int z :: [.ref 0, .ref 41])) (p2_ad (n := n) (c := 1) (k := 1) rfl)) rfl ?_
  refine pm_R_iald pm_M0 (pc' := 2031) (v := x1) (pm_q0_26 (Nat.le_of_ble_eq_true rfl)) ((T.old (by decide)).trans e0) (T.lt (by decide)) (p2_in (by omega) hL) v1 rfl ?_
  refine pm_R_lo pm_M0 (pc' := 2032) (pm_q0_26 (Nat.le_of_ble_eq_true rfl)) rfl rfl ?_
  refine pm_R_lo pm_M0 (pc' := 2033) (pm_q0_26 (Nat.le_of_ble_eq_true rfl)) rfl rfl ?_
  refine pm_R_op pm_M0 (pc' := 2034) (st' := [.int 2, .int (Int32.ofNat n), .ref 0, .int x1, .ref 41]) (pm_q0_26 (Nat.le_of_ble_eq_true rfl)) rfl rfl ?_
  refine pm_R_op pm_M0 (pc' := 2035) (st' := [.int (Int32.ofNat (n + 2)), .ref 0, .int x1, .ref 41]) (pm_q0_26 (Nat.le_of_ble_eq_true rfl)) (congrArg (fun z => some (Value.int z :: [.ref 0, .int x1, .ref 41])) (p2_ad (n := n) (c := 2) (k := 2) rfl)) rfl ?_
  refine pm_R_iald pm_M0 (pc' := 2036) (v := x2) (pm_q0_26 (Nat.le_of_ble_eq_true rfl)) ((T.old (by decide)).trans e0) (T.lt (by decide)) (p2_in (by omega) hL) v2 rfl ?_
  refine pm_R_lo pm_M0 (pc' := 2037) (pm_q0_26 (Nat.le_of_ble_eq_true rfl)) rfl rfl ?_
  refine pm_R_lo pm_M0 (pc' := 2038) (pm_q0_26 (Nat.le_of_ble_eq_true rfl)) rfl rfl ?_
  refine pm_R_op pm_M0 (pc' := 2039) (st' := [.int 3, .int (Int32.ofNat n), .ref 0, .int x2, .int x1, .ref 41]) (pm_q0_26 (Nat.le_of_ble_eq_true rfl)) rfl rfl ?_
  refine pm_R_op pm_M0 (pc' := 2040) (st' := [.int (Int32.ofNat (n + 3)), .ref 0, .int x2, .int x1, .ref 41]) (pm_q0_26 (Nat.le_of_ble_eq_true rfl)) (congrArg (fun z => some (Value.int z :: [.ref 0, .int x2, .int x1, .ref 41])) (p2_ad (n := n) (c := 3) (k := 3) rfl)) rfl ?_
  refine pm_R_iald pm_M0 (pc' := 2041) (v := x3) (pm_q0_26 (Nat.le_of_ble_eq_true rfl)) ((T.old (by decide)).trans e0) (T.lt (by decide)) (p2_in (by omega) hL) v3 rfl ?_
  refine pm_R_cv pm_M0 (pc' := 2044) (a := 41) (ra := [.int x3, .int x2, .int x1]) (rest := []) (ls' := [.ref 41, .int x1, .int x2, .int x3, pm_no, pm_no]) (pm_q0_26 (Nat.le_of_ble_eq_true rfl)) rfl (Or.inl rfl) pm_M293 Tr.2.1 rfl (by decide) (Nat.lt_of_lt_of_le (by decide) Tr.1) rfl rfl (Nat.le_of_ble_eq_true rfl) rfl rfl ?_
  refine ex_inj WW KK rfl ?_
  refine rf_c293 Tr (fun r2 m1 w1 h1 T1 F1 W1 _ => ?_)
  intro WW KK
  show pm_R 100 0 2044 [.ref 0, .ref 16, .ref 41, .int (Int32.ofNat n)] [.int r2] _ _
  have RR := R2_rf F1 (by decide) RR
  have I := p2_rf G T Y e0 S R hc T1 F1 (by decide)
  refine pm_R_op pm_M0 (pc' := 2045) (st' := []) (pm_q0_26 (Nat.le_of_ble_eq_true rfl)) rfl rfl ?_
  refine pm_R_br pm_M0 (pc' := 2117) (pm_q0_26 (Nat.le_of_ble_eq_true rfl)) rfl ?_
  exact K _ ⟨I, WW, KK, RR⟩

set_option maxRecDepth 100000 in
set_option maxHeartbeats 4000000 in
theorem p6_k40 {L n j : Nat} {xs : Nat → Int32} {h : pm_H} {Q : Option Value → pm_H → Prop} (I : p6_I L xs j h) (hn : n + 7 ≤ L) (hL : L ≤ 3584) (K : ∀ h', p6_I L xs (j + 1) h' → pm_R 100 0 2117 [.ref 0, .ref 16, .ref 41, .int (Int32.ofNat n)] [] h' Q) : pm_R 100 0 2048 [.ref 0, .ref 16, .ref 41, .int (Int32.ofNat n)] [] h Q := by
  obtain ⟨x1, v1⟩ : ∃ y, xs (Int32.toNatClampNeg (Int32.ofNat (n + 1))) = y := ⟨_, rfl⟩
  obtain ⟨I, WW, KK, RR⟩ := I
  obtain ⟨ck, E, m, o, mr, wr, G, T, Tr, Y, e0, S, R, hc⟩ := I
  refine pm_R_lo pm_M0 (pc' := 2049) (pm_q0_26 (Nat.le_of_ble_eq_true rfl)) rfl rfl ?_
  refine pm_R_lo pm_M0 (pc' := 2050) (pm_q0_26 (Nat.le_of_ble_eq_true rfl)) rfl rfl ?_
  refine pm_R_lo pm_M0 (pc' := 2051) (pm_q0_26 (Nat.le_of_ble_eq_true rfl)) rfl rfl ?_
  refine pm_R_op pm_M0 (pc' := 2052) (st' := [.int 1, .int (Int32.ofNat n), .ref 0, .ref 16]) (pm_q0_26 (Nat.le_of_ble_eq_true rfl)) rfl rfl ?_
  refine pm_R_op pm_M0 (pc' := 2053) (st' := [.int (Int32.ofNat (n + 1)), .ref 0, .ref 16]) (pm_q0_26 (Nat.le_of_ble_eq_true rfl)) (congrArg (fun z => some (Value.int z :: [.ref 0, .ref 16])) (p2_ad (n := n) (c := 1) (k := 1) rfl)) rfl ?_
  refine pm_R_iald pm_M0 (pc' := 2054) (v := x1) (pm_q0_26 (Nat.le_of_ble_eq_true rfl)) ((T.old (by decide)).trans e0) (T.lt (by decide)) (p2_in (by omega) hL) v1 rfl ?_
  refine pm_R_cv pm_M0 (pc' := 2057) (a := 16) (ra := [.int x1]) (rest := []) (ls' := [.ref 16, .int x1]) (pm_q0_26 (Nat.le_of_ble_eq_true rfl)) rfl (Or.inl rfl) pm_M56 T.e16 rfl (by decide) (T.lt (by decide)) rfl rfl (Nat.le_of_ble_eq_true rfl) rfl rfl ?_
  refine ex_inj WW KK rfl ?_
  refine cl_c56 G T (fun r1 _ => ?_)
  intro WW KK
  show pm_R 100 0 2057 [.ref 0, .ref 16, .ref 41, .int (Int32.ofNat n)] [.int r1] _ _
  have I := p2_up (⟨ck, E, m, o, mr, wr, G, T, Tr, Y, e0, S, R, hc⟩ : p2_I L xs j h)
  obtain ⟨ck, E, m, o, mr, wr, G, T, Tr, Y, e0, S, R, hc⟩ := I
  refine pm_R_op pm_M0 (pc' := 2058) (st' := []) (pm_q0_26 (Nat.le_of_ble_eq_true rfl)) rfl rfl ?_
  refine pm_R_lo pm_M0 (pc' := 2059) (pm_q0_26 (Nat.le_of_ble_eq_true rfl)) rfl rfl ?_
  refine pm_R_lo pm_M0 (pc' := 2060) (pm_q0_26 (Nat.le_of_ble_eq_true rfl)) rfl rfl ?_
  refine pm_R_lo pm_M0 (pc' := 2061) (pm_q0_26 (Nat.le_of_ble_eq_true rfl)) rfl rfl ?_
  refine pm_R_op pm_M0 (pc' := 2062) (st' := [.int 1, .int (Int32.ofNat n), .ref 0, .ref 41]) (pm_q0_26 (Nat.le_of_ble_eq_true rfl)) rfl rfl ?_
  refine pm_R_op pm_M0 (pc' := 2063) (st' := [.int (Int32.ofNat (n + 1)), .ref 0, .ref 41]) (pm_q0_26 (Nat.le_of_ble_eq_true rfl)) (congrArg (fun z => some (Value.int z :: [.ref 0, .ref 41])) (p2_ad (n := n) (c := 1) (k := 1) rfl)) rfl ?_
  refine pm_R_iald pm_M0 (pc' := 2064) (v := x1) (pm_q0_26 (Nat.le_of_ble_eq_true rfl)) ((T.old (by decide)).trans e0) (T.lt (by decide)) (p2_in (by omega) hL) v1 rfl ?_
  refine pm_R_cv pm_M0 (pc' := 2067) (a := 41) (ra := [.int x1]) (rest := []) (ls' := [.ref 41, .int x1]) (pm_q0_26 (Nat.le_of_ble_eq_true rfl)) rfl (Or.inl rfl) pm_M294 Tr.2.1 rfl (by decide) (Nat.lt_of_lt_of_le (by decide) Tr.1) rfl rfl (Nat.le_of_ble_eq_true rfl) rfl rfl ?_
  refine ex_inj WW KK rfl ?_
  refine rf_c294 Tr (fun r2 m1 w1 h1 T1 F1 W1 => ?_)
  intro WW KK
  show pm_R 100 0 2067 [.ref 0, .ref 16, .ref 41, .int (Int32.ofNat n)] [.int r2] _ _
  have RR := R2_rf F1 (by decide) RR
  have I := p2_rf G T Y e0 S R hc T1 F1 (by decide)
  refine pm_R_op pm_M0 (pc' := 2068) (st' := []) (pm_q0_26 (Nat.le_of_ble_eq_true rfl)) rfl rfl ?_
  refine pm_R_br pm_M0 (pc' := 2117) (pm_q0_26 (Nat.le_of_ble_eq_true rfl)) rfl ?_
  exact K _ ⟨I, WW, KK, RR⟩
