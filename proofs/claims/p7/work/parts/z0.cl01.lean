set_option maxRecDepth 100000 in
set_option maxHeartbeats 4000000 in
theorem p6_k24 {L n j : Nat} {xs : Nat → Int32} {h : pm_H} {Q : Option Value → pm_H → Prop} (I : p6_I L xs j h) (hn : n + 7 ≤ L) (hL : L ≤ 3584) (K : ∀ h_q, p6_I L xs (j + 1) h_q → pm_R 100 0 2117 [.ref 0, .ref 16, .ref 41, .int (Int32.ofNat n)] [] h_q Q) : pm_R 100 0 1262 [.ref 0, .ref 16, .ref 41, .int (Int32.ofNat n)] [] h Q := by
  obtain ⟨x1, v1⟩ : ∃ y, xs (Int32.toNatClampNeg (Int32.ofNat (n + 1))) = y := ⟨_, rfl⟩
  obtain ⟨x2, v2⟩ : ∃ y, xs (Int32.toNatClampNeg (Int32.ofNat (n + 2))) = y := ⟨_, rfl⟩
  obtain ⟨x3, v3⟩ : ∃ y, xs (Int32.toNatClampNeg (Int32.ofNat (n + 3))) = y := ⟨_, rfl⟩
  obtain ⟨x4, v4⟩ : ∃ y, xs (Int32.toNatClampNeg (Int32.ofNat (n + 4))) = y := ⟨_, rfl⟩
  obtain ⟨x5, v5⟩ : ∃ y, xs (Int32.toNatClampNeg (Int32.ofNat (n + 5))) = y := ⟨_, rfl⟩
  obtain ⟨I, WW, KK, RR⟩ := I
  obtain ⟨ck, E, m, o, mr, wr, G, T, Tr, Y, e0, S, R, hc⟩ := I
  refine pm_R_lo pm_M0 (pc_q := 1263) (pm_q0_15 (Nat.le_of_ble_eq_true rfl)) rfl rfl ?_
  refine pm_R_lo pm_M0 (pc_q := 1264) (pm_q0_15 (Nat.le_of_ble_eq_true rfl)) rfl rfl ?_
  refine pm_R_lo pm_M0 (pc_q := 1265) (pm_q0_15 (Nat.le_of_ble_eq_true rfl)) rfl rfl ?_
  refine pm_R_op pm_M0 (pc_q := 1266) (st_q := [.int 1, .int (Int32.ofNat n), .ref 0, .ref 16]) (pm_q0_15 (Nat.le_of_ble_eq_true rfl)) rfl rfl ?_
  refine pm_R_op pm_M0 (pc_q := 1267) (st_q := [.int (Int32.ofNat (n + 1)), .ref 0, .ref 16]) (pm_q0_15 (Nat.le_of_ble_eq_true rfl)) (congrArg (fun z => some (Value.int z :: [.ref 0, .ref 16])) (p2_ad (n := n) (c := 1) (k := 1) rfl)) rfl ?_
  refine pm_R_iald pm_M0 (pc_q := 1268) (v := x1) (pm_q0_15 (Nat.le_of_ble_eq_true rfl)) ((T.old (by decide)).trans e0) (T.lt (by decide)) (p2_in (by omega) hL) v1 rfl ?_
  refine pm_R_lo pm_M0 (pc_q := 1269) (pm_q0_15 (Nat.le_of_ble_eq_true rfl)) rfl rfl ?_
  refine pm_R_lo pm_M0 (pc_q := 1270) (pm_q0_15 (Nat.le_of_ble_eq_true rfl)) rfl rfl ?_
  refine pm_R_op pm_M0 (pc_q := 1271) (st_q := [.int 2, .int (Int32.ofNat n), .ref 0, .int x1, .ref 16]) (pm_q0_15 (Nat.le_of_ble_eq_true rfl)) rfl rfl ?_
  refine pm_R_op pm_M0 (pc_q := 1272) (st_q := [.int (Int32.ofNat (n + 2)), .ref 0, .int x1, .ref 16]) (pm_q0_15 (Nat.le_of_ble_eq_true rfl)) (congrArg (fun z => some (Value.int z :: [.ref 0, .int x1, .ref 16])) (p2_ad (n := n) (c := 2) (k := 2) rfl)) rfl ?_
  refine pm_R_iald pm_M0 (pc_q := 1273) (v := x2) (pm_q0_15 (Nat.le_of_ble_eq_true rfl)) ((T.old (by decide)).trans e0) (T.lt (by decide)) (p2_in (by omega) hL) v2 rfl ?_
  refine pm_R_lo pm_M0 (pc_q := 1274) (pm_q0_15 (Nat.le_of_ble_eq_true rfl)) rfl rfl ?_
  refine pm_R_lo pm_M0 (pc_q := 1275) (pm_q0_15 (Nat.le_of_ble_eq_true rfl)) rfl rfl ?_
  refine pm_R_op pm_M0 (pc_q := 1276) (st_q := [.int 3, .int (Int32.ofNat n), .ref 0, .int x2, .int x1, .ref 16]) (pm_q0_15 (Nat.le_of_ble_eq_true rfl)) rfl rfl ?_
  refine pm_R_op pm_M0 (pc_q := 1277) (st_q := [.int (Int32.ofNat (n + 3)), .ref 0, .int x2, .int x1, .ref 16]) (pm_q0_15 (Nat.le_of_ble_eq_true rfl)) (congrArg (fun z => some (Value.int z :: [.ref 0, .int x2, .int x1, .ref 16])) (p2_ad (n := n) (c := 3) (k := 3) rfl)) rfl ?_
  refine pm_R_iald pm_M0 (pc_q := 1278) (v := x3) (pm_q0_15 (Nat.le_of_ble_eq_true rfl)) ((T.old (by decide)).trans e0) (T.lt (by decide)) (p2_in (by omega) hL) v3 rfl ?_
  refine pm_R_lo pm_M0 (pc_q := 1279) (pm_q0_15 (Nat.le_of_ble_eq_true rfl)) rfl rfl ?_
  refine pm_R_lo pm_M0 (pc_q := 1280) (pm_q0_15 (Nat.le_of_ble_eq_true rfl)) rfl rfl ?_
  refine pm_R_op pm_M0 (pc_q := 1281) (st_q := [.int 4, .int (Int32.ofNat n), .ref 0, .int x3, .int x2, .int x1, .ref 16]) (pm_q0_15 (Nat.le_of_ble_eq_true rfl)) rfl rfl ?_
  refine pm_R_op pm_M0 (pc_q := 1282) (st_q := [.int (Int32.ofNat (n + 4)), .ref 0, .int x3, .int x2, .int x1, .ref 16]) (pm_q0_15 (Nat.le_of_ble_eq_true rfl)) (congrArg (fun z => some (Value.int z :: [.ref 0, .int x3, .int x2, .int x1, .ref 16])) (p2_ad (n := n) (c := 4) (k := 4) rfl)) rfl ?_
  refine pm_R_iald pm_M0 (pc_q := 1283) (v := x4) (pm_q0_15 (Nat.le_of_ble_eq_true rfl)) ((T.old (by decide)).trans e0) (T.lt (by decide)) (p2_in (by omega) hL) v4 rfl ?_
  refine pm_R_lo pm_M0 (pc_q := 1284) (pm_q0_15 (Nat.le_of_ble_eq_true rfl)) rfl rfl ?_
  refine pm_R_lo pm_M0 (pc_q := 1285) (pm_q0_15 (Nat.le_of_ble_eq_true rfl)) rfl rfl ?_
  refine pm_R_op pm_M0 (pc_q := 1286) (st_q := [.int 5, .int (Int32.ofNat n), .ref 0, .int x4, .int x3, .int x2, .int x1, .ref 16]) (pm_q0_15 (Nat.le_of_ble_eq_true rfl)) rfl rfl ?_
  refine pm_R_op pm_M0 (pc_q := 1287) (st_q := [.int (Int32.ofNat (n + 5)), .ref 0, .int x4, .int x3, .int x2, .int x1, .ref 16]) (pm_q0_15 (Nat.le_of_ble_eq_true rfl)) (congrArg (fun z => some (Value.int z :: [.ref 0, .int x4, .int x3, .int x2, .int x1, .ref 16])) (p2_ad (n := n) (c := 5) (k := 5) rfl)) rfl ?_
  refine pm_R_iald pm_M0 (pc_q := 1288) (v := x5) (pm_q0_15 (Nat.le_of_ble_eq_true rfl)) ((T.old (by decide)).trans e0) (T.lt (by decide)) (p2_in (by omega) hL) v5 rfl ?_
  refine pm_R_cv pm_M0 (pc_q := 1291) (a := 16) (ra := [.int x5, .int x4, .int x3, .int x2, .int x1]) (rest := []) (ls_q := [.ref 16, .int x1, .int x2, .int x3, .int x4, .int x5, pm_no, pm_no]) (pm_q0_15 (Nat.le_of_ble_eq_true rfl)) rfl (Or.inl rfl) pm_M148 T.e16 rfl (by decide) (T.lt (by decide)) rfl rfl (Nat.le_of_ble_eq_true rfl) rfl rfl ?_
  refine ex_inj WW KK rfl ?_
  refine cl_c148 G T (fun r1 m1 h1 T1 F1 W1 _ => ?_)
  intro WW KK
  show pm_R 100 0 1291 [.ref 0, .ref 16, .ref 41, .int (Int32.ofNat n)] [.int r1] _ _
  have RR := R2_cl G T F1 (by decide) RR
  have I := p2_cl (j := j) G T Tr Y e0 S R hc T1 F1 (W1 0 (by decide)) (by decide) (by decide) (by decide) (by decide) (by decide) (by decide) (by decide)
  obtain ⟨ck, E, m, o, mr, wr, G, T, Tr, Y, e0, S, R, hc⟩ := I
  refine pm_R_op pm_M0 (pc_q := 1292) (st_q := []) (pm_q0_15 (Nat.le_of_ble_eq_true rfl)) rfl rfl ?_
  refine pm_R_lo pm_M0 (pc_q := 1293) (pm_q0_15 (Nat.le_of_ble_eq_true rfl)) rfl rfl ?_
  refine pm_R_lo pm_M0 (pc_q := 1294) (pm_q0_15 (Nat.le_of_ble_eq_true rfl)) rfl rfl ?_
  refine pm_R_lo pm_M0 (pc_q := 1295) (pm_q0_15 (Nat.le_of_ble_eq_true rfl)) rfl rfl ?_
  refine pm_R_op pm_M0 (pc_q := 1296) (st_q := [.int 1, .int (Int32.ofNat n), .ref 0, .ref 41]) (pm_q0_15 (Nat.le_of_ble_eq_true rfl)) rfl rfl ?_
  refine pm_R_op pm_M0 (pc_q := 1297) (st_q := [.int (Int32.ofNat (n + 1)), .ref 0, .ref 41]) (pm_q0_15 (Nat.le_of_ble_eq_true rfl)) (congrArg (fun z => some (Value.int z :: [.ref 0, .ref 41])) (p2_ad (n := n) (c := 1) (k := 1) rfl)) rfl ?_
  refine pm_R_iald pm_M0 (pc_q := 1298) (v := x1) (pm_q0_15 (Nat.le_of_ble_eq_true rfl)) ((T.old (by decide)).trans e0) (T.lt (by decide)) (p2_in (by omega) hL) v1 rfl ?_
  refine pm_R_lo pm_M0 (pc_q := 1299) (pm_q0_15 (Nat.le_of_ble_eq_true rfl)) rfl rfl ?_
  refine pm_R_lo pm_M0 (pc_q := 1300) (pm_q0_15 (Nat.le_of_ble_eq_true rfl)) rfl rfl ?_
  refine pm_R_op pm_M0 (pc_q := 1301) (st_q := [.int 2, .int (Int32.ofNat n), .ref 0, .int x1, .ref 41]) (pm_q0_15 (Nat.le_of_ble_eq_true rfl)) rfl rfl ?_
  refine pm_R_op pm_M0 (pc_q := 1302) (st_q := [.int (Int32.ofNat (n + 2)), .ref 0, .int x1, .ref 41]) (pm_q0_15 (Nat.le_of_ble_eq_true rfl)) (congrArg (fun z => some (Value.int z :: [.ref 0, .int x1, .ref 41])) (p2_ad (n := n) (c := 2) (k := 2) rfl)) rfl ?_
  refine pm_R_iald pm_M0 (pc_q := 1303) (v := x2) (pm_q0_15 (Nat.le_of_ble_eq_true rfl)) ((T.old (by decide)).trans e0) (T.lt (by decide)) (p2_in (by omega) hL) v2 rfl ?_
  refine pm_R_lo pm_M0 (pc_q := 1304) (pm_q0_15 (Nat.le_of_ble_eq_true rfl)) rfl rfl ?_
  refine pm_R_lo pm_M0 (pc_q := 1305) (pm_q0_15 (Nat.le_of_ble_eq_true rfl)) rfl rfl ?_
  refine pm_R_op pm_M0 (pc_q := 1306) (st_q := [.int 3, .int (Int32.ofNat n), .ref 0, .int x2, .int x1, .ref 41]) (pm_q0_15 (Nat.le_of_ble_eq_true rfl)) rfl rfl ?_
  refine pm_R_op pm_M0 (pc_q := 1307) (st_q := [.int (Int32.ofNat (n + 3)), .ref 0, .int x2, .int x1, .ref 41]) (pm_q0_15 (Nat.le_of_ble_eq_true rfl)) (congrArg (fun z => some (Value.int z :: [.ref 0, .int x2, .int x1, .ref 41])) (p2_ad (n := n) (c := 3) (k := 3) rfl)) rfl ?_
  refine pm_R_iald pm_M0 (pc_q := 1308) (v := x3) (pm_q0_15 (Nat.le_of_ble_eq_true rfl)) ((T.old (by decide)).trans e0) (T.lt (by decide)) (p2_in (by omega) hL) v3 rfl ?_
  refine pm_R_lo pm_M0 (pc_q := 1309) (pm_q0_15 (Nat.le_of_ble_eq_true rfl)) rfl rfl ?_
  refine pm_R_lo pm_M0 (pc_q := 1310) (pm_q0_15 (Nat.le_of_ble_eq_true rfl)) rfl rfl ?_
  refine pm_R_op pm_M0 (pc_q := 1311) (st_q := [.int 4, .int (Int32.ofNat n), .ref 0, .int x3, .int x2, .int x1, .ref 41]) (pm_q0_16 (Nat.le_of_ble_eq_true rfl)) rfl rfl ?_
  refine pm_R_op pm_M0 (pc_q := 1312) (st_q := [.int (Int32.ofNat (n + 4)), .ref 0, .int x3, .int x2, .int x1, .ref 41]) (pm_q0_16 (Nat.le_of_ble_eq_true rfl)) (congrArg (fun z => some (Value.int z :: [.ref 0, .int x3, .int x2, .int x1, .ref 41])) (p2_ad (n := n) (c := 4) (k := 4) rfl)) rfl ?_
  refine pm_R_iald pm_M0 (pc_q := 1313) (v := x4) (pm_q0_16 (Nat.le_of_ble_eq_true rfl)) ((T.old (by decide)).trans e0) (T.lt (by decide)) (p2_in (by omega) hL) v4 rfl ?_
  refine pm_R_lo pm_M0 (pc_q := 1314) (pm_q0_16 (Nat.le_of_ble_eq_true rfl)) rfl rfl ?_
  refine pm_R_lo pm_M0 (pc_q := 1315) (pm_q0_16 (Nat.le_of_ble_eq_true rfl)) rfl rfl ?_
  refine pm_R_op pm_M0 (pc_q := 1316) (st_q := [.int 5, .int (Int32.ofNat n), .ref 0, .int x4, .int x3, .int x2, .int x1, .ref 41]) (pm_q0_16 (Nat.le_of_ble_eq_true rfl)) rfl rfl ?_
  refine pm_R_op pm_M0 (pc_q := 1317) (st_q := [.int (Int32.ofNat (n + 5)), .ref 0, .int x4, .int x3, .int x2, .int x1, .ref 41]) (pm_q0_16 (Nat.le_of_ble_eq_true rfl)) (congrArg (fun z => some (Value.int z :: [.ref 0, .int x4, .int x3, .int x2, .int x1, .ref 41])) (p2_ad (n := n) (c := 5) (k := 5) rfl)) rfl ?_
  refine pm_R_iald pm_M0 (pc_q := 1318) (v := x5) (pm_q0_16 (Nat.le_of_ble_eq_true rfl)) ((T.old (by decide)).trans e0) (T.lt (by decide)) (p2_in (by omega) hL) v5 rfl ?_
  refine pm_R_cv pm_M0 (pc_q := 1321) (a := 41) (ra := [.int x5, .int x4, .int x3, .int x2, .int x1]) (rest := []) (ls_q := [.ref 41, .int x1, .int x2, .int x3, .int x4, .int x5]) (pm_q0_16 (Nat.le_of_ble_eq_true rfl)) rfl (Or.inl rfl) pm_M262 Tr.2.1 rfl (by decide) (Nat.lt_of_lt_of_le (by decide) Tr.1) rfl rfl (Nat.le_of_ble_eq_true rfl) rfl rfl ?_
  refine ex_inj WW KK rfl ?_
  refine rf_c262 Tr (fun r2 m1 w1 h1 T1 F1 W1 _ => ?_)
  intro WW KK
  show pm_R 100 0 1321 [.ref 0, .ref 16, .ref 41, .int (Int32.ofNat n)] [.int r2] _ _
  have RR := R2_rf F1 (by decide) RR
  have I := p2_rf G T Y e0 S R hc T1 F1 (by decide)
  refine pm_R_op pm_M0 (pc_q := 1322) (st_q := []) (pm_q0_16 (Nat.le_of_ble_eq_true rfl)) rfl rfl ?_
  refine pm_R_br pm_M0 (pc_q := 2117) (pm_q0_16 (Nat.le_of_ble_eq_true rfl)) rfl ?_
  exact K _ ⟨I, WW, KK, RR⟩

set_option maxRecDepth 100000 in
set_option maxHeartbeats 4000000 in
theorem p6_k25 {L n j : Nat} {xs : Nat → Int32} {h : pm_H} {Q : Option Value → pm_H → Prop} (I : p6_I L xs j h) (hn : n + 7 ≤ L) (hL : L ≤ 3584) (K : ∀ h_q, p6_I L xs (j + 1) h_q → pm_R 100 0 2117 [.ref 0, .ref 16, .ref 41, .int (Int32.ofNat n)] [] h_q Q) : pm_R 100 0 1325 [.ref 0, .ref 16, .ref 41, .int (Int32.ofNat n)] [] h Q := by
  obtain ⟨x1, v1⟩ : ∃ y, xs (Int32.toNatClampNeg (Int32.ofNat (n + 1))) = y := ⟨_, rfl⟩
  obtain ⟨x2, v2⟩ : ∃ y, xs (Int32.toNatClampNeg (Int32.ofNat (n + 2))) = y := ⟨_, rfl⟩
  obtain ⟨x3, v3⟩ : ∃ y, xs (Int32.toNatClampNeg (Int32.ofNat (n + 3))) = y := ⟨_, rfl⟩
  obtain ⟨I, WW, KK, RR⟩ := I
  obtain ⟨ck, E, m, o, mr, wr, G, T, Tr, Y, e0, S, R, hc⟩ := I
  refine pm_R_lo pm_M0 (pc_q := 1326) (pm_q0_16 (Nat.le_of_ble_eq_true rfl)) rfl rfl ?_
  refine pm_R_lo pm_M0 (pc_q := 1327) (pm_q0_16 (Nat.le_of_ble_eq_true rfl)) rfl rfl ?_
  refine pm_R_lo pm_M0 (pc_q := 1328) (pm_q0_16 (Nat.le_of_ble_eq_true rfl)) rfl rfl ?_
  refine pm_R_op pm_M0 (pc_q := 1329) (st_q := [.int 1, .int (Int32.ofNat n), .ref 0, .ref 16]) (pm_q0_16 (Nat.le_of_ble_eq_true rfl)) rfl rfl ?_
  refine pm_R_op pm_M0 (pc_q := 1330) (st_q := [.int (Int32.ofNat (n + 1)), .ref 0, .ref 16]) (pm_q0_16 (Nat.le_of_ble_eq_true rfl)) (congrArg (fun z => some (Value.int z :: [.ref 0, .ref 16])) (p2_ad (n := n) (c := 1) (k := 1) rfl)) rfl ?_
  refine pm_R_iald pm_M0 (pc_q := 1331) (v := x1) (pm_q0_16 (Nat.le_of_ble_eq_true rfl)) ((T.old (by decide)).trans e0) (T.lt (by decide)) (p2_in (by omega) hL) v1 rfl ?_
  refine pm_R_lo pm_M0 (pc_q := 1332) (pm_q0_16 (Nat.le_of_ble_eq_true rfl)) rfl rfl ?_
  refine pm_R_lo pm_M0 (pc_q := 1333) (pm_q0_16 (Nat.le_of_ble_eq_true rfl)) rfl rfl ?_
  refine pm_R_op pm_M0 (pc_q := 1334) (st_q := [.int 2, .int (Int32.ofNat n), .ref 0, .int x1, .ref 16]) (pm_q0_16 (Nat.le_of_ble_eq_true rfl)) rfl rfl ?_
  refine pm_R_op pm_M0 (pc_q := 1335) (st_q := [.int (Int32.ofNat (n + 2)), .ref 0, .int x1, .ref 16]) (pm_q0_16 (Nat.le_of_ble_eq_true rfl)) (congrArg (fun z => some (Value.int z :: [.ref 0, .int x1, .ref 16])) (p2_ad (n := n) (c := 2) (k := 2) rfl)) rfl ?_
  refine pm_R_iald pm_M0 (pc_q := 1336) (v := x2) (pm_q0_16 (Nat.le_of_ble_eq_true rfl)) ((T.old (by decide)).trans e0) (T.lt (by decide)) (p2_in (by omega) hL) v2 rfl ?_
  refine pm_R_lo pm_M0 (pc_q := 1337) (pm_q0_16 (Nat.le_of_ble_eq_true rfl)) rfl rfl ?_
  refine pm_R_lo pm_M0 (pc_q := 1338) (pm_q0_16 (Nat.le_of_ble_eq_true rfl)) rfl rfl ?_
  refine pm_R_op pm_M0 (pc_q := 1339) (st_q := [.int 3, .int (Int32.ofNat n), .ref 0, .int x2, .int x1, .ref 16]) (pm_q0_16 (Nat.le_of_ble_eq_true rfl)) rfl rfl ?_
  refine pm_R_op pm_M0 (pc_q := 1340) (st_q := [.int (Int32.ofNat (n + 3)), .ref 0, .int x2, .int x1, .ref 16]) (pm_q0_16 (Nat.le_of_ble_eq_true rfl)) (congrArg (fun z => some (Value.int z :: [.ref 0, .int x2, .int x1, .ref 16])) (p2_ad (n := n) (c := 3) (k := 3) rfl)) rfl ?_
  refine pm_R_iald pm_M0 (pc_q := 1341) (v := x3) (pm_q0_16 (Nat.le_of_ble_eq_true rfl)) ((T.old (by decide)).trans e0) (T.lt (by decide)) (p2_in (by omega) hL) v3 rfl ?_
  refine pm_R_cv pm_M0 (pc_q := 1344) (a := 16) (ra := [.int x3, .int x2, .int x1]) (rest := []) (ls_q := [.ref 16, .int x1, .int x2, .int x3, pm_no, pm_no, pm_no, pm_no, pm_no, pm_no]) (pm_q0_16 (Nat.le_of_ble_eq_true rfl)) rfl (Or.inl rfl) pm_M150 T.e16 rfl (by decide) (T.lt (by decide)) rfl rfl (Nat.le_of_ble_eq_true rfl) rfl rfl ?_
  refine ex_inj WW KK rfl ?_
  refine cl_c150 G T (fun r1 m1 h1 T1 F1 W1 => ?_)
  intro WW KK
  show pm_R 100 0 1344 [.ref 0, .ref 16, .ref 41, .int (Int32.ofNat n)] [.int r1] _ _
  have RR := R2_cl G T F1 (by decide) RR
  have I := p2_cl (j := j) G T Tr Y e0 S R hc T1 F1 (W1 0 (by decide)) (by decide) (by decide) (by decide) (by decide) (by decide) (by decide) (by decide)
  obtain ⟨ck, E, m, o, mr, wr, G, T, Tr, Y, e0, S, R, hc⟩ := I
  refine pm_R_op pm_M0 (pc_q := 1345) (st_q := []) (pm_q0_16 (Nat.le_of_ble_eq_true rfl)) rfl rfl ?_
  refine pm_R_lo pm_M0 (pc_q := 1346) (pm_q0_16 (Nat.le_of_ble_eq_true rfl)) rfl rfl ?_
  refine pm_R_lo pm_M0 (pc_q := 1347) (pm_q0_16 (Nat.le_of_ble_eq_true rfl)) rfl rfl ?_
  refine pm_R_lo pm_M0 (pc_q := 1348) (pm_q0_16 (Nat.le_of_ble_eq_true rfl)) rfl rfl ?_
  refine pm_R_op pm_M0 (pc_q := 1349) (st_q := [.int 1, .int (Int32.ofNat n), .ref 0, .ref 41]) (pm_q0_16 (Nat.le_of_ble_eq_true rfl)) rfl rfl ?_
  refine pm_R_op pm_M0 (pc_q := 1350) (st_q := [.int (Int32.ofNat (n + 1)), .ref 0, .ref 41]) (pm_q0_16 (Nat.le_of_ble_eq_true rfl)) (congrArg (fun z => some (Value.int z :: [.ref 0, .ref 41])) (p2_ad (n := n) (c := 1) (k := 1) rfl)) rfl ?_
  refine pm_R_iald pm_M0 (pc_q := 1351) (v := x1) (pm_q0_16 (Nat.le_of_ble_eq_true rfl)) ((T.old (by decide)).trans e0) (T.lt (by decide)) (p2_in (by omega) hL) v1 rfl ?_
  refine pm_R_lo pm_M0 (pc_q := 1352) (pm_q0_16 (Nat.le_of_ble_eq_true rfl)) rfl rfl ?_
  refine pm_R_lo pm_M0 (pc_q := 1353) (pm_q0_16 (Nat.le_of_ble_eq_true rfl)) rfl rfl ?_
  refine pm_R_op pm_M0 (pc_q := 1354) (st_q := [.int 2, .int (Int32.ofNat n), .ref 0, .int x1, .ref 41]) (pm_q0_16 (Nat.le_of_ble_eq_true rfl)) rfl rfl ?_
  refine pm_R_op pm_M0 (pc_q := 1355) (st_q := [.int (Int32.ofNat (n + 2)), .ref 0, .int x1, .ref 41]) (pm_q0_16 (Nat.le_of_ble_eq_true rfl)) (congrArg (fun z => some (Value.int z :: [.ref 0, .int x1, .ref 41])) (p2_ad (n := n) (c := 2) (k := 2) rfl)) rfl ?_
  refine pm_R_iald pm_M0 (pc_q := 1356) (v := x2) (pm_q0_16 (Nat.le_of_ble_eq_true rfl)) ((T.old (by decide)).trans e0) (T.lt (by decide)) (p2_in (by omega) hL) v2 rfl ?_
  refine pm_R_lo pm_M0 (pc_q := 1357) (pm_q0_16 (Nat.le_of_ble_eq_true rfl)) rfl rfl ?_
  refine pm_R_lo pm_M0 (pc_q := 1358) (pm_q0_16 (Nat.le_of_ble_eq_true rfl)) rfl rfl ?_
  refine pm_R_op pm_M0 (pc_q := 1359) (st_q := [.int 3, .int (Int32.ofNat n), .ref 0, .int x2, .int x1, .ref 41]) (pm_q0_16 (Nat.le_of_ble_eq_true rfl)) rfl rfl ?_
  refine pm_R_op pm_M0 (pc_q := 1360) (st_q := [.int (Int32.ofNat (n + 3)), .ref 0, .int x2, .int x1, .ref 41]) (pm_q0_16 (Nat.le_of_ble_eq_true rfl)) (congrArg (fun z => some (Value.int z :: [.ref 0, .int x2, .int x1, .ref 41])) (p2_ad (n := n) (c := 3) (k := 3) rfl)) rfl ?_
  refine pm_R_iald pm_M0 (pc_q := 1361) (v := x3) (pm_q0_16 (Nat.le_of_ble_eq_true rfl)) ((T.old (by decide)).trans e0) (T.lt (by decide)) (p2_in (by omega) hL) v3 rfl ?_
  refine pm_R_cv pm_M0 (pc_q := 1364) (a := 41) (ra := [.int x3, .int x2, .int x1]) (rest := []) (ls_q := [.ref 41, .int x1, .int x2, .int x3, pm_no, pm_no, pm_no, pm_no, pm_no]) (pm_q0_16 (Nat.le_of_ble_eq_true rfl)) rfl (Or.inl rfl) pm_M264 Tr.2.1 rfl (by decide) (Nat.lt_of_lt_of_le (by decide) Tr.1) rfl rfl (Nat.le_of_ble_eq_true rfl) rfl rfl ?_
  refine ex_inj WW KK rfl ?_
  refine rf_c264 Tr (fun r2 m1 w1 h1 T1 F1 W1 => ?_)
  intro WW KK
  show pm_R 100 0 1364 [.ref 0, .ref 16, .ref 41, .int (Int32.ofNat n)] [.int r2] _ _
  have RR := R2_rf F1 (by decide) RR
  have I := p2_rf G T Y e0 S R hc T1 F1 (by decide)
  refine pm_R_op pm_M0 (pc_q := 1365) (st_q := []) (pm_q0_16 (Nat.le_of_ble_eq_true rfl)) rfl rfl ?_
  refine pm_R_br pm_M0 (pc_q := 2117) (pm_q0_16 (Nat.le_of_ble_eq_true rfl)) rfl ?_
  exact K _ ⟨I, WW, KK, RR⟩

set_option maxRecDepth 100000 in
set_option maxHeartbeats 4000000 in
theorem p6_k26 {L n j : Nat} {xs : Nat → Int32} {h : pm_H} {Q : Option Value → pm_H → Prop} (I : p6_I L xs j h) (hn : n + 7 ≤ L) (hL : L ≤ 3584) (K : ∀ h_q, p6_I L xs (j + 1) h_q → pm_R 100 0 2117 [.ref 0, .ref 16, .ref 41, .int (Int32.ofNat n)] [] h_q Q) : pm_R 100 0 1368 [.ref 0, .ref 16, .ref 41, .int (Int32.ofNat n)] [] h Q := by
  obtain ⟨x1, v1⟩ : ∃ y, xs (Int32.toNatClampNeg (Int32.ofNat (n + 1))) = y := ⟨_, rfl⟩
  obtain ⟨x2, v2⟩ : ∃ y, xs (Int32.toNatClampNeg (Int32.ofNat (n + 2))) = y := ⟨_, rfl⟩
  obtain ⟨x3, v3⟩ : ∃ y, xs (Int32.toNatClampNeg (Int32.ofNat (n + 3))) = y := ⟨_, rfl⟩
  obtain ⟨I, WW, KK, RR⟩ := I
  obtain ⟨ck, E, m, o, mr, wr, G, T, Tr, Y, e0, S, R, hc⟩ := I
  refine pm_R_lo pm_M0 (pc_q := 1369) (pm_q0_16 (Nat.le_of_ble_eq_true rfl)) rfl rfl ?_
  refine pm_R_lo pm_M0 (pc_q := 1370) (pm_q0_16 (Nat.le_of_ble_eq_true rfl)) rfl rfl ?_
  refine pm_R_lo pm_M0 (pc_q := 1371) (pm_q0_16 (Nat.le_of_ble_eq_true rfl)) rfl rfl ?_
  refine pm_R_op pm_M0 (pc_q := 1372) (st_q := [.int 1, .int (Int32.ofNat n), .ref 0, .ref 16]) (pm_q0_16 (Nat.le_of_ble_eq_true rfl)) rfl rfl ?_
  refine pm_R_op pm_M0 (pc_q := 1373) (st_q := [.int (Int32.ofNat (n + 1)), .ref 0, .ref 16]) (pm_q0_16 (Nat.le_of_ble_eq_true rfl)) (congrArg (fun z => some (Value.int z :: [.ref 0, .ref 16])) (p2_ad (n := n) (c := 1) (k := 1) rfl)) rfl ?_
  refine pm_R_iald pm_M0 (pc_q := 1374) (v := x1) (pm_q0_16 (Nat.le_of_ble_eq_true rfl)) ((T.old (by decide)).trans e0) (T.lt (by decide)) (p2_in (by omega) hL) v1 rfl ?_
  refine pm_R_lo pm_M0 (pc_q := 1375) (pm_q0_16 (Nat.le_of_ble_eq_true rfl)) rfl rfl ?_
  refine pm_R_lo pm_M0 (pc_q := 1376) (pm_q0_16 (Nat.le_of_ble_eq_true rfl)) rfl rfl ?_
  refine pm_R_op pm_M0 (pc_q := 1377) (st_q := [.int 2, .int (Int32.ofNat n), .ref 0, .int x1, .ref 16]) (pm_q0_16 (Nat.le_of_ble_eq_true rfl)) rfl rfl ?_
  refine pm_R_op pm_M0 (pc_q := 1378) (st_q := [.int (Int32.ofNat (n + 2)), .ref 0, .int x1, .ref 16]) (pm_q0_16 (Nat.le_of_ble_eq_true rfl)) (congrArg (fun z => some (Value.int z :: [.ref 0, .int x1, .ref 16])) (p2_ad (n := n) (c := 2) (k := 2) rfl)) rfl ?_
  refine pm_R_iald pm_M0 (pc_q := 1379) (v := x2) (pm_q0_16 (Nat.le_of_ble_eq_true rfl)) ((T.old (by decide)).trans e0) (T.lt (by decide)) (p2_in (by omega) hL) v2 rfl ?_
  refine pm_R_lo pm_M0 (pc_q := 1380) (pm_q0_16 (Nat.le_of_ble_eq_true rfl)) rfl rfl ?_
  refine pm_R_lo pm_M0 (pc_q := 1381) (pm_q0_17 (Nat.le_of_ble_eq_true rfl)) rfl rfl ?_
  refine pm_R_op pm_M0 (pc_q := 1382) (st_q := [.int 3, .int (Int32.ofNat n), .ref 0, .int x2, .int x1, .ref 16]) (pm_q0_17 (Nat.le_of_ble_eq_true rfl)) rfl rfl ?_
  refine pm_R_op pm_M0 (pc_q := 1383) (st_q := [.int (Int32.ofNat (n + 3)), .ref 0, .int x2, .int x1, .ref 16]) (pm_q0_17 (Nat.le_of_ble_eq_true rfl)) (congrArg (fun z => some (Value.int z :: [.ref 0, .int x2, .int x1, .ref 16])) (p2_ad (n := n) (c := 3) (k := 3) rfl)) rfl ?_
  refine pm_R_iald pm_M0 (pc_q := 1384) (v := x3) (pm_q0_17 (Nat.le_of_ble_eq_true rfl)) ((T.old (by decide)).trans e0) (T.lt (by decide)) (p2_in (by omega) hL) v3 rfl ?_
  refine pm_R_cv pm_M0 (pc_q := 1387) (a := 16) (ra := [.int x3, .int x2, .int x1]) (rest := []) (ls_q := [.ref 16, .int x1, .int x2, .int x3]) (pm_q0_17 (Nat.le_of_ble_eq_true rfl)) rfl (Or.inl rfl) pm_M151 T.e16 rfl (by decide) (T.lt (by decide)) rfl rfl (Nat.le_of_ble_eq_true rfl) rfl rfl ?_
  refine ex_inj WW KK rfl ?_
  refine cl_c151 G T (fun r1 _ => ?_)
  intro WW KK
  show pm_R 100 0 1387 [.ref 0, .ref 16, .ref 41, .int (Int32.ofNat n)] [.int r1] _ _
  have I := p2_up (⟨ck, E, m, o, mr, wr, G, T, Tr, Y, e0, S, R, hc⟩ : p2_I L xs j h)
  obtain ⟨ck, E, m, o, mr, wr, G, T, Tr, Y, e0, S, R, hc⟩ := I
  refine pm_R_op pm_M0 (pc_q := 1388) (st_q := []) (pm_q0_17 (Nat.le_of_ble_eq_true rfl)) rfl rfl ?_
  refine pm_R_lo pm_M0 (pc_q := 1389) (pm_q0_17 (Nat.le_of_ble_eq_true rfl)) rfl rfl ?_
  refine pm_R_lo pm_M0 (pc_q := 1390) (pm_q0_17 (Nat.le_of_ble_eq_true rfl)) rfl rfl ?_
  refine pm_R_lo pm_M0 (pc_q := 1391) (pm_q0_17 (Nat.le_of_ble_eq_true rfl)) rfl rfl ?_
  refine pm_R_op pm_M0 (pc_q := 1392) (st_q := [.int 1, .int (Int32.ofNat n), .ref 0, .ref 41]) (pm_q0_17 (Nat.le_of_ble_eq_true rfl)) rfl rfl ?_
  refine pm_R_op pm_M0 (pc_q := 1393) (st_q := [.int (Int32.ofNat (n + 1)), .ref 0, .ref 41]) (pm_q0_17 (Nat.le_of_ble_eq_true rfl)) (congrArg (fun z => some (Value.int z :: [.ref 0, .ref 41])) (p2_ad (n := n) (c := 1) (k := 1) rfl)) rfl ?_
  refine pm_R_iald pm_M0 (pc_q := 1394) (v := x1) (pm_q0_17 (Nat.le_of_ble_eq_true rfl)) ((T.old (by decide)).trans e0) (T.lt (by decide)) (p2_in (by omega) hL) v1 rfl ?_
  refine pm_R_lo pm_M0 (pc_q := 1395) (pm_q0_17 (Nat.le_of_ble_eq_true rfl)) rfl rfl ?_
  refine pm_R_lo pm_M0 (pc_q := 1396) (pm_q0_17 (Nat.le_of_ble_eq_true rfl)) rfl rfl ?_
  refine pm_R_op pm_M0 (pc_q := 1397) (st_q := [.int 2, .int (Int32.ofNat n), .ref 0, .int x1, .ref 41]) (pm_q0_17 (Nat.le_of_ble_eq_true rfl)) rfl rfl ?_
  refine pm_R_op pm_M0 (pc_q := 1398) (st_q := [.int (Int32.ofNat (n + 2)), .ref 0, .int x1, .ref 41]) (pm_q0_17 (Nat.le_of_ble_eq_true rfl)) (congrArg (fun z => some (Value.int z :: [.ref 0, .int x1, .ref 41])) (p2_ad (n := n) (c := 2) (k := 2) rfl)) rfl ?_
  refine pm_R_iald pm_M0 (pc_q := 1399) (v := x2) (pm_q0_17 (Nat.le_of_ble_eq_true rfl)) ((T.old (by decide)).trans e0) (T.lt (by decide)) (p2_in (by omega) hL) v2 rfl ?_
  refine pm_R_lo pm_M0 (pc_q := 1400) (pm_q0_17 (Nat.le_of_ble_eq_true rfl)) rfl rfl ?_
  refine pm_R_lo pm_M0 (pc_q := 1401) (pm_q0_17 (Nat.le_of_ble_eq_true rfl)) rfl rfl ?_
  refine pm_R_op pm_M0 (pc_q := 1402) (st_q := [.int 3, .int (Int32.ofNat n), .ref 0, .int x2, .int x1, .ref 41]) (pm_q0_17 (Nat.le_of_ble_eq_true rfl)) rfl rfl ?_
  refine pm_R_op pm_M0 (pc_q := 1403) (st_q := [.int (Int32.ofNat (n + 3)), .ref 0, .int x2, .int x1, .ref 41]) (pm_q0_17 (Nat.le_of_ble_eq_true rfl)) (congrArg (fun z => some (Value.int z :: [.ref 0, .int x2, .int x1, .ref 41])) (p2_ad (n := n) (c := 3) (k := 3) rfl)) rfl ?_
  refine pm_R_iald pm_M0 (pc_q := 1404) (v := x3) (pm_q0_17 (Nat.le_of_ble_eq_true rfl)) ((T.old (by decide)).trans e0) (T.lt (by decide)) (p2_in (by omega) hL) v3 rfl ?_
  refine pm_R_cv pm_M0 (pc_q := 1407) (a := 41) (ra := [.int x3, .int x2, .int x1]) (rest := []) (ls_q := [.ref 41, .int x1, .int x2, .int x3]) (pm_q0_17 (Nat.le_of_ble_eq_true rfl)) rfl (Or.inl rfl) pm_M265 Tr.2.1 rfl (by decide) (Nat.lt_of_lt_of_le (by decide) Tr.1) rfl rfl (Nat.le_of_ble_eq_true rfl) rfl rfl ?_
  refine ex_inj WW KK rfl ?_
  refine rf_c265 Tr (fun r2 m1 w1 h1 T1 F1 W1 _ => ?_)
  intro WW KK
  show pm_R 100 0 1407 [.ref 0, .ref 16, .ref 41, .int (Int32.ofNat n)] [.int r2] _ _
  have RR := R2_rf F1 (by decide) RR
  have I := p2_rf G T Y e0 S R hc T1 F1 (by decide)
  refine pm_R_op pm_M0 (pc_q := 1408) (st_q := []) (pm_q0_17 (Nat.le_of_ble_eq_true rfl)) rfl rfl ?_
  refine pm_R_br pm_M0 (pc_q := 2117) (pm_q0_17 (Nat.le_of_ble_eq_true rfl)) rfl ?_
  exact K _ ⟨I, WW, KK, RR⟩

set_option maxRecDepth 100000 in
set_option maxHeartbeats 4000000 in
theorem p6_k27 {L n j : Nat} {xs : Nat → Int32} {h : pm_H} {Q : Option Value → pm_H → Prop} (I : p6_I L xs j h) (hn : n + 7 ≤ L) (hL : L ≤ 3584) (K : ∀ h_q, p6_I L xs (j + 1) h_q → pm_R 100 0 2117 [.ref 0, .ref 16, .ref 41, .int (Int32.ofNat n)] [] h_q Q) : pm_R 100 0 1411 [.ref 0, .ref 16, .ref 41, .int (Int32.ofNat n)] [] h Q := by
  obtain ⟨x1, v1⟩ : ∃ y, xs (Int32.toNatClampNeg (Int32.ofNat (n + 1))) = y := ⟨_, rfl⟩
  obtain ⟨x2, v2⟩ : ∃ y, xs (Int32.toNatClampNeg (Int32.ofNat (n + 2))) = y := ⟨_, rfl⟩
  obtain ⟨x3, v3⟩ : ∃ y, xs (Int32.toNatClampNeg (Int32.ofNat (n + 3))) = y := ⟨_, rfl⟩
  obtain ⟨x4, v4⟩ : ∃ y, xs (Int32.toNatClampNeg (Int32.ofNat (n + 4))) = y := ⟨_, rfl⟩
  obtain ⟨x5, v5⟩ : ∃ y, xs (Int32.toNatClampNeg (Int32.ofNat (n + 5))) = y := ⟨_, rfl⟩
  obtain ⟨I, WW, KK, RR⟩ := I
  obtain ⟨ck, E, m, o, mr, wr, G, T, Tr, Y, e0, S, R, hc⟩ := I
  refine pm_R_lo pm_M0 (pc_q := 1412) (pm_q0_17 (Nat.le_of_ble_eq_true rfl)) rfl rfl ?_
  refine pm_R_lo pm_M0 (pc_q := 1413) (pm_q0_17 (Nat.le_of_ble_eq_true rfl)) rfl rfl ?_
  refine pm_R_lo pm_M0 (pc_q := 1414) (pm_q0_17 (Nat.le_of_ble_eq_true rfl)) rfl rfl ?_
  refine pm_R_op pm_M0 (pc_q := 1415) (st_q := [.int 1, .int (Int32.ofNat n), .ref 0, .ref 16]) (pm_q0_17 (Nat.le_of_ble_eq_true rfl)) rfl rfl ?_
  refine pm_R_op pm_M0 (pc_q := 1416) (st_q := [.int (Int32.ofNat (n + 1)), .ref 0, .ref 16]) (pm_q0_17 (Nat.le_of_ble_eq_true rfl)) (congrArg (fun z => some (Value.int z :: [.ref 0, .ref 16])) (p2_ad (n := n) (c := 1) (k := 1) rfl)) rfl ?_
  refine pm_R_iald pm_M0 (pc_q := 1417) (v := x1) (pm_q0_17 (Nat.le_of_ble_eq_true rfl)) ((T.old (by decide)).trans e0) (T.lt (by decide)) (p2_in (by omega) hL) v1 rfl ?_
  refine pm_R_lo pm_M0 (pc_q := 1418) (pm_q0_17 (Nat.le_of_ble_eq_true rfl)) rfl rfl ?_
  refine pm_R_lo pm_M0 (pc_q := 1419) (pm_q0_17 (Nat.le_of_ble_eq_true rfl)) rfl rfl ?_
  refine pm_R_op pm_M0 (pc_q := 1420) (st_q := [.int 2, .int (Int32.ofNat n), .ref 0, .int x1, .ref 16]) (pm_q0_17 (Nat.le_of_ble_eq_true rfl)) rfl rfl ?_
  refine pm_R_op pm_M0 (pc_q := 1421) (st_q := [.int (Int32.ofNat (n + 2)), .ref 0, .int x1, .ref 16]) (pm_q0_17 (Nat.le_of_ble_eq_true rfl)) (congrArg (fun z => some (Value.int z :: [.ref 0, .int x1, .ref 16])) (p2_ad (n := n) (c := 2) (k := 2) rfl)) rfl ?_
  refine pm_R_iald pm_M0 (pc_q := 1422) (v := x2) (pm_q0_17 (Nat.le_of_ble_eq_true rfl)) ((T.old (by decide)).trans e0) (T.lt (by decide)) (p2_in (by omega) hL) v2 rfl ?_
  refine pm_R_lo pm_M0 (pc_q := 1423) (pm_q0_17 (Nat.le_of_ble_eq_true rfl)) rfl rfl ?_
  refine pm_R_lo pm_M0 (pc_q := 1424) (pm_q0_17 (Nat.le_of_ble_eq_true rfl)) rfl rfl ?_
  refine pm_R_op pm_M0 (pc_q := 1425) (st_q := [.int 3, .int (Int32.ofNat n), .ref 0, .int x2, .int x1, .ref 16]) (pm_q0_17 (Nat.le_of_ble_eq_true rfl)) rfl rfl ?_
  refine pm_R_op pm_M0 (pc_q := 1426) (st_q := [.int (Int32.ofNat (n + 3)), .ref 0, .int x2, .int x1, .ref 16]) (pm_q0_17 (Nat.le_of_ble_eq_true rfl)) (congrArg (fun z => some (Value.int z :: [.ref 0, .int x2, .int x1, .ref 16])) (p2_ad (n := n) (c := 3) (k := 3) rfl)) rfl ?_
  refine pm_R_iald pm_M0 (pc_q := 1427) (v := x3) (pm_q0_17 (Nat.le_of_ble_eq_true rfl)) ((T.old (by decide)).trans e0) (T.lt (by decide)) (p2_in (by omega) hL) v3 rfl ?_
  refine pm_R_lo pm_M0 (pc_q := 1428) (pm_q0_17 (Nat.le_of_ble_eq_true rfl)) rfl rfl ?_
  refine pm_R_lo pm_M0 (pc_q := 1429) (pm_q0_17 (Nat.le_of_ble_eq_true rfl)) rfl rfl ?_
  refine pm_R_op pm_M0 (pc_q := 1430) (st_q := [.int 4, .int (Int32.ofNat n), .ref 0, .int x3, .int x2, .int x1, .ref 16]) (pm_q0_17 (Nat.le_of_ble_eq_true rfl)) rfl rfl ?_
  refine pm_R_op pm_M0 (pc_q := 1431) (st_q := [.int (Int32.ofNat (n + 4)), .ref 0, .int x3, .int x2, .int x1, .ref 16]) (pm_q0_17 (Nat.le_of_ble_eq_true rfl)) (congrArg (fun z => some (Value.int z :: [.ref 0, .int x3, .int x2, .int x1, .ref 16])) (p2_ad (n := n) (c := 4) (k := 4) rfl)) rfl ?_
  refine pm_R_iald pm_M0 (pc_q := 1432) (v := x4) (pm_q0_17 (Nat.le_of_ble_eq_true rfl)) ((T.old (by decide)).trans e0) (T.lt (by decide)) (p2_in (by omega) hL) v4 rfl ?_
  refine pm_R_lo pm_M0 (pc_q := 1433) (pm_q0_17 (Nat.le_of_ble_eq_true rfl)) rfl rfl ?_
  refine pm_R_lo pm_M0 (pc_q := 1434) (pm_q0_17 (Nat.le_of_ble_eq_true rfl)) rfl rfl ?_
  refine pm_R_op pm_M0 (pc_q := 1435) (st_q := [.int 5, .int (Int32.ofNat n), .ref 0, .int x4, .int x3, .int x2, .int x1, .ref 16]) (pm_q0_17 (Nat.le_of_ble_eq_true rfl)) rfl rfl ?_
  refine pm_R_op pm_M0 (pc_q := 1436) (st_q := [.int (Int32.ofNat (n + 5)), .ref 0, .int x4, .int x3, .int x2, .int x1, .ref 16]) (pm_q0_17 (Nat.le_of_ble_eq_true rfl)) (congrArg (fun z => some (Value.int z :: [.ref 0, .int x4, .int x3, .int x2, .int x1, .ref 16])) (p2_ad (n := n) (c := 5) (k := 5) rfl)) rfl ?_
  refine pm_R_iald pm_M0 (pc_q := 1437) (v := x5) (pm_q0_17 (Nat.le_of_ble_eq_true rfl)) ((T.old (by decide)).trans e0) (T.lt (by decide)) (p2_in (by omega) hL) v5 rfl ?_
  refine pm_R_cv pm_M0 (pc_q := 1440) (a := 16) (ra := [.int x5, .int x4, .int x3, .int x2, .int x1]) (rest := []) (ls_q := [.ref 16, .int x1, .int x2, .int x3, .int x4, .int x5, pm_no, pm_no, pm_no, pm_no, pm_no]) (pm_q0_17 (Nat.le_of_ble_eq_true rfl)) rfl (Or.inl rfl) pm_M155 T.e16 rfl (by decide) (T.lt (by decide)) rfl rfl (Nat.le_of_ble_eq_true rfl) rfl rfl ?_
  refine ex_inj WW KK rfl ?_
  refine cl_c155 G T (fun r1 m1 h1 T1 F1 W1 _ => ?_)
  intro WW KK
  show pm_R 100 0 1440 [.ref 0, .ref 16, .ref 41, .int (Int32.ofNat n)] [.int r1] _ _
  have RR := R2_cl G T F1 (by decide) RR
  have I := p2_cl (j := j) G T Tr Y e0 S R hc T1 F1 (W1 0 (by decide)) (by decide) (by decide) (by decide) (by decide) (by decide) (by decide) (by decide)
  obtain ⟨ck, E, m, o, mr, wr, G, T, Tr, Y, e0, S, R, hc⟩ := I
  refine pm_R_op pm_M0 (pc_q := 1441) (st_q := []) (pm_q0_17 (Nat.le_of_ble_eq_true rfl)) rfl rfl ?_
  refine pm_R_lo pm_M0 (pc_q := 1442) (pm_q0_17 (Nat.le_of_ble_eq_true rfl)) rfl rfl ?_
  refine pm_R_lo pm_M0 (pc_q := 1443) (pm_q0_17 (Nat.le_of_ble_eq_true rfl)) rfl rfl ?_
  refine pm_R_lo pm_M0 (pc_q := 1444) (pm_q0_17 (Nat.le_of_ble_eq_true rfl)) rfl rfl ?_
  refine pm_R_op pm_M0 (pc_q := 1445) (st_q := [.int 1, .int (Int32.ofNat n), .ref 0, .ref 41]) (pm_q0_17 (Nat.le_of_ble_eq_true rfl)) rfl rfl ?_
  refine pm_R_op pm_M0 (pc_q := 1446) (st_q := [.int (Int32.ofNat (n + 1)), .ref 0, .ref 41]) (pm_q0_17 (Nat.le_of_ble_eq_true rfl)) (congrArg (fun z => some (Value.int z :: [.ref 0, .ref 41])) (p2_ad (n := n) (c := 1) (k := 1) rfl)) rfl ?_
  refine pm_R_iald pm_M0 (pc_q := 1447) (v := x1) (pm_q0_17 (Nat.le_of_ble_eq_true rfl)) ((T.old (by decide)).trans e0) (T.lt (by decide)) (p2_in (by omega) hL) v1 rfl ?_
  refine pm_R_lo pm_M0 (pc_q := 1448) (pm_q0_17 (Nat.le_of_ble_eq_true rfl)) rfl rfl ?_
  refine pm_R_lo pm_M0 (pc_q := 1449) (pm_q0_18 (Nat.le_of_ble_eq_true rfl)) rfl rfl ?_
  refine pm_R_op pm_M0 (pc_q := 1450) (st_q := [.int 2, .int (Int32.ofNat n), .ref 0, .int x1, .ref 41]) (pm_q0_18 (Nat.le_of_ble_eq_true rfl)) rfl rfl ?_
  refine pm_R_op pm_M0 (pc_q := 1451) (st_q := [.int (Int32.ofNat (n + 2)), .ref 0, .int x1, .ref 41]) (pm_q0_18 (Nat.le_of_ble_eq_true rfl)) (congrArg (fun z => some (Value.int z :: [.ref 0, .int x1, .ref 41])) (p2_ad (n := n) (c := 2) (k := 2) rfl)) rfl ?_
  refine pm_R_iald pm_M0 (pc_q := 1452) (v := x2) (pm_q0_18 (Nat.le_of_ble_eq_true rfl)) ((T.old (by decide)).trans e0) (T.lt (by decide)) (p2_in (by omega) hL) v2 rfl ?_
  refine pm_R_lo pm_M0 (pc_q := 1453) (pm_q0_18 (Nat.le_of_ble_eq_true rfl)) rfl rfl ?_
  refine pm_R_lo pm_M0 (pc_q := 1454) (pm_q0_18 (Nat.le_of_ble_eq_true rfl)) rfl rfl ?_
  refine pm_R_op pm_M0 (pc_q := 1455) (st_q := [.int 3, .int (Int32.ofNat n), .ref 0, .int x2, .int x1, .ref 41]) (pm_q0_18 (Nat.le_of_ble_eq_true rfl)) rfl rfl ?_
  refine pm_R_op pm_M0 (pc_q := 1456) (st_q := [.int (Int32.ofNat (n + 3)), .ref 0, .int x2, .int x1, .ref 41]) (pm_q0_18 (Nat.le_of_ble_eq_true rfl)) (congrArg (fun z => some (Value.int z :: [.ref 0, .int x2, .int x1, .ref 41])) (p2_ad (n := n) (c := 3) (k := 3) rfl)) rfl ?_
  refine pm_R_iald pm_M0 (pc_q := 1457) (v := x3) (pm_q0_18 (Nat.le_of_ble_eq_true rfl)) ((T.old (by decide)).trans e0) (T.lt (by decide)) (p2_in (by omega) hL) v3 rfl ?_
  refine pm_R_lo pm_M0 (pc_q := 1458) (pm_q0_18 (Nat.le_of_ble_eq_true rfl)) rfl rfl ?_
  refine pm_R_lo pm_M0 (pc_q := 1459) (pm_q0_18 (Nat.le_of_ble_eq_true rfl)) rfl rfl ?_
  refine pm_R_op pm_M0 (pc_q := 1460) (st_q := [.int 4, .int (Int32.ofNat n), .ref 0, .int x3, .int x2, .int x1, .ref 41]) (pm_q0_18 (Nat.le_of_ble_eq_true rfl)) rfl rfl ?_
  refine pm_R_op pm_M0 (pc_q := 1461) (st_q := [.int (Int32.ofNat (n + 4)), .ref 0, .int x3, .int x2, .int x1, .ref 41]) (pm_q0_18 (Nat.le_of_ble_eq_true rfl)) (congrArg (fun z => some (Value.int z :: [.ref 0, .int x3, .int x2, .int x1, .ref 41])) (p2_ad (n := n) (c := 4) (k := 4) rfl)) rfl ?_
  refine pm_R_iald pm_M0 (pc_q := 1462) (v := x4) (pm_q0_18 (Nat.le_of_ble_eq_true rfl)) ((T.old (by decide)).trans e0) (T.lt (by decide)) (p2_in (by omega) hL) v4 rfl ?_
  refine pm_R_lo pm_M0 (pc_q := 1463) (pm_q0_18 (Nat.le_of_ble_eq_true rfl)) rfl rfl ?_
  refine pm_R_lo pm_M0 (pc_q := 1464) (pm_q0_18 (Nat.le_of_ble_eq_true rfl)) rfl rfl ?_
  refine pm_R_op pm_M0 (pc_q := 1465) (st_q := [.int 5, .int (Int32.ofNat n), .ref 0, .int x4, .int x3, .int x2, .int x1, .ref 41]) (pm_q0_18 (Nat.le_of_ble_eq_true rfl)) rfl rfl ?_
  refine pm_R_op pm_M0 (pc_q := 1466) (st_q := [.int (Int32.ofNat (n + 5)), .ref 0, .int x4, .int x3, .int x2, .int x1, .ref 41]) (pm_q0_18 (Nat.le_of_ble_eq_true rfl)) (congrArg (fun z => some (Value.int z :: [.ref 0, .int x4, .int x3, .int x2, .int x1, .ref 41])) (p2_ad (n := n) (c := 5) (k := 5) rfl)) rfl ?_
  refine pm_R_iald pm_M0 (pc_q := 1467) (v := x5) (pm_q0_18 (Nat.le_of_ble_eq_true rfl)) ((T.old (by decide)).trans e0) (T.lt (by decide)) (p2_in (by omega) hL) v5 rfl ?_
  refine pm_R_cv pm_M0 (pc_q := 1470) (a := 41) (ra := [.int x5, .int x4, .int x3, .int x2, .int x1]) (rest := []) (ls_q := [.ref 41, .int x1, .int x2, .int x3, .int x4, .int x5, pm_no]) (pm_q0_18 (Nat.le_of_ble_eq_true rfl)) rfl (Or.inl rfl) pm_M268 Tr.2.1 rfl (by decide) (Nat.lt_of_lt_of_le (by decide) Tr.1) rfl rfl (Nat.le_of_ble_eq_true rfl) rfl rfl ?_
  refine ex_inj WW KK rfl ?_
  refine rf_c268 Tr (fun r2 m1 w1 h1 T1 F1 W1 _ => ?_)
  intro WW KK
  show pm_R 100 0 1470 [.ref 0, .ref 16, .ref 41, .int (Int32.ofNat n)] [.int r2] _ _
  have RR := R2_rf F1 (by decide) RR
  have I := p2_rf G T Y e0 S R hc T1 F1 (by decide)
  refine pm_R_op pm_M0 (pc_q := 1471) (st_q := []) (pm_q0_18 (Nat.le_of_ble_eq_true rfl)) rfl rfl ?_
  refine pm_R_br pm_M0 (pc_q := 2117) (pm_q0_18 (Nat.le_of_ble_eq_true rfl)) rfl ?_
  exact K _ ⟨I, WW, KK, RR⟩

set_option maxRecDepth 100000 in
set_option maxHeartbeats 4000000 in
theorem p6_k28 {L n j : Nat} {xs : Nat → Int32} {h : pm_H} {Q : Option Value → pm_H → Prop} (I : p6_I L xs j h) (hn : n + 7 ≤ L) (hL : L ≤ 3584) (K : ∀ h_q, p6_I L xs (j + 1) h_q → pm_R 100 0 2117 [.ref 0, .ref 16, .ref 41, .int (Int32.ofNat n)] [] h_q Q) : pm_R 100 0 1474 [.ref 0, .ref 16, .ref 41, .int (Int32.ofNat n)] [] h Q := by
  obtain ⟨x1, v1⟩ : ∃ y, xs (Int32.toNatClampNeg (Int32.ofNat (n + 1))) = y := ⟨_, rfl⟩
  obtain ⟨x2, v2⟩ : ∃ y, xs (Int32.toNatClampNeg (Int32.ofNat (n + 2))) = y := ⟨_, rfl⟩
  obtain ⟨x3, v3⟩ : ∃ y, xs (Int32.toNatClampNeg (Int32.ofNat (n + 3))) = y := ⟨_, rfl⟩
  obtain ⟨I, WW, KK, RR⟩ := I
  obtain ⟨ck, E, m, o, mr, wr, G, T, Tr, Y, e0, S, R, hc⟩ := I
  refine pm_R_lo pm_M0 (pc_q := 1475) (pm_q0_18 (Nat.le_of_ble_eq_true rfl)) rfl rfl ?_
  refine pm_R_lo pm_M0 (pc_q := 1476) (pm_q0_18 (Nat.le_of_ble_eq_true rfl)) rfl rfl ?_
  refine pm_R_lo pm_M0 (pc_q := 1477) (pm_q0_18 (Nat.le_of_ble_eq_true rfl)) rfl rfl ?_
  refine pm_R_op pm_M0 (pc_q := 1478) (st_q := [.int 1, .int (Int32.ofNat n), .ref 0, .ref 16]) (pm_q0_18 (Nat.le_of_ble_eq_true rfl)) rfl rfl ?_
  refine pm_R_op pm_M0 (pc_q := 1479) (st_q := [.int (Int32.ofNat (n + 1)), .ref 0, .ref 16]) (pm_q0_18 (Nat.le_of_ble_eq_true rfl)) (congrArg (fun z => some (Value.int z :: [.ref 0, .ref 16])) (p2_ad (n := n) (c := 1) (k := 1) rfl)) rfl ?_
  refine pm_R_iald pm_M0 (pc_q := 1480) (v := x1) (pm_q0_18 (Nat.le_of_ble_eq_true rfl)) ((T.old (by decide)).trans e0) (T.lt (by decide)) (p2_in (by omega) hL) v1 rfl ?_
  refine pm_R_lo pm_M0 (pc_q := 1481) (pm_q0_18 (Nat.le_of_ble_eq_true rfl)) rfl rfl ?_
  refine pm_R_lo pm_M0 (pc_q := 1482) (pm_q0_18 (Nat.le_of_ble_eq_true rfl)) rfl rfl ?_
  refine pm_R_op pm_M0 (pc_q := 1483) (st_q := [.int 2, .int (Int32.ofNat n), .ref 0, .int x1, .ref 16]) (pm_q0_18 (Nat.le_of_ble_eq_true rfl)) rfl rfl ?_
  refine pm_R_op pm_M0 (pc_q := 1484) (st_q := [.int (Int32.ofNat (n + 2)), .ref 0, .int x1, .ref 16]) (pm_q0_18 (Nat.le_of_ble_eq_true rfl)) (congrArg (fun z => some (Value.int z :: [.ref 0, .int x1, .ref 16])) (p2_ad (n := n) (c := 2) (k := 2) rfl)) rfl ?_
  refine pm_R_iald pm_M0 (pc_q := 1485) (v := x2) (pm_q0_18 (Nat.le_of_ble_eq_true rfl)) ((T.old (by decide)).trans e0) (T.lt (by decide)) (p2_in (by omega) hL) v2 rfl ?_
  refine pm_R_lo pm_M0 (pc_q := 1486) (pm_q0_18 (Nat.le_of_ble_eq_true rfl)) rfl rfl ?_
  refine pm_R_lo pm_M0 (pc_q := 1487) (pm_q0_18 (Nat.le_of_ble_eq_true rfl)) rfl rfl ?_
  refine pm_R_op pm_M0 (pc_q := 1488) (st_q := [.int 3, .int (Int32.ofNat n), .ref 0, .int x2, .int x1, .ref 16]) (pm_q0_18 (Nat.le_of_ble_eq_true rfl)) rfl rfl ?_
  refine pm_R_op pm_M0 (pc_q := 1489) (st_q := [.int (Int32.ofNat (n + 3)), .ref 0, .int x2, .int x1, .ref 16]) (pm_q0_18 (Nat.le_of_ble_eq_true rfl)) (congrArg (fun z => some (Value.int z :: [.ref 0, .int x2, .int x1, .ref 16])) (p2_ad (n := n) (c := 3) (k := 3) rfl)) rfl ?_
  refine pm_R_iald pm_M0 (pc_q := 1490) (v := x3) (pm_q0_18 (Nat.le_of_ble_eq_true rfl)) ((T.old (by decide)).trans e0) (T.lt (by decide)) (p2_in (by omega) hL) v3 rfl ?_
  suffices sw : ∀ y1 : Int32, sf_B 0 1 y1 → pm_R 100 0 1498 [.ref 0, .ref 16, .ref 41, .int (Int32.ofNat n)] [.int y1, .int x2, .int x1, .ref 16] h Q by
    refine pm_R_ifc pm_M0 (t := 1497) (pc_q := 1493) (pm_q0_18 (Nat.le_of_ble_eq_true rfl)) rfl rfl (fun _ => ?_) (fun _ => ?_)
    · refine pm_R_op pm_M0 (pc_q := 1498) (st_q := [.int 0, .int x2, .int x1, .ref 16]) (pm_q0_18 (Nat.le_of_ble_eq_true rfl)) rfl rfl ?_
      exact sw 0 ⟨by decide, by decide⟩
    · refine pm_R_op pm_M0 (pc_q := 1494) (st_q := [.int 1, .int x2, .int x1, .ref 16]) (pm_q0_18 (Nat.le_of_ble_eq_true rfl)) rfl rfl ?_
      refine pm_R_br pm_M0 (pc_q := 1498) (pm_q0_18 (Nat.le_of_ble_eq_true rfl)) rfl ?_
      exact sw 1 ⟨by decide, by decide⟩
  intro y1 b1
  refine pm_R_cv pm_M0 (pc_q := 1501) (a := 16) (ra := [.int y1, .int x2, .int x1]) (rest := []) (ls_q := [.ref 16, .int x1, .int x2, .int y1, pm_no, pm_no, pm_no, pm_no, pm_no]) (pm_q0_18 (Nat.le_of_ble_eq_true rfl)) rfl (Or.inl rfl) pm_M157 T.e16 rfl (by decide) (T.lt (by decide)) rfl rfl (Nat.le_of_ble_eq_true rfl) rfl rfl ?_
  refine ex_inj WW KK rfl ?_
  refine cl_c157 G T (by assumption) (fun r2 m1 h1 T1 F1 W1 _ => ?_)
  intro WW KK
  show pm_R 100 0 1501 [.ref 0, .ref 16, .ref 41, .int (Int32.ofNat n)] [.int r2] _ _
  have RR := R2_cl G T F1 (by decide) RR
  have I := p2_cl (j := j) G T Tr Y e0 S R hc T1 F1 (W1 0 (by decide)) (by decide) (by decide) (by decide) (by decide) (by decide) (by decide) (by decide)
  obtain ⟨ck, E, m, o, mr, wr, G, T, Tr, Y, e0, S, R, hc⟩ := I
  refine pm_R_op pm_M0 (pc_q := 1502) (st_q := []) (pm_q0_18 (Nat.le_of_ble_eq_true rfl)) rfl rfl ?_
  refine pm_R_lo pm_M0 (pc_q := 1503) (pm_q0_18 (Nat.le_of_ble_eq_true rfl)) rfl rfl ?_
  refine pm_R_lo pm_M0 (pc_q := 1504) (pm_q0_18 (Nat.le_of_ble_eq_true rfl)) rfl rfl ?_
  refine pm_R_lo pm_M0 (pc_q := 1505) (pm_q0_18 (Nat.le_of_ble_eq_true rfl)) rfl rfl ?_
  refine pm_R_op pm_M0 (pc_q := 1506) (st_q := [.int 1, .int (Int32.ofNat n), .ref 0, .ref 41]) (pm_q0_18 (Nat.le_of_ble_eq_true rfl)) rfl rfl ?_
  refine pm_R_op pm_M0 (pc_q := 1507) (st_q := [.int (Int32.ofNat (n + 1)), .ref 0, .ref 41]) (pm_q0_18 (Nat.le_of_ble_eq_true rfl)) (congrArg (fun z => some (Value.int z :: [.ref 0, .ref 41])) (p2_ad (n := n) (c := 1) (k := 1) rfl)) rfl ?_
  refine pm_R_iald pm_M0 (pc_q := 1508) (v := x1) (pm_q0_18 (Nat.le_of_ble_eq_true rfl)) ((T.old (by decide)).trans e0) (T.lt (by decide)) (p2_in (by omega) hL) v1 rfl ?_
  refine pm_R_lo pm_M0 (pc_q := 1509) (pm_q0_18 (Nat.le_of_ble_eq_true rfl)) rfl rfl ?_
  refine pm_R_lo pm_M0 (pc_q := 1510) (pm_q0_18 (Nat.le_of_ble_eq_true rfl)) rfl rfl ?_
  refine pm_R_op pm_M0 (pc_q := 1511) (st_q := [.int 2, .int (Int32.ofNat n), .ref 0, .int x1, .ref 41]) (pm_q0_18 (Nat.le_of_ble_eq_true rfl)) rfl rfl ?_
  refine pm_R_op pm_M0 (pc_q := 1512) (st_q := [.int (Int32.ofNat (n + 2)), .ref 0, .int x1, .ref 41]) (pm_q0_18 (Nat.le_of_ble_eq_true rfl)) (congrArg (fun z => some (Value.int z :: [.ref 0, .int x1, .ref 41])) (p2_ad (n := n) (c := 2) (k := 2) rfl)) rfl ?_
  refine pm_R_iald pm_M0 (pc_q := 1513) (v := x2) (pm_q0_18 (Nat.le_of_ble_eq_true rfl)) ((T.old (by decide)).trans e0) (T.lt (by decide)) (p2_in (by omega) hL) v2 rfl ?_
  refine pm_R_lo pm_M0 (pc_q := 1514) (pm_q0_18 (Nat.le_of_ble_eq_true rfl)) rfl rfl ?_
  refine pm_R_lo pm_M0 (pc_q := 1515) (pm_q0_18 (Nat.le_of_ble_eq_true rfl)) rfl rfl ?_
  refine pm_R_op pm_M0 (pc_q := 1516) (st_q := [.int 3, .int (Int32.ofNat n), .ref 0, .int x2, .int x1, .ref 41]) (pm_q0_18 (Nat.le_of_ble_eq_true rfl)) rfl rfl ?_
  refine pm_R_op pm_M0 (pc_q := 1517) (st_q := [.int (Int32.ofNat (n + 3)), .ref 0, .int x2, .int x1, .ref 41]) (pm_q0_18 (Nat.le_of_ble_eq_true rfl)) (congrArg (fun z => some (Value.int z :: [.ref 0, .int x2, .int x1, .ref 41])) (p2_ad (n := n) (c := 3) (k := 3) rfl)) rfl ?_
  refine pm_R_iald pm_M0 (pc_q := 1518) (v := x3) (pm_q0_18 (Nat.le_of_ble_eq_true rfl)) ((T.old (by decide)).trans e0) (T.lt (by decide)) (p2_in (by omega) hL) v3 rfl ?_
  suffices sw : ∀ y3 : Int32, sf_B 0 1 y3 → pm_R 100 0 1526 [.ref 0, .ref 16, .ref 41, .int (Int32.ofNat n)] [.int y3, .int x2, .int x1, .ref 41] h1 Q by
    refine pm_R_ifc pm_M0 (t := 1525) (pc_q := 1521) (pm_q0_19 (Nat.le_of_ble_eq_true rfl)) rfl rfl (fun _ => ?_) (fun _ => ?_)
    · refine pm_R_op pm_M0 (pc_q := 1526) (st_q := [.int 0, .int x2, .int x1, .ref 41]) (pm_q0_19 (Nat.le_of_ble_eq_true rfl)) rfl rfl ?_
      exact sw 0 ⟨by decide, by decide⟩
    · refine pm_R_op pm_M0 (pc_q := 1522) (st_q := [.int 1, .int x2, .int x1, .ref 41]) (pm_q0_19 (Nat.le_of_ble_eq_true rfl)) rfl rfl ?_
      refine pm_R_br pm_M0 (pc_q := 1526) (pm_q0_19 (Nat.le_of_ble_eq_true rfl)) rfl ?_
      exact sw 1 ⟨by decide, by decide⟩
  intro y3 b3
  refine pm_R_cv pm_M0 (pc_q := 1529) (a := 41) (ra := [.int y3, .int x2, .int x1]) (rest := []) (ls_q := [.ref 41, .int x1, .int x2, .int y3, pm_no, pm_no, pm_no, pm_no]) (pm_q0_19 (Nat.le_of_ble_eq_true rfl)) rfl (Or.inl rfl) pm_M269 Tr.2.1 rfl (by decide) (Nat.lt_of_lt_of_le (by decide) Tr.1) rfl rfl (Nat.le_of_ble_eq_true rfl) rfl rfl ?_
  refine ex_inj WW KK rfl ?_
  refine rf_c269 Tr (fun r4 m1 w1 h1 T1 F1 W1 _ => ?_)
  intro WW KK
  show pm_R 100 0 1529 [.ref 0, .ref 16, .ref 41, .int (Int32.ofNat n)] [.int r4] _ _
  have RR := R2_rf F1 (by decide) RR
  have I := p2_rf G T Y e0 S R hc T1 F1 (by decide)
  refine pm_R_op pm_M0 (pc_q := 1530) (st_q := []) (pm_q0_19 (Nat.le_of_ble_eq_true rfl)) rfl rfl ?_
  refine pm_R_br pm_M0 (pc_q := 2117) (pm_q0_19 (Nat.le_of_ble_eq_true rfl)) rfl ?_
  exact K _ ⟨I, WW, KK, RR⟩

set_option maxRecDepth 100000 in
set_option maxHeartbeats 4000000 in
theorem p6_k29 {L n j : Nat} {xs : Nat → Int32} {h : pm_H} {Q : Option Value → pm_H → Prop} (I : p6_I L xs j h) (hn : n + 7 ≤ L) (hL : L ≤ 3584) (K : ∀ h_q, p6_I L xs (j + 1) h_q → pm_R 100 0 2117 [.ref 0, .ref 16, .ref 41, .int (Int32.ofNat n)] [] h_q Q) : pm_R 100 0 1533 [.ref 0, .ref 16, .ref 41, .int (Int32.ofNat n)] [] h Q := by
  obtain ⟨x1, v1⟩ : ∃ y, xs (Int32.toNatClampNeg (Int32.ofNat (n + 1))) = y := ⟨_, rfl⟩
  obtain ⟨x2, v2⟩ : ∃ y, xs (Int32.toNatClampNeg (Int32.ofNat (n + 2))) = y := ⟨_, rfl⟩
  obtain ⟨x3, v3⟩ : ∃ y, xs (Int32.toNatClampNeg (Int32.ofNat (n + 3))) = y := ⟨_, rfl⟩
  obtain ⟨I, WW, KK, RR⟩ := I
  obtain ⟨ck, E, m, o, mr, wr, G, T, Tr, Y, e0, S, R, hc⟩ := I
  refine pm_R_lo pm_M0 (pc_q := 1534) (pm_q0_19 (Nat.le_of_ble_eq_true rfl)) rfl rfl ?_
  refine pm_R_lo pm_M0 (pc_q := 1535) (pm_q0_19 (Nat.le_of_ble_eq_true rfl)) rfl rfl ?_
  refine pm_R_lo pm_M0 (pc_q := 1536) (pm_q0_19 (Nat.le_of_ble_eq_true rfl)) rfl rfl ?_
  refine pm_R_op pm_M0 (pc_q := 1537) (st_q := [.int 1, .int (Int32.ofNat n), .ref 0, .ref 16]) (pm_q0_19 (Nat.le_of_ble_eq_true rfl)) rfl rfl ?_
  refine pm_R_op pm_M0 (pc_q := 1538) (st_q := [.int (Int32.ofNat (n + 1)), .ref 0, .ref 16]) (pm_q0_19 (Nat.le_of_ble_eq_true rfl)) (congrArg (fun z => some (Value.int z :: [.ref 0, .ref 16])) (p2_ad (n := n) (c := 1) (k := 1) rfl)) rfl ?_
  refine pm_R_iald pm_M0 (pc_q := 1539) (v := x1) (pm_q0_19 (Nat.le_of_ble_eq_true rfl)) ((T.old (by decide)).trans e0) (T.lt (by decide)) (p2_in (by omega) hL) v1 rfl ?_
  refine pm_R_lo pm_M0 (pc_q := 1540) (pm_q0_19 (Nat.le_of_ble_eq_true rfl)) rfl rfl ?_
  refine pm_R_lo pm_M0 (pc_q := 1541) (pm_q0_19 (Nat.le_of_ble_eq_true rfl)) rfl rfl ?_
  refine pm_R_op pm_M0 (pc_q := 1542) (st_q := [.int 2, .int (Int32.ofNat n), .ref 0, .int x1, .ref 16]) (pm_q0_19 (Nat.le_of_ble_eq_true rfl)) rfl rfl ?_
  refine pm_R_op pm_M0 (pc_q := 1543) (st_q := [.int (Int32.ofNat (n + 2)), .ref 0, .int x1, .ref 16]) (pm_q0_19 (Nat.le_of_ble_eq_true rfl)) (congrArg (fun z => some (Value.int z :: [.ref 0, .int x1, .ref 16])) (p2_ad (n := n) (c := 2) (k := 2) rfl)) rfl ?_
  refine pm_R_iald pm_M0 (pc_q := 1544) (v := x2) (pm_q0_19 (Nat.le_of_ble_eq_true rfl)) ((T.old (by decide)).trans e0) (T.lt (by decide)) (p2_in (by omega) hL) v2 rfl ?_
  refine pm_R_lo pm_M0 (pc_q := 1545) (pm_q0_19 (Nat.le_of_ble_eq_true rfl)) rfl rfl ?_
  refine pm_R_lo pm_M0 (pc_q := 1546) (pm_q0_19 (Nat.le_of_ble_eq_true rfl)) rfl rfl ?_
  refine pm_R_op pm_M0 (pc_q := 1547) (st_q := [.int 3, .int (Int32.ofNat n), .ref 0, .int x2, .int x1, .ref 16]) (pm_q0_19 (Nat.le_of_ble_eq_true rfl)) rfl rfl ?_
  refine pm_R_op pm_M0 (pc_q := 1548) (st_q := [.int (Int32.ofNat (n + 3)), .ref 0, .int x2, .int x1, .ref 16]) (pm_q0_19 (Nat.le_of_ble_eq_true rfl)) (congrArg (fun z => some (Value.int z :: [.ref 0, .int x2, .int x1, .ref 16])) (p2_ad (n := n) (c := 3) (k := 3) rfl)) rfl ?_
  refine pm_R_iald pm_M0 (pc_q := 1549) (v := x3) (pm_q0_19 (Nat.le_of_ble_eq_true rfl)) ((T.old (by decide)).trans e0) (T.lt (by decide)) (p2_in (by omega) hL) v3 rfl ?_
  refine pm_R_cv pm_M0 (pc_q := 1552) (a := 16) (ra := [.int x3, .int x2, .int x1]) (rest := []) (ls_q := [.ref 16, .int x1, .int x2, .int x3, pm_no]) (pm_q0_19 (Nat.le_of_ble_eq_true rfl)) rfl (Or.inl rfl) pm_M162 T.e16 rfl (by decide) (T.lt (by decide)) rfl rfl (Nat.le_of_ble_eq_true rfl) rfl rfl ?_
  refine ex_inj WW KK rfl ?_
  refine cl_c162 G T (fun r1 => ?_)
  intro WW KK
  show pm_R 100 0 1552 [.ref 0, .ref 16, .ref 41, .int (Int32.ofNat n)] [.int r1] _ _
  have I := p2_up (⟨ck, E, m, o, mr, wr, G, T, Tr, Y, e0, S, R, hc⟩ : p2_I L xs j h)
  obtain ⟨ck, E, m, o, mr, wr, G, T, Tr, Y, e0, S, R, hc⟩ := I
  refine pm_R_op pm_M0 (pc_q := 1553) (st_q := []) (pm_q0_19 (Nat.le_of_ble_eq_true rfl)) rfl rfl ?_
  refine pm_R_lo pm_M0 (pc_q := 1554) (pm_q0_19 (Nat.le_of_ble_eq_true rfl)) rfl rfl ?_
  refine pm_R_lo pm_M0 (pc_q := 1555) (pm_q0_19 (Nat.le_of_ble_eq_true rfl)) rfl rfl ?_
  refine pm_R_lo pm_M0 (pc_q := 1556) (pm_q0_19 (Nat.le_of_ble_eq_true rfl)) rfl rfl ?_
  refine pm_R_op pm_M0 (pc_q := 1557) (st_q := [.int 1, .int (Int32.ofNat n), .ref 0, .ref 41]) (pm_q0_19 (Nat.le_of_ble_eq_true rfl)) rfl rfl ?_
  refine pm_R_op pm_M0 (pc_q := 1558) (st_q := [.int (Int32.ofNat (n + 1)), .ref 0, .ref 41]) (pm_q0_19 (Nat.le_of_ble_eq_true rfl)) (congrArg (fun z => some (Value.int z :: [.ref 0, .ref 41])) (p2_ad (n := n) (c := 1) (k := 1) rfl)) rfl ?_
  refine pm_R_iald pm_M0 (pc_q := 1559) (v := x1) (pm_q0_19 (Nat.le_of_ble_eq_true rfl)) ((T.old (by decide)).trans e0) (T.lt (by decide)) (p2_in (by omega) hL) v1 rfl ?_
  refine pm_R_lo pm_M0 (pc_q := 1560) (pm_q0_19 (Nat.le_of_ble_eq_true rfl)) rfl rfl ?_
  refine pm_R_lo pm_M0 (pc_q := 1561) (pm_q0_19 (Nat.le_of_ble_eq_true rfl)) rfl rfl ?_
  refine pm_R_op pm_M0 (pc_q := 1562) (st_q := [.int 2, .int (Int32.ofNat n), .ref 0, .int x1, .ref 41]) (pm_q0_19 (Nat.le_of_ble_eq_true rfl)) rfl rfl ?_
  refine pm_R_op pm_M0 (pc_q := 1563) (st_q := [.int (Int32.ofNat (n + 2)), .ref 0, .int x1, .ref 41]) (pm_q0_19 (Nat.le_of_ble_eq_true rfl)) (congrArg (fun z => some (Value.int z :: [.ref 0, .int x1, .ref 41])) (p2_ad (n := n) (c := 2) (k := 2) rfl)) rfl ?_
  refine pm_R_iald pm_M0 (pc_q := 1564) (v := x2) (pm_q0_19 (Nat.le_of_ble_eq_true rfl)) ((T.old (by decide)).trans e0) (T.lt (by decide)) (p2_in (by omega) hL) v2 rfl ?_
  refine pm_R_lo pm_M0 (pc_q := 1565) (pm_q0_19 (Nat.le_of_ble_eq_true rfl)) rfl rfl ?_
  refine pm_R_lo pm_M0 (pc_q := 1566) (pm_q0_19 (Nat.le_of_ble_eq_true rfl)) rfl rfl ?_
  refine pm_R_op pm_M0 (pc_q := 1567) (st_q := [.int 3, .int (Int32.ofNat n), .ref 0, .int x2, .int x1, .ref 41]) (pm_q0_19 (Nat.le_of_ble_eq_true rfl)) rfl rfl ?_
  refine pm_R_op pm_M0 (pc_q := 1568) (st_q := [.int (Int32.ofNat (n + 3)), .ref 0, .int x2, .int x1, .ref 41]) (pm_q0_19 (Nat.le_of_ble_eq_true rfl)) (congrArg (fun z => some (Value.int z :: [.ref 0, .int x2, .int x1, .ref 41])) (p2_ad (n := n) (c := 3) (k := 3) rfl)) rfl ?_
  refine pm_R_iald pm_M0 (pc_q := 1569) (v := x3) (pm_q0_19 (Nat.le_of_ble_eq_true rfl)) ((T.old (by decide)).trans e0) (T.lt (by decide)) (p2_in (by omega) hL) v3 rfl ?_
  refine pm_R_cv pm_M0 (pc_q := 1572) (a := 41) (ra := [.int x3, .int x2, .int x1]) (rest := []) (ls_q := [.ref 41, .int x1, .int x2, .int x3]) (pm_q0_19 (Nat.le_of_ble_eq_true rfl)) rfl (Or.inl rfl) pm_M271 Tr.2.1 rfl (by decide) (Nat.lt_of_lt_of_le (by decide) Tr.1) rfl rfl (Nat.le_of_ble_eq_true rfl) rfl rfl ?_
  refine ex_inj WW KK rfl ?_
  refine rf_c271 Tr (fun r2 m1 w1 h1 T1 F1 W1 => ?_)
  intro WW KK
  show pm_R 100 0 1572 [.ref 0, .ref 16, .ref 41, .int (Int32.ofNat n)] [.int r2] _ _
  have RR := R2_rf F1 (by decide) RR
  have I := p2_rf G T Y e0 S R hc T1 F1 (by decide)
  refine pm_R_op pm_M0 (pc_q := 1573) (st_q := []) (pm_q0_19 (Nat.le_of_ble_eq_true rfl)) rfl rfl ?_
  refine pm_R_br pm_M0 (pc_q := 2117) (pm_q0_19 (Nat.le_of_ble_eq_true rfl)) rfl ?_
  exact K _ ⟨I, WW, KK, RR⟩

set_option maxRecDepth 100000 in
set_option maxHeartbeats 4000000 in
theorem p6_k30 {L n j : Nat} {xs : Nat → Int32} {h : pm_H} {Q : Option Value → pm_H → Prop} (I : p6_I L xs j h) (hn : n + 7 ≤ L) (hL : L ≤ 3584) (K : ∀ h_q, p6_I L xs (j + 1) h_q → pm_R 100 0 2117 [.ref 0, .ref 16, .ref 41, .int (Int32.ofNat n)] [] h_q Q) : pm_R 100 0 1576 [.ref 0, .ref 16, .ref 41, .int (Int32.ofNat n)] [] h Q := by
  obtain ⟨x1, v1⟩ : ∃ y, xs (Int32.toNatClampNeg (Int32.ofNat (n + 1))) = y := ⟨_, rfl⟩
  obtain ⟨x2, v2⟩ : ∃ y, xs (Int32.toNatClampNeg (Int32.ofNat (n + 2))) = y := ⟨_, rfl⟩
  obtain ⟨x3, v3⟩ : ∃ y, xs (Int32.toNatClampNeg (Int32.ofNat (n + 3))) = y := ⟨_, rfl⟩
  obtain ⟨I, WW, KK, RR⟩ := I
  obtain ⟨ck, E, m, o, mr, wr, G, T, Tr, Y, e0, S, R, hc⟩ := I
  refine pm_R_lo pm_M0 (pc_q := 1577) (pm_q0_19 (Nat.le_of_ble_eq_true rfl)) rfl rfl ?_
  refine pm_R_lo pm_M0 (pc_q := 1578) (pm_q0_19 (Nat.le_of_ble_eq_true rfl)) rfl rfl ?_
  refine pm_R_lo pm_M0 (pc_q := 1579) (pm_q0_19 (Nat.le_of_ble_eq_true rfl)) rfl rfl ?_
  refine pm_R_op pm_M0 (pc_q := 1580) (st_q := [.int 1, .int (Int32.ofNat n), .ref 0, .ref 16]) (pm_q0_19 (Nat.le_of_ble_eq_true rfl)) rfl rfl ?_
  refine pm_R_op pm_M0 (pc_q := 1581) (st_q := [.int (Int32.ofNat (n + 1)), .ref 0, .ref 16]) (pm_q0_19 (Nat.le_of_ble_eq_true rfl)) (congrArg (fun z => some (Value.int z :: [.ref 0, .ref 16])) (p2_ad (n := n) (c := 1) (k := 1) rfl)) rfl ?_
  refine pm_R_iald pm_M0 (pc_q := 1582) (v := x1) (pm_q0_19 (Nat.le_of_ble_eq_true rfl)) ((T.old (by decide)).trans e0) (T.lt (by decide)) (p2_in (by omega) hL) v1 rfl ?_
  refine pm_R_lo pm_M0 (pc_q := 1583) (pm_q0_19 (Nat.le_of_ble_eq_true rfl)) rfl rfl ?_
  refine pm_R_lo pm_M0 (pc_q := 1584) (pm_q0_19 (Nat.le_of_ble_eq_true rfl)) rfl rfl ?_
  refine pm_R_op pm_M0 (pc_q := 1585) (st_q := [.int 2, .int (Int32.ofNat n), .ref 0, .int x1, .ref 16]) (pm_q0_19 (Nat.le_of_ble_eq_true rfl)) rfl rfl ?_
  refine pm_R_op pm_M0 (pc_q := 1586) (st_q := [.int (Int32.ofNat (n + 2)), .ref 0, .int x1, .ref 16]) (pm_q0_19 (Nat.le_of_ble_eq_true rfl)) (congrArg (fun z => some (Value.int z :: [.ref 0, .int x1, .ref 16])) (p2_ad (n := n) (c := 2) (k := 2) rfl)) rfl ?_
  refine pm_R_iald pm_M0 (pc_q := 1587) (v := x2) (pm_q0_19 (Nat.le_of_ble_eq_true rfl)) ((T.old (by decide)).trans e0) (T.lt (by decide)) (p2_in (by omega) hL) v2 rfl ?_
  refine pm_R_lo pm_M0 (pc_q := 1588) (pm_q0_19 (Nat.le_of_ble_eq_true rfl)) rfl rfl ?_
  refine pm_R_lo pm_M0 (pc_q := 1589) (pm_q0_19 (Nat.le_of_ble_eq_true rfl)) rfl rfl ?_
  refine pm_R_op pm_M0 (pc_q := 1590) (st_q := [.int 3, .int (Int32.ofNat n), .ref 0, .int x2, .int x1, .ref 16]) (pm_q0_19 (Nat.le_of_ble_eq_true rfl)) rfl rfl ?_
  refine pm_R_op pm_M0 (pc_q := 1591) (st_q := [.int (Int32.ofNat (n + 3)), .ref 0, .int x2, .int x1, .ref 16]) (pm_q0_19 (Nat.le_of_ble_eq_true rfl)) (congrArg (fun z => some (Value.int z :: [.ref 0, .int x2, .int x1, .ref 16])) (p2_ad (n := n) (c := 3) (k := 3) rfl)) rfl ?_
  refine pm_R_iald pm_M0 (pc_q := 1592) (v := x3) (pm_q0_19 (Nat.le_of_ble_eq_true rfl)) ((T.old (by decide)).trans e0) (T.lt (by decide)) (p2_in (by omega) hL) v3 rfl ?_
  refine pm_R_cv pm_M0 (pc_q := 1595) (a := 16) (ra := [.int x3, .int x2, .int x1]) (rest := []) (ls_q := [.ref 16, .int x1, .int x2, .int x3, pm_no, pm_no, pm_no]) (pm_q0_20 (Nat.le_of_ble_eq_true rfl)) rfl (Or.inl rfl) pm_M164 T.e16 rfl (by decide) (T.lt (by decide)) rfl rfl (Nat.le_of_ble_eq_true rfl) rfl rfl ?_
  refine ex_inj WW KK rfl ?_
  refine cl_c164 G T (fun r1 m1 h1 T1 F1 W1 _ => ?_)
  intro WW KK
  show pm_R 100 0 1595 [.ref 0, .ref 16, .ref 41, .int (Int32.ofNat n)] [.int r1] _ _
  have RR := R2_cl G T F1 (by decide) RR
  have I := p2_cl (j := j) G T Tr Y e0 S R hc T1 F1 (W1 0 (by decide)) (by decide) (by decide) (by decide) (by decide) (by decide) (by decide) (by decide)
  obtain ⟨ck, E, m, o, mr, wr, G, T, Tr, Y, e0, S, R, hc⟩ := I
  refine pm_R_op pm_M0 (pc_q := 1596) (st_q := []) (pm_q0_20 (Nat.le_of_ble_eq_true rfl)) rfl rfl ?_
  refine pm_R_lo pm_M0 (pc_q := 1597) (pm_q0_20 (Nat.le_of_ble_eq_true rfl)) rfl rfl ?_
  refine pm_R_lo pm_M0 (pc_q := 1598) (pm_q0_20 (Nat.le_of_ble_eq_true rfl)) rfl rfl ?_
  refine pm_R_lo pm_M0 (pc_q := 1599) (pm_q0_20 (Nat.le_of_ble_eq_true rfl)) rfl rfl ?_
  refine pm_R_op pm_M0 (pc_q := 1600) (st_q := [.int 1, .int (Int32.ofNat n), .ref 0, .ref 41]) (pm_q0_20 (Nat.le_of_ble_eq_true rfl)) rfl rfl ?_
  refine pm_R_op pm_M0 (pc_q := 1601) (st_q := [.int (Int32.ofNat (n + 1)), .ref 0, .ref 41]) (pm_q0_20 (Nat.le_of_ble_eq_true rfl)) (congrArg (fun z => some (Value.int z :: [.ref 0, .ref 41])) (p2_ad (n := n) (c := 1) (k := 1) rfl)) rfl ?_
  refine pm_R_iald pm_M0 (pc_q := 1602) (v := x1) (pm_q0_20 (Nat.le_of_ble_eq_true rfl)) ((T.old (by decide)).trans e0) (T.lt (by decide)) (p2_in (by omega) hL) v1 rfl ?_
  refine pm_R_lo pm_M0 (pc_q := 1603) (pm_q0_20 (Nat.le_of_ble_eq_true rfl)) rfl rfl ?_
  refine pm_R_lo pm_M0 (pc_q := 1604) (pm_q0_20 (Nat.le_of_ble_eq_true rfl)) rfl rfl ?_
  refine pm_R_op pm_M0 (pc_q := 1605) (st_q := [.int 2, .int (Int32.ofNat n), .ref 0, .int x1, .ref 41]) (pm_q0_20 (Nat.le_of_ble_eq_true rfl)) rfl rfl ?_
  refine pm_R_op pm_M0 (pc_q := 1606) (st_q := [.int (Int32.ofNat (n + 2)), .ref 0, .int x1, .ref 41]) (pm_q0_20 (Nat.le_of_ble_eq_true rfl)) (congrArg (fun z => some (Value.int z :: [.ref 0, .int x1, .ref 41])) (p2_ad (n := n) (c := 2) (k := 2) rfl)) rfl ?_
  refine pm_R_iald pm_M0 (pc_q := 1607) (v := x2) (pm_q0_20 (Nat.le_of_ble_eq_true rfl)) ((T.old (by decide)).trans e0) (T.lt (by decide)) (p2_in (by omega) hL) v2 rfl ?_
  refine pm_R_lo pm_M0 (pc_q := 1608) (pm_q0_20 (Nat.le_of_ble_eq_true rfl)) rfl rfl ?_
  refine pm_R_lo pm_M0 (pc_q := 1609) (pm_q0_20 (Nat.le_of_ble_eq_true rfl)) rfl rfl ?_
  refine pm_R_op pm_M0 (pc_q := 1610) (st_q := [.int 3, .int (Int32.ofNat n), .ref 0, .int x2, .int x1, .ref 41]) (pm_q0_20 (Nat.le_of_ble_eq_true rfl)) rfl rfl ?_
  refine pm_R_op pm_M0 (pc_q := 1611) (st_q := [.int (Int32.ofNat (n + 3)), .ref 0, .int x2, .int x1, .ref 41]) (pm_q0_20 (Nat.le_of_ble_eq_true rfl)) (congrArg (fun z => some (Value.int z :: [.ref 0, .int x2, .int x1, .ref 41])) (p2_ad (n := n) (c := 3) (k := 3) rfl)) rfl ?_
  refine pm_R_iald pm_M0 (pc_q := 1612) (v := x3) (pm_q0_20 (Nat.le_of_ble_eq_true rfl)) ((T.old (by decide)).trans e0) (T.lt (by decide)) (p2_in (by omega) hL) v3 rfl ?_
  refine pm_R_cv pm_M0 (pc_q := 1615) (a := 41) (ra := [.int x3, .int x2, .int x1]) (rest := []) (ls_q := [.ref 41, .int x1, .int x2, .int x3, pm_no, pm_no]) (pm_q0_20 (Nat.le_of_ble_eq_true rfl)) rfl (Or.inl rfl) pm_M274 Tr.2.1 rfl (by decide) (Nat.lt_of_lt_of_le (by decide) Tr.1) rfl rfl (Nat.le_of_ble_eq_true rfl) rfl rfl ?_
  refine ex_inj WW KK rfl ?_
  refine rf_c274 Tr (fun r2 m1 w1 h1 T1 F1 W1 _ => ?_)
  intro WW KK
  show pm_R 100 0 1615 [.ref 0, .ref 16, .ref 41, .int (Int32.ofNat n)] [.int r2] _ _
  have RR := R2_rf F1 (by decide) RR
  have I := p2_rf G T Y e0 S R hc T1 F1 (by decide)
  refine pm_R_op pm_M0 (pc_q := 1616) (st_q := []) (pm_q0_20 (Nat.le_of_ble_eq_true rfl)) rfl rfl ?_
  refine pm_R_br pm_M0 (pc_q := 2117) (pm_q0_20 (Nat.le_of_ble_eq_true rfl)) rfl ?_
  exact K _ ⟨I, WW, KK, RR⟩

set_option maxRecDepth 100000 in
set_option maxHeartbeats 4000000 in
theorem p6_k31 {L n j : Nat} {xs : Nat → Int32} {h : pm_H} {Q : Option Value → pm_H → Prop} (I : p6_I L xs j h) (hn : n + 7 ≤ L) (hL : L ≤ 3584) (K : ∀ h_q, p6_I L xs (j + 1) h_q → pm_R 100 0 2117 [.ref 0, .ref 16, .ref 41, .int (Int32.ofNat n)] [] h_q Q) : pm_R 100 0 1619 [.ref 0, .ref 16, .ref 41, .int (Int32.ofNat n)] [] h Q := by
  obtain ⟨x1, v1⟩ : ∃ y, xs (Int32.toNatClampNeg (Int32.ofNat (n + 1))) = y := ⟨_, rfl⟩
  obtain ⟨x2, v2⟩ : ∃ y, xs (Int32.toNatClampNeg (Int32.ofNat (n + 2))) = y := ⟨_, rfl⟩
  obtain ⟨x3, v3⟩ : ∃ y, xs (Int32.toNatClampNeg (Int32.ofNat (n + 3))) = y := ⟨_, rfl⟩
  obtain ⟨I, WW, KK, RR⟩ := I
  obtain ⟨ck, E, m, o, mr, wr, G, T, Tr, Y, e0, S, R, hc⟩ := I
  refine pm_R_lo pm_M0 (pc_q := 1620) (pm_q0_20 (Nat.le_of_ble_eq_true rfl)) rfl rfl ?_
  refine pm_R_lo pm_M0 (pc_q := 1621) (pm_q0_20 (Nat.le_of_ble_eq_true rfl)) rfl rfl ?_
  refine pm_R_lo pm_M0 (pc_q := 1622) (pm_q0_20 (Nat.le_of_ble_eq_true rfl)) rfl rfl ?_
  refine pm_R_op pm_M0 (pc_q := 1623) (st_q := [.int 1, .int (Int32.ofNat n), .ref 0, .ref 16]) (pm_q0_20 (Nat.le_of_ble_eq_true rfl)) rfl rfl ?_
  refine pm_R_op pm_M0 (pc_q := 1624) (st_q := [.int (Int32.ofNat (n + 1)), .ref 0, .ref 16]) (pm_q0_20 (Nat.le_of_ble_eq_true rfl)) (congrArg (fun z => some (Value.int z :: [.ref 0, .ref 16])) (p2_ad (n := n) (c := 1) (k := 1) rfl)) rfl ?_
  refine pm_R_iald pm_M0 (pc_q := 1625) (v := x1) (pm_q0_20 (Nat.le_of_ble_eq_true rfl)) ((T.old (by decide)).trans e0) (T.lt (by decide)) (p2_in (by omega) hL) v1 rfl ?_
  refine pm_R_lo pm_M0 (pc_q := 1626) (pm_q0_20 (Nat.le_of_ble_eq_true rfl)) rfl rfl ?_
  refine pm_R_lo pm_M0 (pc_q := 1627) (pm_q0_20 (Nat.le_of_ble_eq_true rfl)) rfl rfl ?_
  refine pm_R_op pm_M0 (pc_q := 1628) (st_q := [.int 2, .int (Int32.ofNat n), .ref 0, .int x1, .ref 16]) (pm_q0_20 (Nat.le_of_ble_eq_true rfl)) rfl rfl ?_
  refine pm_R_op pm_M0 (pc_q := 1629) (st_q := [.int (Int32.ofNat (n + 2)), .ref 0, .int x1, .ref 16]) (pm_q0_20 (Nat.le_of_ble_eq_true rfl)) (congrArg (fun z => some (Value.int z :: [.ref 0, .int x1, .ref 16])) (p2_ad (n := n) (c := 2) (k := 2) rfl)) rfl ?_
  refine pm_R_iald pm_M0 (pc_q := 1630) (v := x2) (pm_q0_20 (Nat.le_of_ble_eq_true rfl)) ((T.old (by decide)).trans e0) (T.lt (by decide)) (p2_in (by omega) hL) v2 rfl ?_
  refine pm_R_lo pm_M0 (pc_q := 1631) (pm_q0_20 (Nat.le_of_ble_eq_true rfl)) rfl rfl ?_
  refine pm_R_lo pm_M0 (pc_q := 1632) (pm_q0_20 (Nat.le_of_ble_eq_true rfl)) rfl rfl ?_
  refine pm_R_op pm_M0 (pc_q := 1633) (st_q := [.int 3, .int (Int32.ofNat n), .ref 0, .int x2, .int x1, .ref 16]) (pm_q0_20 (Nat.le_of_ble_eq_true rfl)) rfl rfl ?_
  refine pm_R_op pm_M0 (pc_q := 1634) (st_q := [.int (Int32.ofNat (n + 3)), .ref 0, .int x2, .int x1, .ref 16]) (pm_q0_20 (Nat.le_of_ble_eq_true rfl)) (congrArg (fun z => some (Value.int z :: [.ref 0, .int x2, .int x1, .ref 16])) (p2_ad (n := n) (c := 3) (k := 3) rfl)) rfl ?_
  refine pm_R_iald pm_M0 (pc_q := 1635) (v := x3) (pm_q0_20 (Nat.le_of_ble_eq_true rfl)) ((T.old (by decide)).trans e0) (T.lt (by decide)) (p2_in (by omega) hL) v3 rfl ?_
  refine pm_R_cv pm_M0 (pc_q := 1638) (a := 16) (ra := [.int x3, .int x2, .int x1]) (rest := []) (ls_q := [.ref 16, .int x1, .int x2, .int x3, pm_no, pm_no, pm_no, pm_no]) (pm_q0_20 (Nat.le_of_ble_eq_true rfl)) rfl (Or.inl rfl) pm_M167 T.e16 rfl (by decide) (T.lt (by decide)) rfl rfl (Nat.le_of_ble_eq_true rfl) rfl rfl ?_
  refine ex_inj WW KK rfl ?_
  refine cl_c167 G T (fun r1 m1 h1 T1 F1 W1 => ?_)
  intro WW KK
  show pm_R 100 0 1638 [.ref 0, .ref 16, .ref 41, .int (Int32.ofNat n)] [.int r1] _ _
  have RR := R2_cl G T F1 (by decide) RR
  have I := p2_cl (j := j) G T Tr Y e0 S R hc T1 F1 (W1 0 (by decide)) (by decide) (by decide) (by decide) (by decide) (by decide) (by decide) (by decide)
  obtain ⟨ck, E, m, o, mr, wr, G, T, Tr, Y, e0, S, R, hc⟩ := I
  refine pm_R_op pm_M0 (pc_q := 1639) (st_q := []) (pm_q0_20 (Nat.le_of_ble_eq_true rfl)) rfl rfl ?_
  refine pm_R_lo pm_M0 (pc_q := 1640) (pm_q0_20 (Nat.le_of_ble_eq_true rfl)) rfl rfl ?_
  refine pm_R_lo pm_M0 (pc_q := 1641) (pm_q0_20 (Nat.le_of_ble_eq_true rfl)) rfl rfl ?_
  refine pm_R_lo pm_M0 (pc_q := 1642) (pm_q0_20 (Nat.le_of_ble_eq_true rfl)) rfl rfl ?_
  refine pm_R_op pm_M0 (pc_q := 1643) (st_q := [.int 1, .int (Int32.ofNat n), .ref 0, .ref 41]) (pm_q0_20 (Nat.le_of_ble_eq_true rfl)) rfl rfl ?_
  refine pm_R_op pm_M0 (pc_q := 1644) (st_q := [.int (Int32.ofNat (n + 1)), .ref 0, .ref 41]) (pm_q0_20 (Nat.le_of_ble_eq_true rfl)) (congrArg (fun z => some (Value.int z :: [.ref 0, .ref 41])) (p2_ad (n := n) (c := 1) (k := 1) rfl)) rfl ?_
  refine pm_R_iald pm_M0 (pc_q := 1645) (v := x1) (pm_q0_20 (Nat.le_of_ble_eq_true rfl)) ((T.old (by decide)).trans e0) (T.lt (by decide)) (p2_in (by omega) hL) v1 rfl ?_
  refine pm_R_lo pm_M0 (pc_q := 1646) (pm_q0_20 (Nat.le_of_ble_eq_true rfl)) rfl rfl ?_
  refine pm_R_lo pm_M0 (pc_q := 1647) (pm_q0_20 (Nat.le_of_ble_eq_true rfl)) rfl rfl ?_
  refine pm_R_op pm_M0 (pc_q := 1648) (st_q := [.int 2, .int (Int32.ofNat n), .ref 0, .int x1, .ref 41]) (pm_q0_20 (Nat.le_of_ble_eq_true rfl)) rfl rfl ?_
  refine pm_R_op pm_M0 (pc_q := 1649) (st_q := [.int (Int32.ofNat (n + 2)), .ref 0, .int x1, .ref 41]) (pm_q0_20 (Nat.le_of_ble_eq_true rfl)) (congrArg (fun z => some (Value.int z :: [.ref 0, .int x1, .ref 41])) (p2_ad (n := n) (c := 2) (k := 2) rfl)) rfl ?_
  refine pm_R_iald pm_M0 (pc_q := 1650) (v := x2) (pm_q0_20 (Nat.le_of_ble_eq_true rfl)) ((T.old (by decide)).trans e0) (T.lt (by decide)) (p2_in (by omega) hL) v2 rfl ?_
  refine pm_R_lo pm_M0 (pc_q := 1651) (pm_q0_20 (Nat.le_of_ble_eq_true rfl)) rfl rfl ?_
  refine pm_R_lo pm_M0 (pc_q := 1652) (pm_q0_20 (Nat.le_of_ble_eq_true rfl)) rfl rfl ?_
  refine pm_R_op pm_M0 (pc_q := 1653) (st_q := [.int 3, .int (Int32.ofNat n), .ref 0, .int x2, .int x1, .ref 41]) (pm_q0_20 (Nat.le_of_ble_eq_true rfl)) rfl rfl ?_
  refine pm_R_op pm_M0 (pc_q := 1654) (st_q := [.int (Int32.ofNat (n + 3)), .ref 0, .int x2, .int x1, .ref 41]) (pm_q0_20 (Nat.le_of_ble_eq_true rfl)) (congrArg (fun z => some (Value.int z :: [.ref 0, .int x2, .int x1, .ref 41])) (p2_ad (n := n) (c := 3) (k := 3) rfl)) rfl ?_
  refine pm_R_iald pm_M0 (pc_q := 1655) (v := x3) (pm_q0_20 (Nat.le_of_ble_eq_true rfl)) ((T.old (by decide)).trans e0) (T.lt (by decide)) (p2_in (by omega) hL) v3 rfl ?_
  refine pm_R_cv pm_M0 (pc_q := 1658) (a := 41) (ra := [.int x3, .int x2, .int x1]) (rest := []) (ls_q := [.ref 41, .int x1, .int x2, .int x3]) (pm_q0_20 (Nat.le_of_ble_eq_true rfl)) rfl (Or.inl rfl) pm_M280 Tr.2.1 rfl (by decide) (Nat.lt_of_lt_of_le (by decide) Tr.1) rfl rfl (Nat.le_of_ble_eq_true rfl) rfl rfl ?_
  refine ex_inj WW KK rfl ?_
  refine rf_c280 Tr (fun r2 m1 w1 h1 T1 F1 W1 => ?_)
  intro WW KK
  show pm_R 100 0 1658 [.ref 0, .ref 16, .ref 41, .int (Int32.ofNat n)] [.int r2] _ _
  have RR := R2_rf F1 (by decide) RR
  have I := p2_rf G T Y e0 S R hc T1 F1 (by decide)
  refine pm_R_op pm_M0 (pc_q := 1659) (st_q := []) (pm_q0_20 (Nat.le_of_ble_eq_true rfl)) rfl rfl ?_
  refine pm_R_br pm_M0 (pc_q := 2117) (pm_q0_20 (Nat.le_of_ble_eq_true rfl)) rfl ?_
  exact K _ ⟨I, WW, KK, RR⟩

set_option maxRecDepth 100000 in
set_option maxHeartbeats 4000000 in
theorem p6_k32 {L n j : Nat} {xs : Nat → Int32} {h : pm_H} {Q : Option Value → pm_H → Prop} (I : p6_I L xs j h) (hn : n + 7 ≤ L) (hL : L ≤ 3584) (K : ∀ h_q, p6_I L xs (j + 1) h_q → pm_R 100 0 2117 [.ref 0, .ref 16, .ref 41, .int (Int32.ofNat n)] [] h_q Q) : pm_R 100 0 1662 [.ref 0, .ref 16, .ref 41, .int (Int32.ofNat n)] [] h Q := by
  obtain ⟨x1, v1⟩ : ∃ y, xs (Int32.toNatClampNeg (Int32.ofNat (n + 1))) = y := ⟨_, rfl⟩
  obtain ⟨x2, v2⟩ : ∃ y, xs (Int32.toNatClampNeg (Int32.ofNat (n + 2))) = y := ⟨_, rfl⟩
  obtain ⟨I, WW, KK, RR⟩ := I
  obtain ⟨ck, E, m, o, mr, wr, G, T, Tr, Y, e0, S, R, hc⟩ := I
  refine pm_R_lo pm_M0 (pc_q := 1663) (pm_q0_20 (Nat.le_of_ble_eq_true rfl)) rfl rfl ?_
  refine pm_R_lo pm_M0 (pc_q := 1664) (pm_q0_20 (Nat.le_of_ble_eq_true rfl)) rfl rfl ?_
  refine pm_R_lo pm_M0 (pc_q := 1665) (pm_q0_21 (Nat.le_of_ble_eq_true rfl)) rfl rfl ?_
  refine pm_R_op pm_M0 (pc_q := 1666) (st_q := [.int 1, .int (Int32.ofNat n), .ref 0, .ref 16]) (pm_q0_21 (Nat.le_of_ble_eq_true rfl)) rfl rfl ?_
  refine pm_R_op pm_M0 (pc_q := 1667) (st_q := [.int (Int32.ofNat (n + 1)), .ref 0, .ref 16]) (pm_q0_21 (Nat.le_of_ble_eq_true rfl)) (congrArg (fun z => some (Value.int z :: [.ref 0, .ref 16])) (p2_ad (n := n) (c := 1) (k := 1) rfl)) rfl ?_
  refine pm_R_iald pm_M0 (pc_q := 1668) (v := x1) (pm_q0_21 (Nat.le_of_ble_eq_true rfl)) ((T.old (by decide)).trans e0) (T.lt (by decide)) (p2_in (by omega) hL) v1 rfl ?_
  refine pm_R_lo pm_M0 (pc_q := 1669) (pm_q0_21 (Nat.le_of_ble_eq_true rfl)) rfl rfl ?_
  refine pm_R_lo pm_M0 (pc_q := 1670) (pm_q0_21 (Nat.le_of_ble_eq_true rfl)) rfl rfl ?_
  refine pm_R_op pm_M0 (pc_q := 1671) (st_q := [.int 2, .int (Int32.ofNat n), .ref 0, .int x1, .ref 16]) (pm_q0_21 (Nat.le_of_ble_eq_true rfl)) rfl rfl ?_
  refine pm_R_op pm_M0 (pc_q := 1672) (st_q := [.int (Int32.ofNat (n + 2)), .ref 0, .int x1, .ref 16]) (pm_q0_21 (Nat.le_of_ble_eq_true rfl)) (congrArg (fun z => some (Value.int z :: [.ref 0, .int x1, .ref 16])) (p2_ad (n := n) (c := 2) (k := 2) rfl)) rfl ?_
  refine pm_R_iald pm_M0 (pc_q := 1673) (v := x2) (pm_q0_21 (Nat.le_of_ble_eq_true rfl)) ((T.old (by decide)).trans e0) (T.lt (by decide)) (p2_in (by omega) hL) v2 rfl ?_
  refine pm_R_cv pm_M0 (pc_q := 1676) (a := 16) (ra := [.int x2, .int x1]) (rest := []) (ls_q := [.ref 16, .int x1, .int x2, pm_no, pm_no, pm_no, pm_no, pm_no, pm_no]) (pm_q0_21 (Nat.le_of_ble_eq_true rfl)) rfl (Or.inl rfl) pm_M168 T.e16 rfl (by decide) (T.lt (by decide)) rfl rfl (Nat.le_of_ble_eq_true rfl) rfl rfl ?_
  refine ex_inj WW KK rfl ?_
  refine cl_c168 G T (fun r1 m1 h1 T1 F1 W1 _ => ?_)
  intro WW KK
  show pm_R 100 0 1676 [.ref 0, .ref 16, .ref 41, .int (Int32.ofNat n)] [.int r1] _ _
  have RR := R2_cl G T F1 (by decide) RR
  have I := p2_cl (j := j) G T Tr Y e0 S R hc T1 F1 (W1 0 (by decide)) (by decide) (by decide) (by decide) (by decide) (by decide) (by decide) (by decide)
  obtain ⟨ck, E, m, o, mr, wr, G, T, Tr, Y, e0, S, R, hc⟩ := I
  refine pm_R_op pm_M0 (pc_q := 1677) (st_q := []) (pm_q0_21 (Nat.le_of_ble_eq_true rfl)) rfl rfl ?_
  refine pm_R_lo pm_M0 (pc_q := 1678) (pm_q0_21 (Nat.le_of_ble_eq_true rfl)) rfl rfl ?_
  refine pm_R_lo pm_M0 (pc_q := 1679) (pm_q0_21 (Nat.le_of_ble_eq_true rfl)) rfl rfl ?_
  refine pm_R_lo pm_M0 (pc_q := 1680) (pm_q0_21 (Nat.le_of_ble_eq_true rfl)) rfl rfl ?_
  refine pm_R_op pm_M0 (pc_q := 1681) (st_q := [.int 1, .int (Int32.ofNat n), .ref 0, .ref 41]) (pm_q0_21 (Nat.le_of_ble_eq_true rfl)) rfl rfl ?_
  refine pm_R_op pm_M0 (pc_q := 1682) (st_q := [.int (Int32.ofNat (n + 1)), .ref 0, .ref 41]) (pm_q0_21 (Nat.le_of_ble_eq_true rfl)) (congrArg (fun z => some (Value.int z :: [.ref 0, .ref 41])) (p2_ad (n := n) (c := 1) (k := 1) rfl)) rfl ?_
  refine pm_R_iald pm_M0 (pc_q := 1683) (v := x1) (pm_q0_21 (Nat.le_of_ble_eq_true rfl)) ((T.old (by decide)).trans e0) (T.lt (by decide)) (p2_in (by omega) hL) v1 rfl ?_
  refine pm_R_lo pm_M0 (pc_q := 1684) (pm_q0_21 (Nat.le_of_ble_eq_true rfl)) rfl rfl ?_
  refine pm_R_lo pm_M0 (pc_q := 1685) (pm_q0_21 (Nat.le_of_ble_eq_true rfl)) rfl rfl ?_
  refine pm_R_op pm_M0 (pc_q := 1686) (st_q := [.int 2, .int (Int32.ofNat n), .ref 0, .int x1, .ref 41]) (pm_q0_21 (Nat.le_of_ble_eq_true rfl)) rfl rfl ?_
  refine pm_R_op pm_M0 (pc_q := 1687) (st_q := [.int (Int32.ofNat (n + 2)), .ref 0, .int x1, .ref 41]) (pm_q0_21 (Nat.le_of_ble_eq_true rfl)) (congrArg (fun z => some (Value.int z :: [.ref 0, .int x1, .ref 41])) (p2_ad (n := n) (c := 2) (k := 2) rfl)) rfl ?_
  refine pm_R_iald pm_M0 (pc_q := 1688) (v := x2) (pm_q0_21 (Nat.le_of_ble_eq_true rfl)) ((T.old (by decide)).trans e0) (T.lt (by decide)) (p2_in (by omega) hL) v2 rfl ?_
  refine pm_R_cv pm_M0 (pc_q := 1691) (a := 41) (ra := [.int x2, .int x1]) (rest := []) (ls_q := [.ref 41, .int x1, .int x2, pm_no, pm_no, pm_no, pm_no]) (pm_q0_21 (Nat.le_of_ble_eq_true rfl)) rfl (Or.inl rfl) pm_M282 Tr.2.1 rfl (by decide) (Nat.lt_of_lt_of_le (by decide) Tr.1) rfl rfl (Nat.le_of_ble_eq_true rfl) rfl rfl ?_
  refine ex_inj WW KK rfl ?_
  refine rf_c282 Tr (fun r2 m1 w1 h1 T1 F1 W1 _ => ?_)
  intro WW KK
  show pm_R 100 0 1691 [.ref 0, .ref 16, .ref 41, .int (Int32.ofNat n)] [.int r2] _ _
  have RR := R2_rf F1 (by decide) RR
  have I := p2_rf G T Y e0 S R hc T1 F1 (by decide)
  refine pm_R_op pm_M0 (pc_q := 1692) (st_q := []) (pm_q0_21 (Nat.le_of_ble_eq_true rfl)) rfl rfl ?_
  refine pm_R_br pm_M0 (pc_q := 2117) (pm_q0_21 (Nat.le_of_ble_eq_true rfl)) rfl ?_
  exact K _ ⟨I, WW, KK, RR⟩

set_option maxRecDepth 100000 in
set_option maxHeartbeats 4000000 in
theorem p6_k33 {L n j : Nat} {xs : Nat → Int32} {h : pm_H} {Q : Option Value → pm_H → Prop} (I : p6_I L xs j h) (hn : n + 7 ≤ L) (hL : L ≤ 3584) (K : ∀ h_q, p6_I L xs (j + 1) h_q → pm_R 100 0 2117 [.ref 0, .ref 16, .ref 41, .int (Int32.ofNat n)] [] h_q Q) : pm_R 100 0 1695 [.ref 0, .ref 16, .ref 41, .int (Int32.ofNat n)] [] h Q := by
  obtain ⟨x1, v1⟩ : ∃ y, xs (Int32.toNatClampNeg (Int32.ofNat (n + 1))) = y := ⟨_, rfl⟩
  obtain ⟨x2, v2⟩ : ∃ y, xs (Int32.toNatClampNeg (Int32.ofNat (n + 2))) = y := ⟨_, rfl⟩
  obtain ⟨x3, v3⟩ : ∃ y, xs (Int32.toNatClampNeg (Int32.ofNat (n + 3))) = y := ⟨_, rfl⟩
  obtain ⟨x4, v4⟩ : ∃ y, xs (Int32.toNatClampNeg (Int32.ofNat (n + 4))) = y := ⟨_, rfl⟩
  obtain ⟨x5, v5⟩ : ∃ y, xs (Int32.toNatClampNeg (Int32.ofNat (n + 5))) = y := ⟨_, rfl⟩
  obtain ⟨I, WW, KK, RR⟩ := I
  obtain ⟨ck, E, m, o, mr, wr, G, T, Tr, Y, e0, S, R, hc⟩ := I
  refine pm_R_lo pm_M0 (pc_q := 1696) (pm_q0_21 (Nat.le_of_ble_eq_true rfl)) rfl rfl ?_
  refine pm_R_lo pm_M0 (pc_q := 1697) (pm_q0_21 (Nat.le_of_ble_eq_true rfl)) rfl rfl ?_
  refine pm_R_lo pm_M0 (pc_q := 1698) (pm_q0_21 (Nat.le_of_ble_eq_true rfl)) rfl rfl ?_
  refine pm_R_op pm_M0 (pc_q := 1699) (st_q := [.int 1, .int (Int32.ofNat n), .ref 0, .ref 16]) (pm_q0_21 (Nat.le_of_ble_eq_true rfl)) rfl rfl ?_
  refine pm_R_op pm_M0 (pc_q := 1700) (st_q := [.int (Int32.ofNat (n + 1)), .ref 0, .ref 16]) (pm_q0_21 (Nat.le_of_ble_eq_true rfl)) (congrArg (fun z => some (Value.int z :: [.ref 0, .ref 16])) (p2_ad (n := n) (c := 1) (k := 1) rfl)) rfl ?_
  refine pm_R_iald pm_M0 (pc_q := 1701) (v := x1) (pm_q0_21 (Nat.le_of_ble_eq_true rfl)) ((T.old (by decide)).trans e0) (T.lt (by decide)) (p2_in (by omega) hL) v1 rfl ?_
  refine pm_R_lo pm_M0 (pc_q := 1702) (pm_q0_21 (Nat.le_of_ble_eq_true rfl)) rfl rfl ?_
  refine pm_R_lo pm_M0 (pc_q := 1703) (pm_q0_21 (Nat.le_of_ble_eq_true rfl)) rfl rfl ?_
  refine pm_R_op pm_M0 (pc_q := 1704) (st_q := [.int 2, .int (Int32.ofNat n), .ref 0, .int x1, .ref 16]) (pm_q0_21 (Nat.le_of_ble_eq_true rfl)) rfl rfl ?_
  refine pm_R_op pm_M0 (pc_q := 1705) (st_q := [.int (Int32.ofNat (n + 2)), .ref 0, .int x1, .ref 16]) (pm_q0_21 (Nat.le_of_ble_eq_true rfl)) (congrArg (fun z => some (Value.int z :: [.ref 0, .int x1, .ref 16])) (p2_ad (n := n) (c := 2) (k := 2) rfl)) rfl ?_
  refine pm_R_iald pm_M0 (pc_q := 1706) (v := x2) (pm_q0_21 (Nat.le_of_ble_eq_true rfl)) ((T.old (by decide)).trans e0) (T.lt (by decide)) (p2_in (by omega) hL) v2 rfl ?_
  refine pm_R_lo pm_M0 (pc_q := 1707) (pm_q0_21 (Nat.le_of_ble_eq_true rfl)) rfl rfl ?_
  refine pm_R_lo pm_M0 (pc_q := 1708) (pm_q0_21 (Nat.le_of_ble_eq_true rfl)) rfl rfl ?_
  refine pm_R_op pm_M0 (pc_q := 1709) (st_q := [.int 3, .int (Int32.ofNat n), .ref 0, .int x2, .int x1, .ref 16]) (pm_q0_21 (Nat.le_of_ble_eq_true rfl)) rfl rfl ?_
  refine pm_R_op pm_M0 (pc_q := 1710) (st_q := [.int (Int32.ofNat (n + 3)), .ref 0, .int x2, .int x1, .ref 16]) (pm_q0_21 (Nat.le_of_ble_eq_true rfl)) (congrArg (fun z => some (Value.int z :: [.ref 0, .int x2, .int x1, .ref 16])) (p2_ad (n := n) (c := 3) (k := 3) rfl)) rfl ?_
  refine pm_R_iald pm_M0 (pc_q := 1711) (v := x3) (pm_q0_21 (Nat.le_of_ble_eq_true rfl)) ((T.old (by decide)).trans e0) (T.lt (by decide)) (p2_in (by omega) hL) v3 rfl ?_
  refine pm_R_lo pm_M0 (pc_q := 1712) (pm_q0_21 (Nat.le_of_ble_eq_true rfl)) rfl rfl ?_
  refine pm_R_lo pm_M0 (pc_q := 1713) (pm_q0_21 (Nat.le_of_ble_eq_true rfl)) rfl rfl ?_
  refine pm_R_op pm_M0 (pc_q := 1714) (st_q := [.int 4, .int (Int32.ofNat n), .ref 0, .int x3, .int x2, .int x1, .ref 16]) (pm_q0_21 (Nat.le_of_ble_eq_true rfl)) rfl rfl ?_
  refine pm_R_op pm_M0 (pc_q := 1715) (st_q := [.int (Int32.ofNat (n + 4)), .ref 0, .int x3, .int x2, .int x1, .ref 16]) (pm_q0_21 (Nat.le_of_ble_eq_true rfl)) (congrArg (fun z => some (Value.int z :: [.ref 0, .int x3, .int x2, .int x1, .ref 16])) (p2_ad (n := n) (c := 4) (k := 4) rfl)) rfl ?_
  refine pm_R_iald pm_M0 (pc_q := 1716) (v := x4) (pm_q0_21 (Nat.le_of_ble_eq_true rfl)) ((T.old (by decide)).trans e0) (T.lt (by decide)) (p2_in (by omega) hL) v4 rfl ?_
  refine pm_R_lo pm_M0 (pc_q := 1717) (pm_q0_21 (Nat.le_of_ble_eq_true rfl)) rfl rfl ?_
  refine pm_R_lo pm_M0 (pc_q := 1718) (pm_q0_21 (Nat.le_of_ble_eq_true rfl)) rfl rfl ?_
  refine pm_R_op pm_M0 (pc_q := 1719) (st_q := [.int 5, .int (Int32.ofNat n), .ref 0, .int x4, .int x3, .int x2, .int x1, .ref 16]) (pm_q0_21 (Nat.le_of_ble_eq_true rfl)) rfl rfl ?_
  refine pm_R_op pm_M0 (pc_q := 1720) (st_q := [.int (Int32.ofNat (n + 5)), .ref 0, .int x4, .int x3, .int x2, .int x1, .ref 16]) (pm_q0_21 (Nat.le_of_ble_eq_true rfl)) (congrArg (fun z => some (Value.int z :: [.ref 0, .int x4, .int x3, .int x2, .int x1, .ref 16])) (p2_ad (n := n) (c := 5) (k := 5) rfl)) rfl ?_
  refine pm_R_iald pm_M0 (pc_q := 1721) (v := x5) (pm_q0_21 (Nat.le_of_ble_eq_true rfl)) ((T.old (by decide)).trans e0) (T.lt (by decide)) (p2_in (by omega) hL) v5 rfl ?_
  refine pm_R_cv pm_M0 (pc_q := 1724) (a := 16) (ra := [.int x5, .int x4, .int x3, .int x2, .int x1]) (rest := []) (ls_q := [.ref 16, .int x1, .int x2, .int x3, .int x4, .int x5, pm_no, pm_no, pm_no, pm_no, pm_no, pm_no, pm_no, pm_no]) (pm_q0_21 (Nat.le_of_ble_eq_true rfl)) rfl (Or.inl rfl) pm_M120 T.e16 rfl (by decide) (T.lt (by decide)) rfl rfl (Nat.le_of_ble_eq_true rfl) rfl rfl ?_
  refine ex_inj WW KK rfl ?_
  refine cl_c120 G T (fun r1 m1 h1 T1 F1 W1 _ => ?_)
  intro WW KK
  show pm_R 100 0 1724 [.ref 0, .ref 16, .ref 41, .int (Int32.ofNat n)] [.int r1] _ _
  have RR := R2_cl G T F1 (by decide) RR
  have I := p2_cl (j := j) G T Tr Y e0 S R hc T1 F1 (W1 0 (by decide)) (by decide) (by decide) (by decide) (by decide) (by decide) (by decide) (by decide)
  obtain ⟨ck, E, m, o, mr, wr, G, T, Tr, Y, e0, S, R, hc⟩ := I
  refine pm_R_op pm_M0 (pc_q := 1725) (st_q := []) (pm_q0_21 (Nat.le_of_ble_eq_true rfl)) rfl rfl ?_
  refine pm_R_lo pm_M0 (pc_q := 1726) (pm_q0_21 (Nat.le_of_ble_eq_true rfl)) rfl rfl ?_
  refine pm_R_lo pm_M0 (pc_q := 1727) (pm_q0_21 (Nat.le_of_ble_eq_true rfl)) rfl rfl ?_
  refine pm_R_lo pm_M0 (pc_q := 1728) (pm_q0_21 (Nat.le_of_ble_eq_true rfl)) rfl rfl ?_
  refine pm_R_op pm_M0 (pc_q := 1729) (st_q := [.int 1, .int (Int32.ofNat n), .ref 0, .ref 41]) (pm_q0_21 (Nat.le_of_ble_eq_true rfl)) rfl rfl ?_
  refine pm_R_op pm_M0 (pc_q := 1730) (st_q := [.int (Int32.ofNat (n + 1)), .ref 0, .ref 41]) (pm_q0_21 (Nat.le_of_ble_eq_true rfl)) (congrArg (fun z => some (Value.int z :: [.ref 0, .ref 41])) (p2_ad (n := n) (c := 1) (k := 1) rfl)) rfl ?_
  refine pm_R_iald pm_M0 (pc_q := 1731) (v := x1) (pm_q0_21 (Nat.le_of_ble_eq_true rfl)) ((T.old (by decide)).trans e0) (T.lt (by decide)) (p2_in (by omega) hL) v1 rfl ?_
  refine pm_R_lo pm_M0 (pc_q := 1732) (pm_q0_21 (Nat.le_of_ble_eq_true rfl)) rfl rfl ?_
  refine pm_R_lo pm_M0 (pc_q := 1733) (pm_q0_22 (Nat.le_of_ble_eq_true rfl)) rfl rfl ?_
  refine pm_R_op pm_M0 (pc_q := 1734) (st_q := [.int 2, .int (Int32.ofNat n), .ref 0, .int x1, .ref 41]) (pm_q0_22 (Nat.le_of_ble_eq_true rfl)) rfl rfl ?_
  refine pm_R_op pm_M0 (pc_q := 1735) (st_q := [.int (Int32.ofNat (n + 2)), .ref 0, .int x1, .ref 41]) (pm_q0_22 (Nat.le_of_ble_eq_true rfl)) (congrArg (fun z => some (Value.int z :: [.ref 0, .int x1, .ref 41])) (p2_ad (n := n) (c := 2) (k := 2) rfl)) rfl ?_
  refine pm_R_iald pm_M0 (pc_q := 1736) (v := x2) (pm_q0_22 (Nat.le_of_ble_eq_true rfl)) ((T.old (by decide)).trans e0) (T.lt (by decide)) (p2_in (by omega) hL) v2 rfl ?_
  refine pm_R_lo pm_M0 (pc_q := 1737) (pm_q0_22 (Nat.le_of_ble_eq_true rfl)) rfl rfl ?_
  refine pm_R_lo pm_M0 (pc_q := 1738) (pm_q0_22 (Nat.le_of_ble_eq_true rfl)) rfl rfl ?_
  refine pm_R_op pm_M0 (pc_q := 1739) (st_q := [.int 3, .int (Int32.ofNat n), .ref 0, .int x2, .int x1, .ref 41]) (pm_q0_22 (Nat.le_of_ble_eq_true rfl)) rfl rfl ?_
  refine pm_R_op pm_M0 (pc_q := 1740) (st_q := [.int (Int32.ofNat (n + 3)), .ref 0, .int x2, .int x1, .ref 41]) (pm_q0_22 (Nat.le_of_ble_eq_true rfl)) (congrArg (fun z => some (Value.int z :: [.ref 0, .int x2, .int x1, .ref 41])) (p2_ad (n := n) (c := 3) (k := 3) rfl)) rfl ?_
  refine pm_R_iald pm_M0 (pc_q := 1741) (v := x3) (pm_q0_22 (Nat.le_of_ble_eq_true rfl)) ((T.old (by decide)).trans e0) (T.lt (by decide)) (p2_in (by omega) hL) v3 rfl ?_
  refine pm_R_lo pm_M0 (pc_q := 1742) (pm_q0_22 (Nat.le_of_ble_eq_true rfl)) rfl rfl ?_
  refine pm_R_lo pm_M0 (pc_q := 1743) (pm_q0_22 (Nat.le_of_ble_eq_true rfl)) rfl rfl ?_
  refine pm_R_op pm_M0 (pc_q := 1744) (st_q := [.int 4, .int (Int32.ofNat n), .ref 0, .int x3, .int x2, .int x1, .ref 41]) (pm_q0_22 (Nat.le_of_ble_eq_true rfl)) rfl rfl ?_
  refine pm_R_op pm_M0 (pc_q := 1745) (st_q := [.int (Int32.ofNat (n + 4)), .ref 0, .int x3, .int x2, .int x1, .ref 41]) (pm_q0_22 (Nat.le_of_ble_eq_true rfl)) (congrArg (fun z => some (Value.int z :: [.ref 0, .int x3, .int x2, .int x1, .ref 41])) (p2_ad (n := n) (c := 4) (k := 4) rfl)) rfl ?_
  refine pm_R_iald pm_M0 (pc_q := 1746) (v := x4) (pm_q0_22 (Nat.le_of_ble_eq_true rfl)) ((T.old (by decide)).trans e0) (T.lt (by decide)) (p2_in (by omega) hL) v4 rfl ?_
  refine pm_R_lo pm_M0 (pc_q := 1747) (pm_q0_22 (Nat.le_of_ble_eq_true rfl)) rfl rfl ?_
  refine pm_R_lo pm_M0 (pc_q := 1748) (pm_q0_22 (Nat.le_of_ble_eq_true rfl)) rfl rfl ?_
  refine pm_R_op pm_M0 (pc_q := 1749) (st_q := [.int 5, .int (Int32.ofNat n), .ref 0, .int x4, .int x3, .int x2, .int x1, .ref 41]) (pm_q0_22 (Nat.le_of_ble_eq_true rfl)) rfl rfl ?_
  refine pm_R_op pm_M0 (pc_q := 1750) (st_q := [.int (Int32.ofNat (n + 5)), .ref 0, .int x4, .int x3, .int x2, .int x1, .ref 41]) (pm_q0_22 (Nat.le_of_ble_eq_true rfl)) (congrArg (fun z => some (Value.int z :: [.ref 0, .int x4, .int x3, .int x2, .int x1, .ref 41])) (p2_ad (n := n) (c := 5) (k := 5) rfl)) rfl ?_
  refine pm_R_iald pm_M0 (pc_q := 1751) (v := x5) (pm_q0_22 (Nat.le_of_ble_eq_true rfl)) ((T.old (by decide)).trans e0) (T.lt (by decide)) (p2_in (by omega) hL) v5 rfl ?_
  refine pm_R_cv pm_M0 (pc_q := 1754) (a := 41) (ra := [.int x5, .int x4, .int x3, .int x2, .int x1]) (rest := []) (ls_q := [.ref 41, .int x1, .int x2, .int x3, .int x4, .int x5, pm_no, pm_no]) (pm_q0_22 (Nat.le_of_ble_eq_true rfl)) rfl (Or.inl rfl) pm_M284 Tr.2.1 rfl (by decide) (Nat.lt_of_lt_of_le (by decide) Tr.1) rfl rfl (Nat.le_of_ble_eq_true rfl) rfl rfl ?_
  refine ex_inj WW KK rfl ?_
  refine rf_c284 Tr (fun r2 m1 w1 h1 T1 F1 W1 _ => ?_)
  intro WW KK
  show pm_R 100 0 1754 [.ref 0, .ref 16, .ref 41, .int (Int32.ofNat n)] [.int r2] _ _
  have RR := R2_rf F1 (by decide) RR
  have I := p2_rf G T Y e0 S R hc T1 F1 (by decide)
  refine pm_R_op pm_M0 (pc_q := 1755) (st_q := []) (pm_q0_22 (Nat.le_of_ble_eq_true rfl)) rfl rfl ?_
  refine pm_R_br pm_M0 (pc_q := 2117) (pm_q0_22 (Nat.le_of_ble_eq_true rfl)) rfl ?_
  exact K _ ⟨I, WW, KK, RR⟩

set_option maxRecDepth 100000 in
set_option maxHeartbeats 4000000 in
theorem p6_k34 {L n j : Nat} {xs : Nat → Int32} {h : pm_H} {Q : Option Value → pm_H → Prop} (I : p6_I L xs j h) (hn : n + 7 ≤ L) (hL : L ≤ 3584) (K : ∀ h_q, p6_I L xs (j + 1) h_q → pm_R 100 0 2117 [.ref 0, .ref 16, .ref 41, .int (Int32.ofNat n)] [] h_q Q) : pm_R 100 0 1758 [.ref 0, .ref 16, .ref 41, .int (Int32.ofNat n)] [] h Q := by
  obtain ⟨x1, v1⟩ : ∃ y, xs (Int32.toNatClampNeg (Int32.ofNat (n + 1))) = y := ⟨_, rfl⟩
  obtain ⟨x2, v2⟩ : ∃ y, xs (Int32.toNatClampNeg (Int32.ofNat (n + 2))) = y := ⟨_, rfl⟩
  obtain ⟨x3, v3⟩ : ∃ y, xs (Int32.toNatClampNeg (Int32.ofNat (n + 3))) = y := ⟨_, rfl⟩
  obtain ⟨I, WW, KK, RR⟩ := I
  obtain ⟨ck, E, m, o, mr, wr, G, T, Tr, Y, e0, S, R, hc⟩ := I
  refine pm_R_lo pm_M0 (pc_q := 1759) (pm_q0_22 (Nat.le_of_ble_eq_true rfl)) rfl rfl ?_
  refine pm_R_lo pm_M0 (pc_q := 1760) (pm_q0_22 (Nat.le_of_ble_eq_true rfl)) rfl rfl ?_
  refine pm_R_lo pm_M0 (pc_q := 1761) (pm_q0_22 (Nat.le_of_ble_eq_true rfl)) rfl rfl ?_
  refine pm_R_op pm_M0 (pc_q := 1762) (st_q := [.int 1, .int (Int32.ofNat n), .ref 0, .ref 16]) (pm_q0_22 (Nat.le_of_ble_eq_true rfl)) rfl rfl ?_
  refine pm_R_op pm_M0 (pc_q := 1763) (st_q := [.int (Int32.ofNat (n + 1)), .ref 0, .ref 16]) (pm_q0_22 (Nat.le_of_ble_eq_true rfl)) (congrArg (fun z => some (Value.int z :: [.ref 0, .ref 16])) (p2_ad (n := n) (c := 1) (k := 1) rfl)) rfl ?_
  refine pm_R_iald pm_M0 (pc_q := 1764) (v := x1) (pm_q0_22 (Nat.le_of_ble_eq_true rfl)) ((T.old (by decide)).trans e0) (T.lt (by decide)) (p2_in (by omega) hL) v1 rfl ?_
  refine pm_R_lo pm_M0 (pc_q := 1765) (pm_q0_22 (Nat.le_of_ble_eq_true rfl)) rfl rfl ?_
  refine pm_R_lo pm_M0 (pc_q := 1766) (pm_q0_22 (Nat.le_of_ble_eq_true rfl)) rfl rfl ?_
  refine pm_R_op pm_M0 (pc_q := 1767) (st_q := [.int 2, .int (Int32.ofNat n), .ref 0, .int x1, .ref 16]) (pm_q0_22 (Nat.le_of_ble_eq_true rfl)) rfl rfl ?_
  refine pm_R_op pm_M0 (pc_q := 1768) (st_q := [.int (Int32.ofNat (n + 2)), .ref 0, .int x1, .ref 16]) (pm_q0_22 (Nat.le_of_ble_eq_true rfl)) (congrArg (fun z => some (Value.int z :: [.ref 0, .int x1, .ref 16])) (p2_ad (n := n) (c := 2) (k := 2) rfl)) rfl ?_
  refine pm_R_iald pm_M0 (pc_q := 1769) (v := x2) (pm_q0_22 (Nat.le_of_ble_eq_true rfl)) ((T.old (by decide)).trans e0) (T.lt (by decide)) (p2_in (by omega) hL) v2 rfl ?_
  refine pm_R_lo pm_M0 (pc_q := 1770) (pm_q0_22 (Nat.le_of_ble_eq_true rfl)) rfl rfl ?_
  refine pm_R_lo pm_M0 (pc_q := 1771) (pm_q0_22 (Nat.le_of_ble_eq_true rfl)) rfl rfl ?_
  refine pm_R_op pm_M0 (pc_q := 1772) (st_q := [.int 3, .int (Int32.ofNat n), .ref 0, .int x2, .int x1, .ref 16]) (pm_q0_22 (Nat.le_of_ble_eq_true rfl)) rfl rfl ?_
  refine pm_R_op pm_M0 (pc_q := 1773) (st_q := [.int (Int32.ofNat (n + 3)), .ref 0, .int x2, .int x1, .ref 16]) (pm_q0_22 (Nat.le_of_ble_eq_true rfl)) (congrArg (fun z => some (Value.int z :: [.ref 0, .int x2, .int x1, .ref 16])) (p2_ad (n := n) (c := 3) (k := 3) rfl)) rfl ?_
  refine pm_R_iald pm_M0 (pc_q := 1774) (v := x3) (pm_q0_22 (Nat.le_of_ble_eq_true rfl)) ((T.old (by decide)).trans e0) (T.lt (by decide)) (p2_in (by omega) hL) v3 rfl ?_
  refine pm_R_cv pm_M0 (pc_q := 1777) (a := 16) (ra := [.int x3, .int x2, .int x1]) (rest := []) (ls_q := [.ref 16, .int x1, .int x2, .int x3, pm_no]) (pm_q0_22 (Nat.le_of_ble_eq_true rfl)) rfl (Or.inl rfl) pm_M137 T.e16 rfl (by decide) (T.lt (by decide)) rfl rfl (Nat.le_of_ble_eq_true rfl) rfl rfl ?_
  suffices go : ∀ (r1 : Int64) (h1 : pm_H), p2_I L xs (j + 1) h1 → ex_W h1 → ex_K h1 → R2 (ex_V h1) → pm_R 100 0 1777 [.ref 0, .ref 16, .ref 41, .int (Int32.ofNat n)] [.long r1] h1 Q by
    refine ex_inj WW KK rfl ?_
    refine cl_c137_x G T (fun r1 m1 h1 T1 F1 W1 X1 => ?_) (fun r1 m1 ck1 h1 A1 G1 T1 F1 W1 X1 => ?_)
    · exact fun WW KK => go _ _ (p2_clg (j := j) G T Tr S hc G T1 e0 (Y.cl G F1 (by decide)) (by obtain ⟨f, e, b⟩ := R; obtain ⟨f1, e1, b1⟩ := X1 f e; exact ⟨f1, e1, by omega⟩) F1 (W1 0 (by decide)) (by decide) (by decide) (by decide)) WW KK (R2_cl G T F1 (by decide) RR)
    · exact fun WW KK => go _ _ (p2_clg (j := j) G T Tr S hc G1 T1 e0 (Y.cl G F1 (by decide)) (by obtain ⟨f, e, b⟩ := R; obtain ⟨f1, e1, b1⟩ := X1 f e; exact ⟨f1, e1, by omega⟩) F1 (W1 0 (by decide)) (by decide) (by decide) (by decide)) WW KK (R2_cl G T F1 (by decide) RR)
  intro r1 h1 I WW KK RR
  obtain ⟨ck, E, m, o, mr, wr, G, T, Tr, Y, e0, S, R, hc⟩ := I
  refine pm_R_op pm_M0 (pc_q := 1778) (st_q := []) (pm_q0_22 (Nat.le_of_ble_eq_true rfl)) rfl rfl ?_
  refine pm_R_lo pm_M0 (pc_q := 1779) (pm_q0_22 (Nat.le_of_ble_eq_true rfl)) rfl rfl ?_
  refine pm_R_lo pm_M0 (pc_q := 1780) (pm_q0_22 (Nat.le_of_ble_eq_true rfl)) rfl rfl ?_
  refine pm_R_lo pm_M0 (pc_q := 1781) (pm_q0_22 (Nat.le_of_ble_eq_true rfl)) rfl rfl ?_
  refine pm_R_op pm_M0 (pc_q := 1782) (st_q := [.int 1, .int (Int32.ofNat n), .ref 0, .ref 41]) (pm_q0_22 (Nat.le_of_ble_eq_true rfl)) rfl rfl ?_
  refine pm_R_op pm_M0 (pc_q := 1783) (st_q := [.int (Int32.ofNat (n + 1)), .ref 0, .ref 41]) (pm_q0_22 (Nat.le_of_ble_eq_true rfl)) (congrArg (fun z => some (Value.int z :: [.ref 0, .ref 41])) (p2_ad (n := n) (c := 1) (k := 1) rfl)) rfl ?_
  refine pm_R_iald pm_M0 (pc_q := 1784) (v := x1) (pm_q0_22 (Nat.le_of_ble_eq_true rfl)) ((T.old (by decide)).trans e0) (T.lt (by decide)) (p2_in (by omega) hL) v1 rfl ?_
  refine pm_R_lo pm_M0 (pc_q := 1785) (pm_q0_22 (Nat.le_of_ble_eq_true rfl)) rfl rfl ?_
  refine pm_R_lo pm_M0 (pc_q := 1786) (pm_q0_22 (Nat.le_of_ble_eq_true rfl)) rfl rfl ?_
  refine pm_R_op pm_M0 (pc_q := 1787) (st_q := [.int 2, .int (Int32.ofNat n), .ref 0, .int x1, .ref 41]) (pm_q0_22 (Nat.le_of_ble_eq_true rfl)) rfl rfl ?_
  refine pm_R_op pm_M0 (pc_q := 1788) (st_q := [.int (Int32.ofNat (n + 2)), .ref 0, .int x1, .ref 41]) (pm_q0_22 (Nat.le_of_ble_eq_true rfl)) (congrArg (fun z => some (Value.int z :: [.ref 0, .int x1, .ref 41])) (p2_ad (n := n) (c := 2) (k := 2) rfl)) rfl ?_
  refine pm_R_iald pm_M0 (pc_q := 1789) (v := x2) (pm_q0_22 (Nat.le_of_ble_eq_true rfl)) ((T.old (by decide)).trans e0) (T.lt (by decide)) (p2_in (by omega) hL) v2 rfl ?_
  refine pm_R_lo pm_M0 (pc_q := 1790) (pm_q0_22 (Nat.le_of_ble_eq_true rfl)) rfl rfl ?_
  refine pm_R_lo pm_M0 (pc_q := 1791) (pm_q0_22 (Nat.le_of_ble_eq_true rfl)) rfl rfl ?_
  refine pm_R_op pm_M0 (pc_q := 1792) (st_q := [.int 3, .int (Int32.ofNat n), .ref 0, .int x2, .int x1, .ref 41]) (pm_q0_22 (Nat.le_of_ble_eq_true rfl)) rfl rfl ?_
  refine pm_R_op pm_M0 (pc_q := 1793) (st_q := [.int (Int32.ofNat (n + 3)), .ref 0, .int x2, .int x1, .ref 41]) (pm_q0_22 (Nat.le_of_ble_eq_true rfl)) (congrArg (fun z => some (Value.int z :: [.ref 0, .int x2, .int x1, .ref 41])) (p2_ad (n := n) (c := 3) (k := 3) rfl)) rfl ?_
  refine pm_R_iald pm_M0 (pc_q := 1794) (v := x3) (pm_q0_22 (Nat.le_of_ble_eq_true rfl)) ((T.old (by decide)).trans e0) (T.lt (by decide)) (p2_in (by omega) hL) v3 rfl ?_
  refine pm_R_cv pm_M0 (pc_q := 1797) (a := 41) (ra := [.int x3, .int x2, .int x1]) (rest := []) (ls_q := [.ref 41, .int x1, .int x2, .int x3, pm_no, pm_no, pm_no, pm_no, pm_no, pm_no, pm_no, pm_no, pm_no]) (pm_q0_22 (Nat.le_of_ble_eq_true rfl)) rfl (Or.inl rfl) pm_M287 Tr.2.1 rfl (by decide) (Nat.lt_of_lt_of_le (by decide) Tr.1) rfl rfl (Nat.le_of_ble_eq_true rfl) rfl rfl ?_
  refine ex_inj WW KK rfl ?_
  refine rf_c287 Tr (fun r2 m1 w1 h1 T1 F1 W1 => ?_)
  intro WW KK
  show pm_R 100 0 1797 [.ref 0, .ref 16, .ref 41, .int (Int32.ofNat n)] [.long r2] _ _
  have RR := R2_rf F1 (by decide) RR
  have I := p2_rf G T Y e0 S R hc T1 F1 (by decide)
  refine pm_R_op pm_M0 (pc_q := 1798) (st_q := []) (pm_q0_22 (Nat.le_of_ble_eq_true rfl)) rfl rfl ?_
  refine pm_R_br pm_M0 (pc_q := 2117) (pm_q0_22 (Nat.le_of_ble_eq_true rfl)) rfl ?_
  exact K _ ⟨I, WW, KK, RR⟩

set_option maxRecDepth 100000 in
set_option maxHeartbeats 4000000 in
theorem p6_k35 {L n j : Nat} {xs : Nat → Int32} {h : pm_H} {Q : Option Value → pm_H → Prop} (I : p6_I L xs j h) (hn : n + 7 ≤ L) (hL : L ≤ 3584) (K : ∀ h_q, p6_I L xs (j + 1) h_q → pm_R 100 0 2117 [.ref 0, .ref 16, .ref 41, .int (Int32.ofNat n)] [] h_q Q) : pm_R 100 0 1801 [.ref 0, .ref 16, .ref 41, .int (Int32.ofNat n)] [] h Q := by
  obtain ⟨x1, v1⟩ : ∃ y, xs (Int32.toNatClampNeg (Int32.ofNat (n + 1))) = y := ⟨_, rfl⟩
  obtain ⟨x2, v2⟩ : ∃ y, xs (Int32.toNatClampNeg (Int32.ofNat (n + 2))) = y := ⟨_, rfl⟩
  obtain ⟨x3, v3⟩ : ∃ y, xs (Int32.toNatClampNeg (Int32.ofNat (n + 3))) = y := ⟨_, rfl⟩
  obtain ⟨I, WW, KK, RR⟩ := I
  obtain ⟨ck, E, m, o, mr, wr, G, T, Tr, Y, e0, S, R, hc⟩ := I
  refine pm_R_lo pm_M0 (pc_q := 1802) (pm_q0_22 (Nat.le_of_ble_eq_true rfl)) rfl rfl ?_
  refine pm_R_lo pm_M0 (pc_q := 1803) (pm_q0_23 (Nat.le_of_ble_eq_true rfl)) rfl rfl ?_
  refine pm_R_lo pm_M0 (pc_q := 1804) (pm_q0_23 (Nat.le_of_ble_eq_true rfl)) rfl rfl ?_
  refine pm_R_op pm_M0 (pc_q := 1805) (st_q := [.int 1, .int (Int32.ofNat n), .ref 0, .ref 16]) (pm_q0_23 (Nat.le_of_ble_eq_true rfl)) rfl rfl ?_
  refine pm_R_op pm_M0 (pc_q := 1806) (st_q := [.int (Int32.ofNat (n + 1)), .ref 0, .ref 16]) (pm_q0_23 (Nat.le_of_ble_eq_true rfl)) (congrArg (fun z => some (Value.int z :: [.ref 0, .ref 16])) (p2_ad (n := n) (c := 1) (k := 1) rfl)) rfl ?_
  refine pm_R_iald pm_M0 (pc_q := 1807) (v := x1) (pm_q0_23 (Nat.le_of_ble_eq_true rfl)) ((T.old (by decide)).trans e0) (T.lt (by decide)) (p2_in (by omega) hL) v1 rfl ?_
  refine pm_R_lo pm_M0 (pc_q := 1808) (pm_q0_23 (Nat.le_of_ble_eq_true rfl)) rfl rfl ?_
  refine pm_R_lo pm_M0 (pc_q := 1809) (pm_q0_23 (Nat.le_of_ble_eq_true rfl)) rfl rfl ?_
  refine pm_R_op pm_M0 (pc_q := 1810) (st_q := [.int 2, .int (Int32.ofNat n), .ref 0, .int x1, .ref 16]) (pm_q0_23 (Nat.le_of_ble_eq_true rfl)) rfl rfl ?_
  refine pm_R_op pm_M0 (pc_q := 1811) (st_q := [.int (Int32.ofNat (n + 2)), .ref 0, .int x1, .ref 16]) (pm_q0_23 (Nat.le_of_ble_eq_true rfl)) (congrArg (fun z => some (Value.int z :: [.ref 0, .int x1, .ref 16])) (p2_ad (n := n) (c := 2) (k := 2) rfl)) rfl ?_
  refine pm_R_iald pm_M0 (pc_q := 1812) (v := x2) (pm_q0_23 (Nat.le_of_ble_eq_true rfl)) ((T.old (by decide)).trans e0) (T.lt (by decide)) (p2_in (by omega) hL) v2 rfl ?_
  refine pm_R_lo pm_M0 (pc_q := 1813) (pm_q0_23 (Nat.le_of_ble_eq_true rfl)) rfl rfl ?_
  refine pm_R_lo pm_M0 (pc_q := 1814) (pm_q0_23 (Nat.le_of_ble_eq_true rfl)) rfl rfl ?_
  refine pm_R_op pm_M0 (pc_q := 1815) (st_q := [.int 3, .int (Int32.ofNat n), .ref 0, .int x2, .int x1, .ref 16]) (pm_q0_23 (Nat.le_of_ble_eq_true rfl)) rfl rfl ?_
  refine pm_R_op pm_M0 (pc_q := 1816) (st_q := [.int (Int32.ofNat (n + 3)), .ref 0, .int x2, .int x1, .ref 16]) (pm_q0_23 (Nat.le_of_ble_eq_true rfl)) (congrArg (fun z => some (Value.int z :: [.ref 0, .int x2, .int x1, .ref 16])) (p2_ad (n := n) (c := 3) (k := 3) rfl)) rfl ?_
  refine pm_R_iald pm_M0 (pc_q := 1817) (v := x3) (pm_q0_23 (Nat.le_of_ble_eq_true rfl)) ((T.old (by decide)).trans e0) (T.lt (by decide)) (p2_in (by omega) hL) v3 rfl ?_
  refine pm_R_cv pm_M0 (pc_q := 1820) (a := 16) (ra := [.int x3, .int x2, .int x1]) (rest := []) (ls_q := [.ref 16, .int x1, .int x2, .int x3, pm_no, pm_no, pm_no, pm_no, pm_no, pm_no]) (pm_q0_23 (Nat.le_of_ble_eq_true rfl)) rfl (Or.inl rfl) pm_M118 T.e16 rfl (by decide) (T.lt (by decide)) rfl rfl (Nat.le_of_ble_eq_true rfl) rfl rfl ?_
  refine ex_inj WW KK rfl ?_
  refine cl_c118 G T (fun r1 _ => ?_)
  intro WW KK
  show pm_R 100 0 1820 [.ref 0, .ref 16, .ref 41, .int (Int32.ofNat n)] [.int r1] _ _
  have I := p2_up (⟨ck, E, m, o, mr, wr, G, T, Tr, Y, e0, S, R, hc⟩ : p2_I L xs j h)
  obtain ⟨ck, E, m, o, mr, wr, G, T, Tr, Y, e0, S, R, hc⟩ := I
  refine pm_R_op pm_M0 (pc_q := 1821) (st_q := []) (pm_q0_23 (Nat.le_of_ble_eq_true rfl)) rfl rfl ?_
  refine pm_R_lo pm_M0 (pc_q := 1822) (pm_q0_23 (Nat.le_of_ble_eq_true rfl)) rfl rfl ?_
  refine pm_R_lo pm_M0 (pc_q := 1823) (pm_q0_23 (Nat.le_of_ble_eq_true rfl)) rfl rfl ?_
  refine pm_R_lo pm_M0 (pc_q := 1824) (pm_q0_23 (Nat.le_of_ble_eq_true rfl)) rfl rfl ?_
  refine pm_R_op pm_M0 (pc_q := 1825) (st_q := [.int 1, .int (Int32.ofNat n), .ref 0, .ref 41]) (pm_q0_23 (Nat.le_of_ble_eq_true rfl)) rfl rfl ?_
  refine pm_R_op pm_M0 (pc_q := 1826) (st_q := [.int (Int32.ofNat (n + 1)), .ref 0, .ref 41]) (pm_q0_23 (Nat.le_of_ble_eq_true rfl)) (congrArg (fun z => some (Value.int z :: [.ref 0, .ref 41])) (p2_ad (n := n) (c := 1) (k := 1) rfl)) rfl ?_
  refine pm_R_iald pm_M0 (pc_q := 1827) (v := x1) (pm_q0_23 (Nat.le_of_ble_eq_true rfl)) ((T.old (by decide)).trans e0) (T.lt (by decide)) (p2_in (by omega) hL) v1 rfl ?_
  refine pm_R_lo pm_M0 (pc_q := 1828) (pm_q0_23 (Nat.le_of_ble_eq_true rfl)) rfl rfl ?_
  refine pm_R_lo pm_M0 (pc_q := 1829) (pm_q0_23 (Nat.le_of_ble_eq_true rfl)) rfl rfl ?_
  refine pm_R_op pm_M0 (pc_q := 1830) (st_q := [.int 2, .int (Int32.ofNat n), .ref 0, .int x1, .ref 41]) (pm_q0_23 (Nat.le_of_ble_eq_true rfl)) rfl rfl ?_
  refine pm_R_op pm_M0 (pc_q := 1831) (st_q := [.int (Int32.ofNat (n + 2)), .ref 0, .int x1, .ref 41]) (pm_q0_23 (Nat.le_of_ble_eq_true rfl)) (congrArg (fun z => some (Value.int z :: [.ref 0, .int x1, .ref 41])) (p2_ad (n := n) (c := 2) (k := 2) rfl)) rfl ?_
  refine pm_R_iald pm_M0 (pc_q := 1832) (v := x2) (pm_q0_23 (Nat.le_of_ble_eq_true rfl)) ((T.old (by decide)).trans e0) (T.lt (by decide)) (p2_in (by omega) hL) v2 rfl ?_
  refine pm_R_lo pm_M0 (pc_q := 1833) (pm_q0_23 (Nat.le_of_ble_eq_true rfl)) rfl rfl ?_
  refine pm_R_lo pm_M0 (pc_q := 1834) (pm_q0_23 (Nat.le_of_ble_eq_true rfl)) rfl rfl ?_
  refine pm_R_op pm_M0 (pc_q := 1835) (st_q := [.int 3, .int (Int32.ofNat n), .ref 0, .int x2, .int x1, .ref 41]) (pm_q0_23 (Nat.le_of_ble_eq_true rfl)) rfl rfl ?_
  refine pm_R_op pm_M0 (pc_q := 1836) (st_q := [.int (Int32.ofNat (n + 3)), .ref 0, .int x2, .int x1, .ref 41]) (pm_q0_23 (Nat.le_of_ble_eq_true rfl)) (congrArg (fun z => some (Value.int z :: [.ref 0, .int x2, .int x1, .ref 41])) (p2_ad (n := n) (c := 3) (k := 3) rfl)) rfl ?_
  refine pm_R_iald pm_M0 (pc_q := 1837) (v := x3) (pm_q0_23 (Nat.le_of_ble_eq_true rfl)) ((T.old (by decide)).trans e0) (T.lt (by decide)) (p2_in (by omega) hL) v3 rfl ?_
  refine pm_R_cv pm_M0 (pc_q := 1840) (a := 41) (ra := [.int x3, .int x2, .int x1]) (rest := []) (ls_q := [.ref 41, .int x1, .int x2, .int x3, pm_no, pm_no, pm_no]) (pm_q0_23 (Nat.le_of_ble_eq_true rfl)) rfl (Or.inl rfl) pm_M288 Tr.2.1 rfl (by decide) (Nat.lt_of_lt_of_le (by decide) Tr.1) rfl rfl (Nat.le_of_ble_eq_true rfl) rfl rfl ?_
  refine ex_inj WW KK rfl ?_
  refine rf_c288 Tr (fun r2 m1 w1 h1 T1 F1 W1 _ => ?_)
  intro WW KK
  show pm_R 100 0 1840 [.ref 0, .ref 16, .ref 41, .int (Int32.ofNat n)] [.int r2] _ _
  have RR := R2_rf F1 (by decide) RR
  have I := p2_rf G T Y e0 S R hc T1 F1 (by decide)
  refine pm_R_op pm_M0 (pc_q := 1841) (st_q := []) (pm_q0_23 (Nat.le_of_ble_eq_true rfl)) rfl rfl ?_
  refine pm_R_br pm_M0 (pc_q := 2117) (pm_q0_23 (Nat.le_of_ble_eq_true rfl)) rfl ?_
  exact K _ ⟨I, WW, KK, RR⟩

set_option maxRecDepth 100000 in
set_option maxHeartbeats 4000000 in
theorem p6_k36 {L n j : Nat} {xs : Nat → Int32} {h : pm_H} {Q : Option Value → pm_H → Prop} (I : p6_I L xs j h) (hn : n + 7 ≤ L) (hL : L ≤ 3584) (K : ∀ h_q, p6_I L xs (j + 1) h_q → pm_R 100 0 2117 [.ref 0, .ref 16, .ref 41, .int (Int32.ofNat n)] [] h_q Q) : pm_R 100 0 1844 [.ref 0, .ref 16, .ref 41, .int (Int32.ofNat n)] [] h Q := by
  obtain ⟨x1, v1⟩ : ∃ y, xs (Int32.toNatClampNeg (Int32.ofNat (n + 1))) = y := ⟨_, rfl⟩
  obtain ⟨x2, v2⟩ : ∃ y, xs (Int32.toNatClampNeg (Int32.ofNat (n + 2))) = y := ⟨_, rfl⟩
  obtain ⟨x3, v3⟩ : ∃ y, xs (Int32.toNatClampNeg (Int32.ofNat (n + 3))) = y := ⟨_, rfl⟩
  obtain ⟨x4, v4⟩ : ∃ y, xs (Int32.toNatClampNeg (Int32.ofNat (n + 4))) = y := ⟨_, rfl⟩
  obtain ⟨I, WW, KK, RR⟩ := I
  obtain ⟨ck, E, m, o, mr, wr, G, T, Tr, Y, e0, S, R, hc⟩ := I
  refine pm_R_lo pm_M0 (pc_q := 1845) (pm_q0_23 (Nat.le_of_ble_eq_true rfl)) rfl rfl ?_
  refine pm_R_lo pm_M0 (pc_q := 1846) (pm_q0_23 (Nat.le_of_ble_eq_true rfl)) rfl rfl ?_
  refine pm_R_lo pm_M0 (pc_q := 1847) (pm_q0_23 (Nat.le_of_ble_eq_true rfl)) rfl rfl ?_
  refine pm_R_op pm_M0 (pc_q := 1848) (st_q := [.int 1, .int (Int32.ofNat n), .ref 0, .ref 16]) (pm_q0_23 (Nat.le_of_ble_eq_true rfl)) rfl rfl ?_
  refine pm_R_op pm_M0 (pc_q := 1849) (st_q := [.int (Int32.ofNat (n + 1)), .ref 0, .ref 16]) (pm_q0_23 (Nat.le_of_ble_eq_true rfl)) (congrArg (fun z => some (Value.int z :: [.ref 0, .ref 16])) (p2_ad (n := n) (c := 1) (k := 1) rfl)) rfl ?_
  refine pm_R_iald pm_M0 (pc_q := 1850) (v := x1) (pm_q0_23 (Nat.le_of_ble_eq_true rfl)) ((T.old (by decide)).trans e0) (T.lt (by decide)) (p2_in (by omega) hL) v1 rfl ?_
  refine pm_R_lo pm_M0 (pc_q := 1851) (pm_q0_23 (Nat.le_of_ble_eq_true rfl)) rfl rfl ?_
  refine pm_R_lo pm_M0 (pc_q := 1852) (pm_q0_23 (Nat.le_of_ble_eq_true rfl)) rfl rfl ?_
  refine pm_R_op pm_M0 (pc_q := 1853) (st_q := [.int 2, .int (Int32.ofNat n), .ref 0, .int x1, .ref 16]) (pm_q0_23 (Nat.le_of_ble_eq_true rfl)) rfl rfl ?_
  refine pm_R_op pm_M0 (pc_q := 1854) (st_q := [.int (Int32.ofNat (n + 2)), .ref 0, .int x1, .ref 16]) (pm_q0_23 (Nat.le_of_ble_eq_true rfl)) (congrArg (fun z => some (Value.int z :: [.ref 0, .int x1, .ref 16])) (p2_ad (n := n) (c := 2) (k := 2) rfl)) rfl ?_
  refine pm_R_iald pm_M0 (pc_q := 1855) (v := x2) (pm_q0_23 (Nat.le_of_ble_eq_true rfl)) ((T.old (by decide)).trans e0) (T.lt (by decide)) (p2_in (by omega) hL) v2 rfl ?_
  refine pm_R_lo pm_M0 (pc_q := 1856) (pm_q0_23 (Nat.le_of_ble_eq_true rfl)) rfl rfl ?_
  refine pm_R_lo pm_M0 (pc_q := 1857) (pm_q0_23 (Nat.le_of_ble_eq_true rfl)) rfl rfl ?_
  refine pm_R_op pm_M0 (pc_q := 1858) (st_q := [.int 3, .int (Int32.ofNat n), .ref 0, .int x2, .int x1, .ref 16]) (pm_q0_23 (Nat.le_of_ble_eq_true rfl)) rfl rfl ?_
  refine pm_R_op pm_M0 (pc_q := 1859) (st_q := [.int (Int32.ofNat (n + 3)), .ref 0, .int x2, .int x1, .ref 16]) (pm_q0_23 (Nat.le_of_ble_eq_true rfl)) (congrArg (fun z => some (Value.int z :: [.ref 0, .int x2, .int x1, .ref 16])) (p2_ad (n := n) (c := 3) (k := 3) rfl)) rfl ?_
  refine pm_R_iald pm_M0 (pc_q := 1860) (v := x3) (pm_q0_23 (Nat.le_of_ble_eq_true rfl)) ((T.old (by decide)).trans e0) (T.lt (by decide)) (p2_in (by omega) hL) v3 rfl ?_
  refine pm_R_lo pm_M0 (pc_q := 1861) (pm_q0_23 (Nat.le_of_ble_eq_true rfl)) rfl rfl ?_
  refine pm_R_lo pm_M0 (pc_q := 1862) (pm_q0_23 (Nat.le_of_ble_eq_true rfl)) rfl rfl ?_
  refine pm_R_op pm_M0 (pc_q := 1863) (st_q := [.int 4, .int (Int32.ofNat n), .ref 0, .int x3, .int x2, .int x1, .ref 16]) (pm_q0_23 (Nat.le_of_ble_eq_true rfl)) rfl rfl ?_
  refine pm_R_op pm_M0 (pc_q := 1864) (st_q := [.int (Int32.ofNat (n + 4)), .ref 0, .int x3, .int x2, .int x1, .ref 16]) (pm_q0_23 (Nat.le_of_ble_eq_true rfl)) (congrArg (fun z => some (Value.int z :: [.ref 0, .int x3, .int x2, .int x1, .ref 16])) (p2_ad (n := n) (c := 4) (k := 4) rfl)) rfl ?_
  refine pm_R_iald pm_M0 (pc_q := 1865) (v := x4) (pm_q0_23 (Nat.le_of_ble_eq_true rfl)) ((T.old (by decide)).trans e0) (T.lt (by decide)) (p2_in (by omega) hL) v4 rfl ?_
  refine pm_R_cv pm_M0 (pc_q := 1868) (a := 16) (ra := [.int x4, .int x3, .int x2, .int x1]) (rest := []) (ls_q := [.ref 16, .int x1, .int x2, .int x3, .int x4, pm_no, pm_no, pm_no, pm_no]) (pm_q0_23 (Nat.le_of_ble_eq_true rfl)) rfl (Or.inl rfl) pm_M80 T.e16 rfl (by decide) (T.lt (by decide)) rfl rfl (Nat.le_of_ble_eq_true rfl) rfl rfl ?_
  refine ex_inj WW KK rfl ?_
  refine cl_c80 G T (fun r1 m1 o1 h1 T1 F1 W1 => ?_)
  intro WW KK
  show pm_R 100 0 1868 [.ref 0, .ref 16, .ref 41, .int (Int32.ofNat n)] [.int r1] _ _
  have RR := R2_cl G T F1 (by decide) RR
  have I := p2_cl (j := j) G T Tr Y e0 S R hc T1 F1 (W1 0 (by decide)) (by decide) (by decide) (by decide) (by decide) (by decide) (by decide) (by decide)
  obtain ⟨ck, E, m, o, mr, wr, G, T, Tr, Y, e0, S, R, hc⟩ := I
  refine pm_R_op pm_M0 (pc_q := 1869) (st_q := []) (pm_q0_23 (Nat.le_of_ble_eq_true rfl)) rfl rfl ?_
  refine pm_R_lo pm_M0 (pc_q := 1870) (pm_q0_23 (Nat.le_of_ble_eq_true rfl)) rfl rfl ?_
  refine pm_R_lo pm_M0 (pc_q := 1871) (pm_q0_24 (Nat.le_of_ble_eq_true rfl)) rfl rfl ?_
  refine pm_R_lo pm_M0 (pc_q := 1872) (pm_q0_24 (Nat.le_of_ble_eq_true rfl)) rfl rfl ?_
  refine pm_R_op pm_M0 (pc_q := 1873) (st_q := [.int 1, .int (Int32.ofNat n), .ref 0, .ref 41]) (pm_q0_24 (Nat.le_of_ble_eq_true rfl)) rfl rfl ?_
  refine pm_R_op pm_M0 (pc_q := 1874) (st_q := [.int (Int32.ofNat (n + 1)), .ref 0, .ref 41]) (pm_q0_24 (Nat.le_of_ble_eq_true rfl)) (congrArg (fun z => some (Value.int z :: [.ref 0, .ref 41])) (p2_ad (n := n) (c := 1) (k := 1) rfl)) rfl ?_
  refine pm_R_iald pm_M0 (pc_q := 1875) (v := x1) (pm_q0_24 (Nat.le_of_ble_eq_true rfl)) ((T.old (by decide)).trans e0) (T.lt (by decide)) (p2_in (by omega) hL) v1 rfl ?_
  refine pm_R_lo pm_M0 (pc_q := 1876) (pm_q0_24 (Nat.le_of_ble_eq_true rfl)) rfl rfl ?_
  refine pm_R_lo pm_M0 (pc_q := 1877) (pm_q0_24 (Nat.le_of_ble_eq_true rfl)) rfl rfl ?_
  refine pm_R_op pm_M0 (pc_q := 1878) (st_q := [.int 2, .int (Int32.ofNat n), .ref 0, .int x1, .ref 41]) (pm_q0_24 (Nat.le_of_ble_eq_true rfl)) rfl rfl ?_
  refine pm_R_op pm_M0 (pc_q := 1879) (st_q := [.int (Int32.ofNat (n + 2)), .ref 0, .int x1, .ref 41]) (pm_q0_24 (Nat.le_of_ble_eq_true rfl)) (congrArg (fun z => some (Value.int z :: [.ref 0, .int x1, .ref 41])) (p2_ad (n := n) (c := 2) (k := 2) rfl)) rfl ?_
  refine pm_R_iald pm_M0 (pc_q := 1880) (v := x2) (pm_q0_24 (Nat.le_of_ble_eq_true rfl)) ((T.old (by decide)).trans e0) (T.lt (by decide)) (p2_in (by omega) hL) v2 rfl ?_
  refine pm_R_lo pm_M0 (pc_q := 1881) (pm_q0_24 (Nat.le_of_ble_eq_true rfl)) rfl rfl ?_
  refine pm_R_lo pm_M0 (pc_q := 1882) (pm_q0_24 (Nat.le_of_ble_eq_true rfl)) rfl rfl ?_
  refine pm_R_op pm_M0 (pc_q := 1883) (st_q := [.int 3, .int (Int32.ofNat n), .ref 0, .int x2, .int x1, .ref 41]) (pm_q0_24 (Nat.le_of_ble_eq_true rfl)) rfl rfl ?_
  refine pm_R_op pm_M0 (pc_q := 1884) (st_q := [.int (Int32.ofNat (n + 3)), .ref 0, .int x2, .int x1, .ref 41]) (pm_q0_24 (Nat.le_of_ble_eq_true rfl)) (congrArg (fun z => some (Value.int z :: [.ref 0, .int x2, .int x1, .ref 41])) (p2_ad (n := n) (c := 3) (k := 3) rfl)) rfl ?_
  refine pm_R_iald pm_M0 (pc_q := 1885) (v := x3) (pm_q0_24 (Nat.le_of_ble_eq_true rfl)) ((T.old (by decide)).trans e0) (T.lt (by decide)) (p2_in (by omega) hL) v3 rfl ?_
  refine pm_R_lo pm_M0 (pc_q := 1886) (pm_q0_24 (Nat.le_of_ble_eq_true rfl)) rfl rfl ?_
  refine pm_R_lo pm_M0 (pc_q := 1887) (pm_q0_24 (Nat.le_of_ble_eq_true rfl)) rfl rfl ?_
  refine pm_R_op pm_M0 (pc_q := 1888) (st_q := [.int 4, .int (Int32.ofNat n), .ref 0, .int x3, .int x2, .int x1, .ref 41]) (pm_q0_24 (Nat.le_of_ble_eq_true rfl)) rfl rfl ?_
  refine pm_R_op pm_M0 (pc_q := 1889) (st_q := [.int (Int32.ofNat (n + 4)), .ref 0, .int x3, .int x2, .int x1, .ref 41]) (pm_q0_24 (Nat.le_of_ble_eq_true rfl)) (congrArg (fun z => some (Value.int z :: [.ref 0, .int x3, .int x2, .int x1, .ref 41])) (p2_ad (n := n) (c := 4) (k := 4) rfl)) rfl ?_
  refine pm_R_iald pm_M0 (pc_q := 1890) (v := x4) (pm_q0_24 (Nat.le_of_ble_eq_true rfl)) ((T.old (by decide)).trans e0) (T.lt (by decide)) (p2_in (by omega) hL) v4 rfl ?_
  refine pm_R_cv pm_M0 (pc_q := 1893) (a := 41) (ra := [.int x4, .int x3, .int x2, .int x1]) (rest := []) (ls_q := [.ref 41, .int x1, .int x2, .int x3, .int x4, pm_no, pm_no]) (pm_q0_24 (Nat.le_of_ble_eq_true rfl)) rfl (Or.inl rfl) pm_M289 Tr.2.1 rfl (by decide) (Nat.lt_of_lt_of_le (by decide) Tr.1) rfl rfl (Nat.le_of_ble_eq_true rfl) rfl rfl ?_
  refine ex_inj WW KK rfl ?_
  refine rf_c289 Tr (fun r2 m1 w1 h1 T1 F1 W1 => ?_)
  intro WW KK
  show pm_R 100 0 1893 [.ref 0, .ref 16, .ref 41, .int (Int32.ofNat n)] [.int r2] _ _
  have RR := R2_rf F1 (by decide) RR
  have I := p2_rf G T Y e0 S R hc T1 F1 (by decide)
  refine pm_R_op pm_M0 (pc_q := 1894) (st_q := []) (pm_q0_24 (Nat.le_of_ble_eq_true rfl)) rfl rfl ?_
  refine pm_R_br pm_M0 (pc_q := 2117) (pm_q0_24 (Nat.le_of_ble_eq_true rfl)) rfl ?_
  exact K _ ⟨I, WW, KK, RR⟩

set_option maxRecDepth 100000 in
set_option maxHeartbeats 4000000 in
theorem p6_k37 {L n j : Nat} {xs : Nat → Int32} {h : pm_H} {Q : Option Value → pm_H → Prop} (I : p6_I L xs j h) (hn : n + 7 ≤ L) (hL : L ≤ 3584) (K : ∀ h_q, p6_I L xs (j + 1) h_q → pm_R 100 0 2117 [.ref 0, .ref 16, .ref 41, .int (Int32.ofNat n)] [] h_q Q) : pm_R 100 0 1897 [.ref 0, .ref 16, .ref 41, .int (Int32.ofNat n)] [] h Q := by
  obtain ⟨x1, v1⟩ : ∃ y, xs (Int32.toNatClampNeg (Int32.ofNat (n + 1))) = y := ⟨_, rfl⟩
  obtain ⟨x2, v2⟩ : ∃ y, xs (Int32.toNatClampNeg (Int32.ofNat (n + 2))) = y := ⟨_, rfl⟩
  obtain ⟨x3, v3⟩ : ∃ y, xs (Int32.toNatClampNeg (Int32.ofNat (n + 3))) = y := ⟨_, rfl⟩
  obtain ⟨x4, v4⟩ : ∃ y, xs (Int32.toNatClampNeg (Int32.ofNat (n + 4))) = y := ⟨_, rfl⟩
  obtain ⟨x5, v5⟩ : ∃ y, xs (Int32.toNatClampNeg (Int32.ofNat (n + 5))) = y := ⟨_, rfl⟩
  obtain ⟨x6, v6⟩ : ∃ y, xs (Int32.toNatClampNeg (Int32.ofNat (n + 6))) = y := ⟨_, rfl⟩
  obtain ⟨I, WW, KK, RR⟩ := I
  obtain ⟨ck, E, m, o, mr, wr, G, T, Tr, Y, e0, S, R, hc⟩ := I
  refine pm_R_lo pm_M0 (pc_q := 1898) (pm_q0_24 (Nat.le_of_ble_eq_true rfl)) rfl rfl ?_
  refine pm_R_lo pm_M0 (pc_q := 1899) (pm_q0_24 (Nat.le_of_ble_eq_true rfl)) rfl rfl ?_
  refine pm_R_lo pm_M0 (pc_q := 1900) (pm_q0_24 (Nat.le_of_ble_eq_true rfl)) rfl rfl ?_
  refine pm_R_op pm_M0 (pc_q := 1901) (st_q := [.int 1, .int (Int32.ofNat n), .ref 0, .ref 16]) (pm_q0_24 (Nat.le_of_ble_eq_true rfl)) rfl rfl ?_
  refine pm_R_op pm_M0 (pc_q := 1902) (st_q := [.int (Int32.ofNat (n + 1)), .ref 0, .ref 16]) (pm_q0_24 (Nat.le_of_ble_eq_true rfl)) (congrArg (fun z => some (Value.int z :: [.ref 0, .ref 16])) (p2_ad (n := n) (c := 1) (k := 1) rfl)) rfl ?_
  refine pm_R_iald pm_M0 (pc_q := 1903) (v := x1) (pm_q0_24 (Nat.le_of_ble_eq_true rfl)) ((T.old (by decide)).trans e0) (T.lt (by decide)) (p2_in (by omega) hL) v1 rfl ?_
  refine pm_R_lo pm_M0 (pc_q := 1904) (pm_q0_24 (Nat.le_of_ble_eq_true rfl)) rfl rfl ?_
  refine pm_R_lo pm_M0 (pc_q := 1905) (pm_q0_24 (Nat.le_of_ble_eq_true rfl)) rfl rfl ?_
  refine pm_R_op pm_M0 (pc_q := 1906) (st_q := [.int 2, .int (Int32.ofNat n), .ref 0, .int x1, .ref 16]) (pm_q0_24 (Nat.le_of_ble_eq_true rfl)) rfl rfl ?_
  refine pm_R_op pm_M0 (pc_q := 1907) (st_q := [.int (Int32.ofNat (n + 2)), .ref 0, .int x1, .ref 16]) (pm_q0_24 (Nat.le_of_ble_eq_true rfl)) (congrArg (fun z => some (Value.int z :: [.ref 0, .int x1, .ref 16])) (p2_ad (n := n) (c := 2) (k := 2) rfl)) rfl ?_
  refine pm_R_iald pm_M0 (pc_q := 1908) (v := x2) (pm_q0_24 (Nat.le_of_ble_eq_true rfl)) ((T.old (by decide)).trans e0) (T.lt (by decide)) (p2_in (by omega) hL) v2 rfl ?_
  refine pm_R_lo pm_M0 (pc_q := 1909) (pm_q0_24 (Nat.le_of_ble_eq_true rfl)) rfl rfl ?_
  refine pm_R_lo pm_M0 (pc_q := 1910) (pm_q0_24 (Nat.le_of_ble_eq_true rfl)) rfl rfl ?_
  refine pm_R_op pm_M0 (pc_q := 1911) (st_q := [.int 3, .int (Int32.ofNat n), .ref 0, .int x2, .int x1, .ref 16]) (pm_q0_24 (Nat.le_of_ble_eq_true rfl)) rfl rfl ?_
  refine pm_R_op pm_M0 (pc_q := 1912) (st_q := [.int (Int32.ofNat (n + 3)), .ref 0, .int x2, .int x1, .ref 16]) (pm_q0_24 (Nat.le_of_ble_eq_true rfl)) (congrArg (fun z => some (Value.int z :: [.ref 0, .int x2, .int x1, .ref 16])) (p2_ad (n := n) (c := 3) (k := 3) rfl)) rfl ?_
  refine pm_R_iald pm_M0 (pc_q := 1913) (v := x3) (pm_q0_24 (Nat.le_of_ble_eq_true rfl)) ((T.old (by decide)).trans e0) (T.lt (by decide)) (p2_in (by omega) hL) v3 rfl ?_
  refine pm_R_lo pm_M0 (pc_q := 1914) (pm_q0_24 (Nat.le_of_ble_eq_true rfl)) rfl rfl ?_
  refine pm_R_lo pm_M0 (pc_q := 1915) (pm_q0_24 (Nat.le_of_ble_eq_true rfl)) rfl rfl ?_
  refine pm_R_op pm_M0 (pc_q := 1916) (st_q := [.int 4, .int (Int32.ofNat n), .ref 0, .int x3, .int x2, .int x1, .ref 16]) (pm_q0_24 (Nat.le_of_ble_eq_true rfl)) rfl rfl ?_
  refine pm_R_op pm_M0 (pc_q := 1917) (st_q := [.int (Int32.ofNat (n + 4)), .ref 0, .int x3, .int x2, .int x1, .ref 16]) (pm_q0_24 (Nat.le_of_ble_eq_true rfl)) (congrArg (fun z => some (Value.int z :: [.ref 0, .int x3, .int x2, .int x1, .ref 16])) (p2_ad (n := n) (c := 4) (k := 4) rfl)) rfl ?_
  refine pm_R_iald pm_M0 (pc_q := 1918) (v := x4) (pm_q0_24 (Nat.le_of_ble_eq_true rfl)) ((T.old (by decide)).trans e0) (T.lt (by decide)) (p2_in (by omega) hL) v4 rfl ?_
  refine pm_R_lo pm_M0 (pc_q := 1919) (pm_q0_24 (Nat.le_of_ble_eq_true rfl)) rfl rfl ?_
  refine pm_R_lo pm_M0 (pc_q := 1920) (pm_q0_24 (Nat.le_of_ble_eq_true rfl)) rfl rfl ?_
  refine pm_R_op pm_M0 (pc_q := 1921) (st_q := [.int 5, .int (Int32.ofNat n), .ref 0, .int x4, .int x3, .int x2, .int x1, .ref 16]) (pm_q0_24 (Nat.le_of_ble_eq_true rfl)) rfl rfl ?_
  refine pm_R_op pm_M0 (pc_q := 1922) (st_q := [.int (Int32.ofNat (n + 5)), .ref 0, .int x4, .int x3, .int x2, .int x1, .ref 16]) (pm_q0_24 (Nat.le_of_ble_eq_true rfl)) (congrArg (fun z => some (Value.int z :: [.ref 0, .int x4, .int x3, .int x2, .int x1, .ref 16])) (p2_ad (n := n) (c := 5) (k := 5) rfl)) rfl ?_
  refine pm_R_iald pm_M0 (pc_q := 1923) (v := x5) (pm_q0_24 (Nat.le_of_ble_eq_true rfl)) ((T.old (by decide)).trans e0) (T.lt (by decide)) (p2_in (by omega) hL) v5 rfl ?_
  refine pm_R_lo pm_M0 (pc_q := 1924) (pm_q0_24 (Nat.le_of_ble_eq_true rfl)) rfl rfl ?_
  refine pm_R_lo pm_M0 (pc_q := 1925) (pm_q0_24 (Nat.le_of_ble_eq_true rfl)) rfl rfl ?_
  refine pm_R_op pm_M0 (pc_q := 1927) (st_q := [.int 6, .int (Int32.ofNat n), .ref 0, .int x5, .int x4, .int x3, .int x2, .int x1, .ref 16]) (pm_q0_24 (Nat.le_of_ble_eq_true rfl)) rfl rfl ?_
  refine pm_R_op pm_M0 (pc_q := 1928) (st_q := [.int (Int32.ofNat (n + 6)), .ref 0, .int x5, .int x4, .int x3, .int x2, .int x1, .ref 16]) (pm_q0_24 (Nat.le_of_ble_eq_true rfl)) (congrArg (fun z => some (Value.int z :: [.ref 0, .int x5, .int x4, .int x3, .int x2, .int x1, .ref 16])) (p2_ad (n := n) (c := 6) (k := 6) rfl)) rfl ?_
  refine pm_R_iald pm_M0 (pc_q := 1929) (v := x6) (pm_q0_24 (Nat.le_of_ble_eq_true rfl)) ((T.old (by decide)).trans e0) (T.lt (by decide)) (p2_in (by omega) hL) v6 rfl ?_
  refine pm_R_cv pm_M0 (pc_q := 1932) (a := 16) (ra := [.int x6, .int x5, .int x4, .int x3, .int x2, .int x1]) (rest := []) (ls_q := [.ref 16, .int x1, .int x2, .int x3, .int x4, .int x5, .int x6, pm_no]) (pm_q0_24 (Nat.le_of_ble_eq_true rfl)) rfl (Or.inl rfl) pm_M156 T.e16 rfl (by decide) (T.lt (by decide)) rfl rfl (Nat.le_of_ble_eq_true rfl) rfl rfl ?_
  suffices go : ∀ (r1 : Int32) (h1 : pm_H), p2_I L xs (j + 1) h1 → ex_W h1 → ex_K h1 → R2 (ex_V h1) → pm_R 100 0 1932 [.ref 0, .ref 16, .ref 41, .int (Int32.ofNat n)] [.int r1] h1 Q by
    refine ex_inj WW KK rfl ?_
    refine cl_c156_x G T (fun r1 m1 h1 T1 F1 W1 X1 => ?_) (fun r1 m1 ck1 h1 A1 G1 T1 F1 W1 X1 => ?_)
    · exact fun WW KK => go _ _ (p2_clg (j := j) G T Tr S hc G T1 e0 (Y.cl G F1 (by decide)) (by obtain ⟨f, e, b⟩ := R; obtain ⟨f1, e1, b1⟩ := X1 f e; exact ⟨f1, e1, by omega⟩) F1 (W1 0 (by decide)) (by decide) (by decide) (by decide)) WW KK (R2_cl G T F1 (by decide) RR)
    · exact fun WW KK => go _ _ (p2_clg (j := j) G T Tr S hc G1 T1 e0 (Y.cl G F1 (by decide)) (by obtain ⟨f, e, b⟩ := R; obtain ⟨f1, e1, b1⟩ := X1 f e; exact ⟨f1, e1, by omega⟩) F1 (W1 0 (by decide)) (by decide) (by decide) (by decide)) WW KK (R2_cl G T F1 (by decide) RR)
  intro r1 h1 I WW KK RR
  obtain ⟨ck, E, m, o, mr, wr, G, T, Tr, Y, e0, S, R, hc⟩ := I
  refine pm_R_op pm_M0 (pc_q := 1933) (st_q := []) (pm_q0_24 (Nat.le_of_ble_eq_true rfl)) rfl rfl ?_
  refine pm_R_lo pm_M0 (pc_q := 1934) (pm_q0_24 (Nat.le_of_ble_eq_true rfl)) rfl rfl ?_
  refine pm_R_lo pm_M0 (pc_q := 1935) (pm_q0_24 (Nat.le_of_ble_eq_true rfl)) rfl rfl ?_
  refine pm_R_lo pm_M0 (pc_q := 1936) (pm_q0_24 (Nat.le_of_ble_eq_true rfl)) rfl rfl ?_
  refine pm_R_op pm_M0 (pc_q := 1937) (st_q := [.int 1, .int (Int32.ofNat n), .ref 0, .ref 41]) (pm_q0_24 (Nat.le_of_ble_eq_true rfl)) rfl rfl ?_
  refine pm_R_op pm_M0 (pc_q := 1938) (st_q := [.int (Int32.ofNat (n + 1)), .ref 0, .ref 41]) (pm_q0_25 (Nat.le_of_ble_eq_true rfl)) (congrArg (fun z => some (Value.int z :: [.ref 0, .ref 41])) (p2_ad (n := n) (c := 1) (k := 1) rfl)) rfl ?_
  refine pm_R_iald pm_M0 (pc_q := 1939) (v := x1) (pm_q0_25 (Nat.le_of_ble_eq_true rfl)) ((T.old (by decide)).trans e0) (T.lt (by decide)) (p2_in (by omega) hL) v1 rfl ?_
  refine pm_R_lo pm_M0 (pc_q := 1940) (pm_q0_25 (Nat.le_of_ble_eq_true rfl)) rfl rfl ?_
  refine pm_R_lo pm_M0 (pc_q := 1941) (pm_q0_25 (Nat.le_of_ble_eq_true rfl)) rfl rfl ?_
  refine pm_R_op pm_M0 (pc_q := 1942) (st_q := [.int 2, .int (Int32.ofNat n), .ref 0, .int x1, .ref 41]) (pm_q0_25 (Nat.le_of_ble_eq_true rfl)) rfl rfl ?_
  refine pm_R_op pm_M0 (pc_q := 1943) (st_q := [.int (Int32.ofNat (n + 2)), .ref 0, .int x1, .ref 41]) (pm_q0_25 (Nat.le_of_ble_eq_true rfl)) (congrArg (fun z => some (Value.int z :: [.ref 0, .int x1, .ref 41])) (p2_ad (n := n) (c := 2) (k := 2) rfl)) rfl ?_
  refine pm_R_iald pm_M0 (pc_q := 1944) (v := x2) (pm_q0_25 (Nat.le_of_ble_eq_true rfl)) ((T.old (by decide)).trans e0) (T.lt (by decide)) (p2_in (by omega) hL) v2 rfl ?_
  refine pm_R_lo pm_M0 (pc_q := 1945) (pm_q0_25 (Nat.le_of_ble_eq_true rfl)) rfl rfl ?_
  refine pm_R_lo pm_M0 (pc_q := 1946) (pm_q0_25 (Nat.le_of_ble_eq_true rfl)) rfl rfl ?_
  refine pm_R_op pm_M0 (pc_q := 1947) (st_q := [.int 3, .int (Int32.ofNat n), .ref 0, .int x2, .int x1, .ref 41]) (pm_q0_25 (Nat.le_of_ble_eq_true rfl)) rfl rfl ?_
  refine pm_R_op pm_M0 (pc_q := 1948) (st_q := [.int (Int32.ofNat (n + 3)), .ref 0, .int x2, .int x1, .ref 41]) (pm_q0_25 (Nat.le_of_ble_eq_true rfl)) (congrArg (fun z => some (Value.int z :: [.ref 0, .int x2, .int x1, .ref 41])) (p2_ad (n := n) (c := 3) (k := 3) rfl)) rfl ?_
  refine pm_R_iald pm_M0 (pc_q := 1949) (v := x3) (pm_q0_25 (Nat.le_of_ble_eq_true rfl)) ((T.old (by decide)).trans e0) (T.lt (by decide)) (p2_in (by omega) hL) v3 rfl ?_
  refine pm_R_lo pm_M0 (pc_q := 1950) (pm_q0_25 (Nat.le_of_ble_eq_true rfl)) rfl rfl ?_
  refine pm_R_lo pm_M0 (pc_q := 1951) (pm_q0_25 (Nat.le_of_ble_eq_true rfl)) rfl rfl ?_
  refine pm_R_op pm_M0 (pc_q := 1952) (st_q := [.int 4, .int (Int32.ofNat n), .ref 0, .int x3, .int x2, .int x1, .ref 41]) (pm_q0_25 (Nat.le_of_ble_eq_true rfl)) rfl rfl ?_
  refine pm_R_op pm_M0 (pc_q := 1953) (st_q := [.int (Int32.ofNat (n + 4)), .ref 0, .int x3, .int x2, .int x1, .ref 41]) (pm_q0_25 (Nat.le_of_ble_eq_true rfl)) (congrArg (fun z => some (Value.int z :: [.ref 0, .int x3, .int x2, .int x1, .ref 41])) (p2_ad (n := n) (c := 4) (k := 4) rfl)) rfl ?_
  refine pm_R_iald pm_M0 (pc_q := 1954) (v := x4) (pm_q0_25 (Nat.le_of_ble_eq_true rfl)) ((T.old (by decide)).trans e0) (T.lt (by decide)) (p2_in (by omega) hL) v4 rfl ?_
  refine pm_R_lo pm_M0 (pc_q := 1955) (pm_q0_25 (Nat.le_of_ble_eq_true rfl)) rfl rfl ?_
  refine pm_R_lo pm_M0 (pc_q := 1956) (pm_q0_25 (Nat.le_of_ble_eq_true rfl)) rfl rfl ?_
  refine pm_R_op pm_M0 (pc_q := 1957) (st_q := [.int 5, .int (Int32.ofNat n), .ref 0, .int x4, .int x3, .int x2, .int x1, .ref 41]) (pm_q0_25 (Nat.le_of_ble_eq_true rfl)) rfl rfl ?_
  refine pm_R_op pm_M0 (pc_q := 1958) (st_q := [.int (Int32.ofNat (n + 5)), .ref 0, .int x4, .int x3, .int x2, .int x1, .ref 41]) (pm_q0_25 (Nat.le_of_ble_eq_true rfl)) (congrArg (fun z => some (Value.int z :: [.ref 0, .int x4, .int x3, .int x2, .int x1, .ref 41])) (p2_ad (n := n) (c := 5) (k := 5) rfl)) rfl ?_
  refine pm_R_iald pm_M0 (pc_q := 1959) (v := x5) (pm_q0_25 (Nat.le_of_ble_eq_true rfl)) ((T.old (by decide)).trans e0) (T.lt (by decide)) (p2_in (by omega) hL) v5 rfl ?_
  refine pm_R_lo pm_M0 (pc_q := 1960) (pm_q0_25 (Nat.le_of_ble_eq_true rfl)) rfl rfl ?_
  refine pm_R_lo pm_M0 (pc_q := 1961) (pm_q0_25 (Nat.le_of_ble_eq_true rfl)) rfl rfl ?_
  refine pm_R_op pm_M0 (pc_q := 1963) (st_q := [.int 6, .int (Int32.ofNat n), .ref 0, .int x5, .int x4, .int x3, .int x2, .int x1, .ref 41]) (pm_q0_25 (Nat.le_of_ble_eq_true rfl)) rfl rfl ?_
  refine pm_R_op pm_M0 (pc_q := 1964) (st_q := [.int (Int32.ofNat (n + 6)), .ref 0, .int x5, .int x4, .int x3, .int x2, .int x1, .ref 41]) (pm_q0_25 (Nat.le_of_ble_eq_true rfl)) (congrArg (fun z => some (Value.int z :: [.ref 0, .int x5, .int x4, .int x3, .int x2, .int x1, .ref 41])) (p2_ad (n := n) (c := 6) (k := 6) rfl)) rfl ?_
  refine pm_R_iald pm_M0 (pc_q := 1965) (v := x6) (pm_q0_25 (Nat.le_of_ble_eq_true rfl)) ((T.old (by decide)).trans e0) (T.lt (by decide)) (p2_in (by omega) hL) v6 rfl ?_
  refine pm_R_cv pm_M0 (pc_q := 1968) (a := 41) (ra := [.int x6, .int x5, .int x4, .int x3, .int x2, .int x1]) (rest := []) (ls_q := [.ref 41, .int x1, .int x2, .int x3, .int x4, .int x5, .int x6, pm_no]) (pm_q0_25 (Nat.le_of_ble_eq_true rfl)) rfl (Or.inl rfl) pm_M290 Tr.2.1 rfl (by decide) (Nat.lt_of_lt_of_le (by decide) Tr.1) rfl rfl (Nat.le_of_ble_eq_true rfl) rfl rfl ?_
  refine ex_inj WW KK rfl ?_
  refine rf_c290 Tr (fun r2 m1 w1 h1 T1 F1 W1 _ => ?_)
  intro WW KK
  show pm_R 100 0 1968 [.ref 0, .ref 16, .ref 41, .int (Int32.ofNat n)] [.int r2] _ _
  have RR := R2_rf F1 (by decide) RR
  have I := p2_rf G T Y e0 S R hc T1 F1 (by decide)
  refine pm_R_op pm_M0 (pc_q := 1969) (st_q := []) (pm_q0_25 (Nat.le_of_ble_eq_true rfl)) rfl rfl ?_
  refine pm_R_br pm_M0 (pc_q := 2117) (pm_q0_25 (Nat.le_of_ble_eq_true rfl)) rfl ?_
  exact K _ ⟨I, WW, KK, RR⟩

set_option maxRecDepth 100000 in
set_option maxHeartbeats 4000000 in
theorem p6_k38 {L n j : Nat} {xs : Nat → Int32} {h : pm_H} {Q : Option Value → pm_H → Prop} (I : p6_I L xs j h) (hn : n + 7 ≤ L) (hL : L ≤ 3584) (K : ∀ h_q, p6_I L xs (j + 1) h_q → pm_R 100 0 2117 [.ref 0, .ref 16, .ref 41, .int (Int32.ofNat n)] [] h_q Q) : pm_R 100 0 1972 [.ref 0, .ref 16, .ref 41, .int (Int32.ofNat n)] [] h Q := by
  obtain ⟨x1, v1⟩ : ∃ y, xs (Int32.toNatClampNeg (Int32.ofNat (n + 1))) = y := ⟨_, rfl⟩
  obtain ⟨x2, v2⟩ : ∃ y, xs (Int32.toNatClampNeg (Int32.ofNat (n + 2))) = y := ⟨_, rfl⟩
  obtain ⟨I, WW, KK, RR⟩ := I
  obtain ⟨ck, E, m, o, mr, wr, G, T, Tr, Y, e0, S, R, hc⟩ := I
  refine pm_R_lo pm_M0 (pc_q := 1973) (pm_q0_25 (Nat.le_of_ble_eq_true rfl)) rfl rfl ?_
  refine pm_R_lo pm_M0 (pc_q := 1974) (pm_q0_25 (Nat.le_of_ble_eq_true rfl)) rfl rfl ?_
  refine pm_R_lo pm_M0 (pc_q := 1975) (pm_q0_25 (Nat.le_of_ble_eq_true rfl)) rfl rfl ?_
  refine pm_R_op pm_M0 (pc_q := 1976) (st_q := [.int 1, .int (Int32.ofNat n), .ref 0, .ref 16]) (pm_q0_25 (Nat.le_of_ble_eq_true rfl)) rfl rfl ?_
  refine pm_R_op pm_M0 (pc_q := 1977) (st_q := [.int (Int32.ofNat (n + 1)), .ref 0, .ref 16]) (pm_q0_25 (Nat.le_of_ble_eq_true rfl)) (congrArg (fun z => some (Value.int z :: [.ref 0, .ref 16])) (p2_ad (n := n) (c := 1) (k := 1) rfl)) rfl ?_
  refine pm_R_iald pm_M0 (pc_q := 1978) (v := x1) (pm_q0_25 (Nat.le_of_ble_eq_true rfl)) ((T.old (by decide)).trans e0) (T.lt (by decide)) (p2_in (by omega) hL) v1 rfl ?_
  refine pm_R_lo pm_M0 (pc_q := 1979) (pm_q0_25 (Nat.le_of_ble_eq_true rfl)) rfl rfl ?_
  refine pm_R_lo pm_M0 (pc_q := 1980) (pm_q0_25 (Nat.le_of_ble_eq_true rfl)) rfl rfl ?_
  refine pm_R_op pm_M0 (pc_q := 1981) (st_q := [.int 2, .int (Int32.ofNat n), .ref 0, .int x1, .ref 16]) (pm_q0_25 (Nat.le_of_ble_eq_true rfl)) rfl rfl ?_
  refine pm_R_op pm_M0 (pc_q := 1982) (st_q := [.int (Int32.ofNat (n + 2)), .ref 0, .int x1, .ref 16]) (pm_q0_25 (Nat.le_of_ble_eq_true rfl)) (congrArg (fun z => some (Value.int z :: [.ref 0, .int x1, .ref 16])) (p2_ad (n := n) (c := 2) (k := 2) rfl)) rfl ?_
  refine pm_R_iald pm_M0 (pc_q := 1983) (v := x2) (pm_q0_25 (Nat.le_of_ble_eq_true rfl)) ((T.old (by decide)).trans e0) (T.lt (by decide)) (p2_in (by omega) hL) v2 rfl ?_
  refine pm_R_cv pm_M0 (pc_q := 1986) (a := 16) (ra := [.int x2, .int x1]) (rest := []) (ls_q := [.ref 16, .int x1, .int x2, pm_no]) (pm_q0_25 (Nat.le_of_ble_eq_true rfl)) rfl (Or.inl rfl) pm_M158 T.e16 rfl (by decide) (T.lt (by decide)) rfl rfl (Nat.le_of_ble_eq_true rfl) rfl rfl ?_
  refine ex_inj WW KK rfl ?_
  refine cl_c158 G T (fun r1 => ?_)
  intro WW KK
  show pm_R 100 0 1986 [.ref 0, .ref 16, .ref 41, .int (Int32.ofNat n)] [.int r1] _ _
  have I := p2_up (⟨ck, E, m, o, mr, wr, G, T, Tr, Y, e0, S, R, hc⟩ : p2_I L xs j h)
  obtain ⟨ck, E, m, o, mr, wr, G, T, Tr, Y, e0, S, R, hc⟩ := I
  refine pm_R_op pm_M0 (pc_q := 1987) (st_q := []) (pm_q0_25 (Nat.le_of_ble_eq_true rfl)) rfl rfl ?_
  refine pm_R_lo pm_M0 (pc_q := 1988) (pm_q0_25 (Nat.le_of_ble_eq_true rfl)) rfl rfl ?_
  refine pm_R_lo pm_M0 (pc_q := 1989) (pm_q0_25 (Nat.le_of_ble_eq_true rfl)) rfl rfl ?_
  refine pm_R_lo pm_M0 (pc_q := 1990) (pm_q0_25 (Nat.le_of_ble_eq_true rfl)) rfl rfl ?_
  refine pm_R_op pm_M0 (pc_q := 1991) (st_q := [.int 1, .int (Int32.ofNat n), .ref 0, .ref 41]) (pm_q0_25 (Nat.le_of_ble_eq_true rfl)) rfl rfl ?_
  refine pm_R_op pm_M0 (pc_q := 1992) (st_q := [.int (Int32.ofNat (n + 1)), .ref 0, .ref 41]) (pm_q0_25 (Nat.le_of_ble_eq_true rfl)) (congrArg (fun z => some (Value.int z :: [.ref 0, .ref 41])) (p2_ad (n := n) (c := 1) (k := 1) rfl)) rfl ?_
  refine pm_R_iald pm_M0 (pc_q := 1993) (v := x1) (pm_q0_25 (Nat.le_of_ble_eq_true rfl)) ((T.old (by decide)).trans e0) (T.lt (by decide)) (p2_in (by omega) hL) v1 rfl ?_
  refine pm_R_lo pm_M0 (pc_q := 1994) (pm_q0_25 (Nat.le_of_ble_eq_true rfl)) rfl rfl ?_
  refine pm_R_lo pm_M0 (pc_q := 1995) (pm_q0_25 (Nat.le_of_ble_eq_true rfl)) rfl rfl ?_
  refine pm_R_op pm_M0 (pc_q := 1996) (st_q := [.int 2, .int (Int32.ofNat n), .ref 0, .int x1, .ref 41]) (pm_q0_25 (Nat.le_of_ble_eq_true rfl)) rfl rfl ?_
  refine pm_R_op pm_M0 (pc_q := 1997) (st_q := [.int (Int32.ofNat (n + 2)), .ref 0, .int x1, .ref 41]) (pm_q0_25 (Nat.le_of_ble_eq_true rfl)) (congrArg (fun z => some (Value.int z :: [.ref 0, .int x1, .ref 41])) (p2_ad (n := n) (c := 2) (k := 2) rfl)) rfl ?_
  refine pm_R_iald pm_M0 (pc_q := 1998) (v := x2) (pm_q0_25 (Nat.le_of_ble_eq_true rfl)) ((T.old (by decide)).trans e0) (T.lt (by decide)) (p2_in (by omega) hL) v2 rfl ?_
  refine pm_R_cv pm_M0 (pc_q := 2001) (a := 41) (ra := [.int x2, .int x1]) (rest := []) (ls_q := [.ref 41, .int x1, .int x2, pm_no, pm_no, pm_no]) (pm_q0_25 (Nat.le_of_ble_eq_true rfl)) rfl (Or.inl rfl) pm_M291 Tr.2.1 rfl (by decide) (Nat.lt_of_lt_of_le (by decide) Tr.1) rfl rfl (Nat.le_of_ble_eq_true rfl) rfl rfl ?_
  refine ex_inj WW KK rfl ?_
  refine rf_c291 Tr (fun r2 m1 w1 h1 T1 F1 W1 => ?_)
  intro WW KK
  show pm_R 100 0 2001 [.ref 0, .ref 16, .ref 41, .int (Int32.ofNat n)] [.int r2] _ _
  have RR := R2_rf F1 (by decide) RR
  have I := p2_rf G T Y e0 S R hc T1 F1 (by decide)
  refine pm_R_op pm_M0 (pc_q := 2002) (st_q := []) (pm_q0_25 (Nat.le_of_ble_eq_true rfl)) rfl rfl ?_
  refine pm_R_br pm_M0 (pc_q := 2117) (pm_q0_25 (Nat.le_of_ble_eq_true rfl)) rfl ?_
  exact K _ ⟨I, WW, KK, RR⟩

set_option maxRecDepth 100000 in
set_option maxHeartbeats 4000000 in
theorem p6_k39 {L n j : Nat} {xs : Nat → Int32} {h : pm_H} {Q : Option Value → pm_H → Prop} (I : p6_I L xs j h) (hn : n + 7 ≤ L) (hL : L ≤ 3584) (K : ∀ h_q, p6_I L xs (j + 1) h_q → pm_R 100 0 2117 [.ref 0, .ref 16, .ref 41, .int (Int32.ofNat n)] [] h_q Q) : pm_R 100 0 2005 [.ref 0, .ref 16, .ref 41, .int (Int32.ofNat n)] [] h Q := by
  obtain ⟨x1, v1⟩ : ∃ y, xs (Int32.toNatClampNeg (Int32.ofNat (n + 1))) = y := ⟨_, rfl⟩
  obtain ⟨x2, v2⟩ : ∃ y, xs (Int32.toNatClampNeg (Int32.ofNat (n + 2))) = y := ⟨_, rfl⟩
  obtain ⟨x3, v3⟩ : ∃ y, xs (Int32.toNatClampNeg (Int32.ofNat (n + 3))) = y := ⟨_, rfl⟩
  obtain ⟨I, WW, KK, RR⟩ := I
  obtain ⟨ck, E, m, o, mr, wr, G, T, Tr, Y, e0, S, R, hc⟩ := I
  refine pm_R_lo pm_M0 (pc_q := 2006) (pm_q0_25 (Nat.le_of_ble_eq_true rfl)) rfl rfl ?_
  refine pm_R_lo pm_M0 (pc_q := 2007) (pm_q0_25 (Nat.le_of_ble_eq_true rfl)) rfl rfl ?_
  refine pm_R_lo pm_M0 (pc_q := 2008) (pm_q0_25 (Nat.le_of_ble_eq_true rfl)) rfl rfl ?_
  refine pm_R_op pm_M0 (pc_q := 2009) (st_q := [.int 1, .int (Int32.ofNat n), .ref 0, .ref 16]) (pm_q0_26 (Nat.le_of_ble_eq_true rfl)) rfl rfl ?_
  refine pm_R_op pm_M0 (pc_q := 2010) (st_q := [.int (Int32.ofNat (n + 1)), .ref 0, .ref 16]) (pm_q0_26 (Nat.le_of_ble_eq_true rfl)) (congrArg (fun z => some (Value.int z :: [.ref 0, .ref 16])) (p2_ad (n := n) (c := 1) (k := 1) rfl)) rfl ?_
  refine pm_R_iald pm_M0 (pc_q := 2011) (v := x1) (pm_q0_26 (Nat.le_of_ble_eq_true rfl)) ((T.old (by decide)).trans e0) (T.lt (by decide)) (p2_in (by omega) hL) v1 rfl ?_
  refine pm_R_lo pm_M0 (pc_q := 2012) (pm_q0_26 (Nat.le_of_ble_eq_true rfl)) rfl rfl ?_
  refine pm_R_lo pm_M0 (pc_q := 2013) (pm_q0_26 (Nat.le_of_ble_eq_true rfl)) rfl rfl ?_
  refine pm_R_op pm_M0 (pc_q := 2014) (st_q := [.int 2, .int (Int32.ofNat n), .ref 0, .int x1, .ref 16]) (pm_q0_26 (Nat.le_of_ble_eq_true rfl)) rfl rfl ?_
  refine pm_R_op pm_M0 (pc_q := 2015) (st_q := [.int (Int32.ofNat (n + 2)), .ref 0, .int x1, .ref 16]) (pm_q0_26 (Nat.le_of_ble_eq_true rfl)) (congrArg (fun z => some (Value.int z :: [.ref 0, .int x1, .ref 16])) (p2_ad (n := n) (c := 2) (k := 2) rfl)) rfl ?_
  refine pm_R_iald pm_M0 (pc_q := 2016) (v := x2) (pm_q0_26 (Nat.le_of_ble_eq_true rfl)) ((T.old (by decide)).trans e0) (T.lt (by decide)) (p2_in (by omega) hL) v2 rfl ?_
  refine pm_R_lo pm_M0 (pc_q := 2017) (pm_q0_26 (Nat.le_of_ble_eq_true rfl)) rfl rfl ?_
  refine pm_R_lo pm_M0 (pc_q := 2018) (pm_q0_26 (Nat.le_of_ble_eq_true rfl)) rfl rfl ?_
  refine pm_R_op pm_M0 (pc_q := 2019) (st_q := [.int 3, .int (Int32.ofNat n), .ref 0, .int x2, .int x1, .ref 16]) (pm_q0_26 (Nat.le_of_ble_eq_true rfl)) rfl rfl ?_
  refine pm_R_op pm_M0 (pc_q := 2020) (st_q := [.int (Int32.ofNat (n + 3)), .ref 0, .int x2, .int x1, .ref 16]) (pm_q0_26 (Nat.le_of_ble_eq_true rfl)) (congrArg (fun z => some (Value.int z :: [.ref 0, .int x2, .int x1, .ref 16])) (p2_ad (n := n) (c := 3) (k := 3) rfl)) rfl ?_
  refine pm_R_iald pm_M0 (pc_q := 2021) (v := x3) (pm_q0_26 (Nat.le_of_ble_eq_true rfl)) ((T.old (by decide)).trans e0) (T.lt (by decide)) (p2_in (by omega) hL) v3 rfl ?_
  refine pm_R_cv pm_M0 (pc_q := 2024) (a := 16) (ra := [.int x3, .int x2, .int x1]) (rest := []) (ls_q := [.ref 16, .int x1, .int x2, .int x3, pm_no, pm_no, pm_no]) (pm_q0_26 (Nat.le_of_ble_eq_true rfl)) rfl (Or.inl rfl) pm_M111 T.e16 rfl (by decide) (T.lt (by decide)) rfl rfl (Nat.le_of_ble_eq_true rfl) rfl rfl ?_
  refine ex_inj WW KK rfl ?_
  refine cl_c111 G T (fun r1 m1 h1 T1 F1 W1 _ => ?_)
  intro WW KK
  show pm_R 100 0 2024 [.ref 0, .ref 16, .ref 41, .int (Int32.ofNat n)] [.int r1] _ _
  have RR := R2_cl G T F1 (by decide) RR
  have I := p2_cl (j := j) G T Tr Y e0 S R hc T1 F1 (W1 0 (by decide)) (by decide) (by decide) (by decide) (by decide) (by decide) (by decide) (by decide)
  obtain ⟨ck, E, m, o, mr, wr, G, T, Tr, Y, e0, S, R, hc⟩ := I
  refine pm_R_op pm_M0 (pc_q := 2025) (st_q := []) (pm_q0_26 (Nat.le_of_ble_eq_true rfl)) rfl rfl ?_
  refine pm_R_lo pm_M0 (pc_q := 2026) (pm_q0_26 (Nat.le_of_ble_eq_true rfl)) rfl rfl ?_
  refine pm_R_lo pm_M0 (pc_q := 2027) (pm_q0_26 (Nat.le_of_ble_eq_true rfl)) rfl rfl ?_
  refine pm_R_lo pm_M0 (pc_q := 2028) (pm_q0_26 (Nat.le_of_ble_eq_true rfl)) rfl rfl ?_
  refine pm_R_op pm_M0 (pc_q := 2029) (st_q := [.int 1, .int (Int32.ofNat n), .ref 0, .ref 41]) (pm_q0_26 (Nat.le_of_ble_eq_true rfl)) rfl rfl ?_
  refine pm_R_op pm_M0 (pc_q := 2030) (st_q := [.int (Int32.ofNat (n + 1)), .ref 0, .ref 41]) (pm_q0_26 (Nat.le_of_ble_eq_true rfl)) (congrArg (fun z => some (Value.int z :: [.ref 0, .ref 41])) (p2_ad (n := n) (c := 1) (k := 1) rfl)) rfl ?_
  refine pm_R_iald pm_M0 (pc_q := 2031) (v := x1) (pm_q0_26 (Nat.le_of_ble_eq_true rfl)) ((T.old (by decide)).trans e0) (T.lt (by decide)) (p2_in (by omega) hL) v1 rfl ?_
  refine pm_R_lo pm_M0 (pc_q := 2032) (pm_q0_26 (Nat.le_of_ble_eq_true rfl)) rfl rfl ?_
  refine pm_R_lo pm_M0 (pc_q := 2033) (pm_q0_26 (Nat.le_of_ble_eq_true rfl)) rfl rfl ?_
  refine pm_R_op pm_M0 (pc_q := 2034) (st_q := [.int 2, .int (Int32.ofNat n), .ref 0, .int x1, .ref 41]) (pm_q0_26 (Nat.le_of_ble_eq_true rfl)) rfl rfl ?_
  refine pm_R_op pm_M0 (pc_q := 2035) (st_q := [.int (Int32.ofNat (n + 2)), .ref 0, .int x1, .ref 41]) (pm_q0_26 (Nat.le_of_ble_eq_true rfl)) (congrArg (fun z => some (Value.int z :: [.ref 0, .int x1, .ref 41])) (p2_ad (n := n) (c := 2) (k := 2) rfl)) rfl ?_
  refine pm_R_iald pm_M0 (pc_q := 2036) (v := x2) (pm_q0_26 (Nat.le_of_ble_eq_true rfl)) ((T.old (by decide)).trans e0) (T.lt (by decide)) (p2_in (by omega) hL) v2 rfl ?_
  refine pm_R_lo pm_M0 (pc_q := 2037) (pm_q0_26 (Nat.le_of_ble_eq_true rfl)) rfl rfl ?_
  refine pm_R_lo pm_M0 (pc_q := 2038) (pm_q0_26 (Nat.le_of_ble_eq_true rfl)) rfl rfl ?_
  refine pm_R_op pm_M0 (pc_q := 2039) (st_q := [.int 3, .int (Int32.ofNat n), .ref 0, .int x2, .int x1, .ref 41]) (pm_q0_26 (Nat.le_of_ble_eq_true rfl)) rfl rfl ?_
  refine pm_R_op pm_M0 (pc_q := 2040) (st_q := [.int (Int32.ofNat (n + 3)), .ref 0, .int x2, .int x1, .ref 41]) (pm_q0_26 (Nat.le_of_ble_eq_true rfl)) (congrArg (fun z => some (Value.int z :: [.ref 0, .int x2, .int x1, .ref 41])) (p2_ad (n := n) (c := 3) (k := 3) rfl)) rfl ?_
  refine pm_R_iald pm_M0 (pc_q := 2041) (v := x3) (pm_q0_26 (Nat.le_of_ble_eq_true rfl)) ((T.old (by decide)).trans e0) (T.lt (by decide)) (p2_in (by omega) hL) v3 rfl ?_
  refine pm_R_cv pm_M0 (pc_q := 2044) (a := 41) (ra := [.int x3, .int x2, .int x1]) (rest := []) (ls_q := [.ref 41, .int x1, .int x2, .int x3, pm_no, pm_no]) (pm_q0_26 (Nat.le_of_ble_eq_true rfl)) rfl (Or.inl rfl) pm_M293 Tr.2.1 rfl (by decide) (Nat.lt_of_lt_of_le (by decide) Tr.1) rfl rfl (Nat.le_of_ble_eq_true rfl) rfl rfl ?_
  refine ex_inj WW KK rfl ?_
  refine rf_c293 Tr (fun r2 m1 w1 h1 T1 F1 W1 _ => ?_)
  intro WW KK
  show pm_R 100 0 2044 [.ref 0, .ref 16, .ref 41, .int (Int32.ofNat n)] [.int r2] _ _
  have RR := R2_rf F1 (by decide) RR
  have I := p2_rf G T Y e0 S R hc T1 F1 (by decide)
  refine pm_R_op pm_M0 (pc_q := 2045) (st_q := []) (pm_q0_26 (Nat.le_of_ble_eq_true rfl)) rfl rfl ?_
  refine pm_R_br pm_M0 (pc_q := 2117) (pm_q0_26 (Nat.le_of_ble_eq_true rfl)) rfl ?_
  exact K _ ⟨I, WW, KK, RR⟩

set_option maxRecDepth 100000 in
set_option maxHeartbeats 4000000 in
theorem p6_k40 {L n j : Nat} {xs : Nat → Int32} {h : pm_H} {Q : Option Value → pm_H → Prop} (I : p6_I L xs j h) (hn : n + 7 ≤ L) (hL : L ≤ 3584) (K : ∀ h_q, p6_I L xs (j + 1) h_q → pm_R 100 0 2117 [.ref 0, .ref 16, .ref 41, .int (Int32.ofNat n)] [] h_q Q) : pm_R 100 0 2048 [.ref 0, .ref 16, .ref 41, .int (Int32.ofNat n)] [] h Q := by
  obtain ⟨x1, v1⟩ : ∃ y, xs (Int32.toNatClampNeg (Int32.ofNat (n + 1))) = y := ⟨_, rfl⟩
  obtain ⟨I, WW, KK, RR⟩ := I
  obtain ⟨ck, E, m, o, mr, wr, G, T, Tr, Y, e0, S, R, hc⟩ := I
  refine pm_R_lo pm_M0 (pc_q := 2049) (pm_q0_26 (Nat.le_of_ble_eq_true rfl)) rfl rfl ?_
  refine pm_R_lo pm_M0 (pc_q := 2050) (pm_q0_26 (Nat.le_of_ble_eq_true rfl)) rfl rfl ?_
  refine pm_R_lo pm_M0 (pc_q := 2051) (pm_q0_26 (Nat.le_of_ble_eq_true rfl)) rfl rfl ?_
  refine pm_R_op pm_M0 (pc_q := 2052) (st_q := [.int 1, .int (Int32.ofNat n), .ref 0, .ref 16]) (pm_q0_26 (Nat.le_of_ble_eq_true rfl)) rfl rfl ?_
  refine pm_R_op pm_M0 (pc_q := 2053) (st_q := [.int (Int32.ofNat (n + 1)), .ref 0, .ref 16]) (pm_q0_26 (Nat.le_of_ble_eq_true rfl)) (congrArg (fun z => some (Value.int z :: [.ref 0, .ref 16])) (p2_ad (n := n) (c := 1) (k := 1) rfl)) rfl ?_
  refine pm_R_iald pm_M0 (pc_q := 2054) (v := x1) (pm_q0_26 (Nat.le_of_ble_eq_true rfl)) ((T.old (by decide)).trans e0) (T.lt (by decide)) (p2_in (by omega) hL) v1 rfl ?_
  refine pm_R_cv pm_M0 (pc_q := 2057) (a := 16) (ra := [.int x1]) (rest := []) (ls_q := [.ref 16, .int x1]) (pm_q0_26 (Nat.le_of_ble_eq_true rfl)) rfl (Or.inl rfl) pm_M56 T.e16 rfl (by decide) (T.lt (by decide)) rfl rfl (Nat.le_of_ble_eq_true rfl) rfl rfl ?_
  refine ex_inj WW KK rfl ?_
  refine cl_c56 G T (fun r1 _ => ?_)
  intro WW KK
  show pm_R 100 0 2057 [.ref 0, .ref 16, .ref 41, .int (Int32.ofNat n)] [.int r1] _ _
  have I := p2_up (⟨ck, E, m, o, mr, wr, G, T, Tr, Y, e0, S, R, hc⟩ : p2_I L xs j h)
  obtain ⟨ck, E, m, o, mr, wr, G, T, Tr, Y, e0, S, R, hc⟩ := I
  refine pm_R_op pm_M0 (pc_q := 2058) (st_q := []) (pm_q0_26 (Nat.le_of_ble_eq_true rfl)) rfl rfl ?_
  refine pm_R_lo pm_M0 (pc_q := 2059) (pm_q0_26 (Nat.le_of_ble_eq_true rfl)) rfl rfl ?_
  refine pm_R_lo pm_M0 (pc_q := 2060) (pm_q0_26 (Nat.le_of_ble_eq_true rfl)) rfl rfl ?_
  refine pm_R_lo pm_M0 (pc_q := 2061) (pm_q0_26 (Nat.le_of_ble_eq_true rfl)) rfl rfl ?_
  refine pm_R_op pm_M0 (pc_q := 2062) (st_q := [.int 1, .int (Int32.ofNat n), .ref 0, .ref 41]) (pm_q0_26 (Nat.le_of_ble_eq_true rfl)) rfl rfl ?_
  refine pm_R_op pm_M0 (pc_q := 2063) (st_q := [.int (Int32.ofNat (n + 1)), .ref 0, .ref 41]) (pm_q0_26 (Nat.le_of_ble_eq_true rfl)) (congrArg (fun z => some (Value.int z :: [.ref 0, .ref 41])) (p2_ad (n := n) (c := 1) (k := 1) rfl)) rfl ?_
  refine pm_R_iald pm_M0 (pc_q := 2064) (v := x1) (pm_q0_26 (Nat.le_of_ble_eq_true rfl)) ((T.old (by decide)).trans e0) (T.lt (by decide)) (p2_in (by omega) hL) v1 rfl ?_
  refine pm_R_cv pm_M0 (pc_q := 2067) (a := 41) (ra := [.int x1]) (rest := []) (ls_q := [.ref 41, .int x1]) (pm_q0_26 (Nat.le_of_ble_eq_true rfl)) rfl (Or.inl rfl) pm_M294 Tr.2.1 rfl (by decide) (Nat.lt_of_lt_of_le (by decide) Tr.1) rfl rfl (Nat.le_of_ble_eq_true rfl) rfl rfl ?_
  refine ex_inj WW KK rfl ?_
  refine rf_c294 Tr (fun r2 m1 w1 h1 T1 F1 W1 => ?_)
  intro WW KK
  show pm_R 100 0 2067 [.ref 0, .ref 16, .ref 41, .int (Int32.ofNat n)] [.int r2] _ _
  have RR := R2_rf F1 (by decide) RR
  have I := p2_rf G T Y e0 S R hc T1 F1 (by decide)
  refine pm_R_op pm_M0 (pc_q := 2068) (st_q := []) (pm_q0_26 (Nat.le_of_ble_eq_true rfl)) rfl rfl ?_
  refine pm_R_br pm_M0 (pc_q := 2117) (pm_q0_26 (Nat.le_of_ble_eq_true rfl)) rfl ?_
  exact K _ ⟨I, WW, KK, RR⟩
