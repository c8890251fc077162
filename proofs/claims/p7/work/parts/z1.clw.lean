set_option maxRecDepth 100000 in
set_option maxHeartbeats 4000000 in
theorem p6_k0 {L n j : Nat} {xs : Nat → Int32} {h : pm_H} {Q : Option Value → pm_H → Prop} (I : p6_I L xs j h) (hn : n + 7 ≤ L) (hL : L ≤ 3584) (K : ∀ h_q, p6_I L xs (j + 1) h_q → pm_R 100 0 2117 [.ref 0, .ref 16, .ref 41, .int (Int32.ofNat n)] [] h_q Q) : pm_R 100 0 220 [.ref 0, .ref 16, .ref 41, .int (Int32.ofNat n)] [] h Q := by
  obtain ⟨x1, v1⟩ : ∃ y, xs (Int32.toNatClampNeg (Int32.ofNat (n + 1))) = y := ⟨_, rfl⟩
  obtain ⟨x2, v2⟩ : ∃ y, xs (Int32.toNatClampNeg (Int32.ofNat (n + 2))) = y := ⟨_, rfl⟩
  obtain ⟨x3, v3⟩ : ∃ y, xs (Int32.toNatClampNeg (Int32.ofNat (n + 3))) = y := ⟨_, rfl⟩
  obtain ⟨x4, v4⟩ : ∃ y, xs (Int32.toNatClampNeg (Int32.ofNat (n + 4))) = y := ⟨_, rfl⟩
  obtain ⟨x5, v5⟩ : ∃ y, xs (Int32.toNatClampNeg (Int32.ofNat (n + 5))) = y := ⟨_, rfl⟩
  obtain ⟨I, WW, KK, RR⟩ := I
  obtain ⟨ck, E, m, o, mr, wr, G, T, Tr, Y, e0, S, R, hc⟩ := I
  have TW := tW_of G T S
  obtain ⟨nn, en, hnn⟩ := sz_of T
  obtain ⟨g, q, f, s1, s2, s3, s4, s5, s6, s7⟩ := S
  obtain ⟨f0, ef0, hO⟩ := T.C 24 (by decide) (by decide)
  rw [s3] at ef0; cases ef0
  refine pm_R_lo pm_M0 (pc_q := 221) rfl rfl rfl ?_
  refine pm_R_lo pm_M0 (pc_q := 222) rfl rfl rfl ?_
  refine pm_R_lo pm_M0 (pc_q := 223) rfl rfl rfl ?_
  refine pm_R_op pm_M0 (pc_q := 224) (st_q := [.int 1, .int (Int32.ofNat n), .ref 0, .ref 16]) rfl rfl rfl ?_
  refine pm_R_op pm_M0 (pc_q := 225) (st_q := [.int (Int32.ofNat (n + 1)), .ref 0, .ref 16]) rfl (congrArg (fun z => some (Value.int z :: [.ref 0, .ref 16])) (p2_ad (n := n) (c := 1) (k := 1) rfl)) rfl ?_
  refine pm_R_iald pm_M0 (pc_q := 226) (v := x1) rfl ((T.old (by decide)).trans e0) (T.lt (by decide)) (p2_in (by omega) hL) v1 rfl ?_
  refine pm_R_lo pm_M0 (pc_q := 227) rfl rfl rfl ?_
  refine pm_R_lo pm_M0 (pc_q := 228) rfl rfl rfl ?_
  refine pm_R_op pm_M0 (pc_q := 229) (st_q := [.int 2, .int (Int32.ofNat n), .ref 0, .int x1, .ref 16]) rfl rfl rfl ?_
  refine pm_R_op pm_M0 (pc_q := 230) (st_q := [.int (Int32.ofNat (n + 2)), .ref 0, .int x1, .ref 16]) rfl (congrArg (fun z => some (Value.int z :: [.ref 0, .int x1, .ref 16])) (p2_ad (n := n) (c := 2) (k := 2) rfl)) rfl ?_
  refine pm_R_iald pm_M0 (pc_q := 231) (v := x2) rfl ((T.old (by decide)).trans e0) (T.lt (by decide)) (p2_in (by omega) hL) v2 rfl ?_
  refine pm_R_lo pm_M0 (pc_q := 232) rfl rfl rfl ?_
  refine pm_R_lo pm_M0 (pc_q := 233) rfl rfl rfl ?_
  refine pm_R_op pm_M0 (pc_q := 234) (st_q := [.int 3, .int (Int32.ofNat n), .ref 0, .int x2, .int x1, .ref 16]) rfl rfl rfl ?_
  refine pm_R_op pm_M0 (pc_q := 235) (st_q := [.int (Int32.ofNat (n + 3)), .ref 0, .int x2, .int x1, .ref 16]) rfl (congrArg (fun z => some (Value.int z :: [.ref 0, .int x2, .int x1, .ref 16])) (p2_ad (n := n) (c := 3) (k := 3) rfl)) rfl ?_
  refine pm_R_iald pm_M0 (pc_q := 236) (v := x3) rfl ((T.old (by decide)).trans e0) (T.lt (by decide)) (p2_in (by omega) hL) v3 rfl ?_
  refine pm_R_lo pm_M0 (pc_q := 237) rfl rfl rfl ?_
  refine pm_R_lo pm_M0 (pc_q := 238) rfl rfl rfl ?_
  refine pm_R_op pm_M0 (pc_q := 239) (st_q := [.int 4, .int (Int32.ofNat n), .ref 0, .int x3, .int x2, .int x1, .ref 16]) rfl rfl rfl ?_
  refine pm_R_op pm_M0 (pc_q := 240) (st_q := [.int (Int32.ofNat (n + 4)), .ref 0, .int x3, .int x2, .int x1, .ref 16]) rfl (congrArg (fun z => some (Value.int z :: [.ref 0, .int x3, .int x2, .int x1, .ref 16])) (p2_ad (n := n) (c := 4) (k := 4) rfl)) rfl ?_
  refine pm_R_iald pm_M0 (pc_q := 241) (v := x4) rfl ((T.old (by decide)).trans e0) (T.lt (by decide)) (p2_in (by omega) hL) v4 rfl ?_
  refine pm_R_lo pm_M0 (pc_q := 242) rfl rfl rfl ?_
  refine pm_R_lo pm_M0 (pc_q := 243) rfl rfl rfl ?_
  refine pm_R_op pm_M0 (pc_q := 244) (st_q := [.int 5, .int (Int32.ofNat n), .ref 0, .int x4, .int x3, .int x2, .int x1, .ref 16]) rfl rfl rfl ?_
  refine pm_R_op pm_M0 (pc_q := 245) (st_q := [.int (Int32.ofNat (n + 5)), .ref 0, .int x4, .int x3, .int x2, .int x1, .ref 16]) rfl (congrArg (fun z => some (Value.int z :: [.ref 0, .int x4, .int x3, .int x2, .int x1, .ref 16])) (p2_ad (n := n) (c := 5) (k := 5) rfl)) rfl ?_
  refine pm_R_iald pm_M0 (pc_q := 246) (v := x5) rfl ((T.old (by decide)).trans e0) (T.lt (by decide)) (p2_in (by omega) hL) v5 rfl ?_
  refine pm_R_cv pm_M0 (pc_q := 249) (a := 16) (ra := [.int x5, .int x4, .int x3, .int x2, .int x1]) (rest := []) (ls_q := [.ref 16, .int x1, .int x2, .int x3, .int x4, .int x5]) rfl rfl (Or.inl rfl) pm_M7 T.e16 rfl (by decide) (T.lt (by decide)) rfl rfl (Nat.le_of_ble_eq_true rfl) rfl rfl ?_
  refine ex_injP WW KK (fun N => ec7 N _ _ _ _ _ _ _) ?_
  refine cl_c7 G T (fun r1 m1 h1 T1 F1 W1 X1 B1 => ?_)
  intro WW KK P1
  obtain ⟨v1r, ev1r, P1⟩ := P1
  rw [ex_vi ev1r] at P1
  show pm_R 100 0 249 [.ref 0, .ref 16, .ref 41, .int (Int32.ofNat n)] [.int r1] _ _
  have ot := p2_oth G F1 (by decide)
  have Tr1 := Tr.keepF T1.1 ot
  have Y1 := Y.cl G F1 (by decide)
  have R1 := (R.cl G T T1 F1 (by decide) (by decide) (by decide)).le (show 124992 + 1000 * j + 1000 ≤ 124992 + 1000 * (j + 1) by omega)
  have hc1 : h1.1 ≤ 72 + 20 * (j + 1) := by have := F1.2.2.1; omega
  have g1 := (ot 43 (by decide) (by decide)).trans s1
  have g2 := (ot 71 (by decide) (by decide)).trans s2
  have g3 := F1.cell G (by decide) (by decide) s3
  have im1 : ∀ i t, i < 3 → f i = some t → h1.2.2 t = h.2.2 t := fun i t hi ht => by
    have hk := hO i t ht
    have ht72 := G.1 t (by rw [hk]; decide)
    exact F1.2.2.2.2 t (T.al hk (by decide)) (fun z => by have := List.all_eq_true.mp (show ([17, 18].all fun a => decide (a < 72)) = true by decide) t z; simp only [decide_eq_true_eq] at this; omega) (by rw [hk]; decide)
  refine pm_R_op pm_M0 (pc_q := 250) (st_q := []) rfl rfl rfl ?_
  refine pm_R_lo pm_M0 (pc_q := 251) rfl rfl rfl ?_
  refine pm_R_lo pm_M0 (pc_q := 252) rfl rfl rfl ?_
  refine pm_R_lo pm_M0 (pc_q := 253) rfl rfl rfl ?_
  refine pm_R_op pm_M0 (pc_q := 254) (st_q := [.int 1, .int (Int32.ofNat n), .ref 0, .ref 41]) rfl rfl rfl ?_
  refine pm_R_op pm_M0 (pc_q := 255) (st_q := [.int (Int32.ofNat (n + 1)), .ref 0, .ref 41]) rfl (congrArg (fun z => some (Value.int z :: [.ref 0, .ref 41])) (p2_ad (n := n) (c := 1) (k := 1) rfl)) rfl ?_
  refine pm_R_iald pm_M0 (pc_q := 256) (v := x1) rfl ((T1.old (by decide)).trans e0) (T1.lt (by decide)) (p2_in (by omega) hL) v1 rfl ?_
  refine pm_R_lo pm_M0 (pc_q := 257) rfl rfl rfl ?_
  refine pm_R_lo pm_M0 (pc_q := 258) rfl rfl rfl ?_
  refine pm_R_op pm_M0 (pc_q := 259) (st_q := [.int 2, .int (Int32.ofNat n), .ref 0, .int x1, .ref 41]) rfl rfl rfl ?_
  refine pm_R_op pm_M0 (pc_q := 260) (st_q := [.int (Int32.ofNat (n + 2)), .ref 0, .int x1, .ref 41]) rfl (congrArg (fun z => some (Value.int z :: [.ref 0, .int x1, .ref 41])) (p2_ad (n := n) (c := 2) (k := 2) rfl)) rfl ?_
  refine pm_R_iald pm_M0 (pc_q := 261) (v := x2) (pm_q0_1 (Nat.le_of_ble_eq_true rfl)) ((T1.old (by decide)).trans e0) (T1.lt (by decide)) (p2_in (by omega) hL) v2 rfl ?_
  refine pm_R_lo pm_M0 (pc_q := 262) (pm_q0_1 (Nat.le_of_ble_eq_true rfl)) rfl rfl ?_
  refine pm_R_lo pm_M0 (pc_q := 263) (pm_q0_1 (Nat.le_of_ble_eq_true rfl)) rfl rfl ?_
  refine pm_R_op pm_M0 (pc_q := 264) (st_q := [.int 3, .int (Int32.ofNat n), .ref 0, .int x2, .int x1, .ref 41]) (pm_q0_1 (Nat.le_of_ble_eq_true rfl)) rfl rfl ?_
  refine pm_R_op pm_M0 (pc_q := 265) (st_q := [.int (Int32.ofNat (n + 3)), .ref 0, .int x2, .int x1, .ref 41]) (pm_q0_1 (Nat.le_of_ble_eq_true rfl)) (congrArg (fun z => some (Value.int z :: [.ref 0, .int x2, .int x1, .ref 41])) (p2_ad (n := n) (c := 3) (k := 3) rfl)) rfl ?_
  refine pm_R_iald pm_M0 (pc_q := 266) (v := x3) (pm_q0_1 (Nat.le_of_ble_eq_true rfl)) ((T1.old (by decide)).trans e0) (T1.lt (by decide)) (p2_in (by omega) hL) v3 rfl ?_
  refine pm_R_lo pm_M0 (pc_q := 267) (pm_q0_1 (Nat.le_of_ble_eq_true rfl)) rfl rfl ?_
  refine pm_R_lo pm_M0 (pc_q := 268) (pm_q0_1 (Nat.le_of_ble_eq_true rfl)) rfl rfl ?_
  refine pm_R_op pm_M0 (pc_q := 269) (st_q := [.int 4, .int (Int32.ofNat n), .ref 0, .int x3, .int x2, .int x1, .ref 41]) (pm_q0_1 (Nat.le_of_ble_eq_true rfl)) rfl rfl ?_
  refine pm_R_op pm_M0 (pc_q := 270) (st_q := [.int (Int32.ofNat (n + 4)), .ref 0, .int x3, .int x2, .int x1, .ref 41]) (pm_q0_1 (Nat.le_of_ble_eq_true rfl)) (congrArg (fun z => some (Value.int z :: [.ref 0, .int x3, .int x2, .int x1, .ref 41])) (p2_ad (n := n) (c := 4) (k := 4) rfl)) rfl ?_
  refine pm_R_iald pm_M0 (pc_q := 271) (v := x4) (pm_q0_1 (Nat.le_of_ble_eq_true rfl)) ((T1.old (by decide)).trans e0) (T1.lt (by decide)) (p2_in (by omega) hL) v4 rfl ?_
  refine pm_R_lo pm_M0 (pc_q := 272) (pm_q0_1 (Nat.le_of_ble_eq_true rfl)) rfl rfl ?_
  refine pm_R_lo pm_M0 (pc_q := 273) (pm_q0_1 (Nat.le_of_ble_eq_true rfl)) rfl rfl ?_
  refine pm_R_op pm_M0 (pc_q := 274) (st_q := [.int 5, .int (Int32.ofNat n), .ref 0, .int x4, .int x3, .int x2, .int x1, .ref 41]) (pm_q0_1 (Nat.le_of_ble_eq_true rfl)) rfl rfl ?_
  refine pm_R_op pm_M0 (pc_q := 275) (st_q := [.int (Int32.ofNat (n + 5)), .ref 0, .int x4, .int x3, .int x2, .int x1, .ref 41]) (pm_q0_1 (Nat.le_of_ble_eq_true rfl)) (congrArg (fun z => some (Value.int z :: [.ref 0, .int x4, .int x3, .int x2, .int x1, .ref 41])) (p2_ad (n := n) (c := 5) (k := 5) rfl)) rfl ?_
  refine pm_R_iald pm_M0 (pc_q := 276) (v := x5) (pm_q0_1 (Nat.le_of_ble_eq_true rfl)) ((T1.old (by decide)).trans e0) (T1.lt (by decide)) (p2_in (by omega) hL) v5 rfl ?_
  refine pm_R_cv pm_M0 (pc_q := 279) (a := 41) (ra := [.int x5, .int x4, .int x3, .int x2, .int x1]) (rest := []) (ls_q := [.ref 41, .int x1, .int x2, .int x3, .int x4, .int x5]) (pm_q0_1 (Nat.le_of_ble_eq_true rfl)) rfl (Or.inl rfl) pm_M171 Tr1.2.1 rfl (by decide) (Nat.lt_of_lt_of_le (by decide) Tr1.1) rfl rfl (Nat.le_of_ble_eq_true rfl) rfl rfl ?_
  refine ex_injP WW KK (fun N => ec171 N _ _ _ _ _ _ _) ?_
  refine rf_c171 Tr1 (fun r2 m2 w2 h2 T2 F2 W2 X2 B2 => ?_)
  intro WW KK P2
  obtain ⟨v2r, ev2r, P2⟩ := P2
  rw [ex_vi ev2r] at P2
  show pm_R 100 0 279 [.ref 0, .ref 16, .ref 41, .int (Int32.ofNat n)] [.int r2] _ _
  have hi2 := p2_hi F2 (by decide)
  have q24 := (hi2 24 (by omega)).trans g3
  have im : ∀ i t, i < 3 → f i = some t → ∃ v x y, h2.2.2 t = p2_O t v x y ∧ v.toInt = (g (i + 1)).toInt := fun i t hi ht => by
    obtain ⟨v, x, y, w1, w2⟩ := s6 i t hi ht
    have ht72 := G.1 t (by rw [hO i t ht]; decide)
    exact ⟨v, x, y, (hi2 t (by omega)).trans ((im1 i t hi ht).trans w1), w2⟩
  have q71 := (F2.2.2 71 (by decide)).trans g2
  have key : r1 = r2 ∧ p2_S m1 h2 := by
    rcases X1 with ⟨a1, a2, a3⟩ | ⟨a1, a2, a3⟩
    · rcases X2 g g1 with ⟨b1, b2, b3⟩ | ⟨b1, b2, g_q, b3, b4, b5⟩
      · exact ⟨Int32.toInt_inj.mp (by omega), g, q, f, b3, q71, q24, by rw [a3]; exact s4, s5, im, s7⟩
      · exfalso; omega
    · rcases X2 g g1 with ⟨b1, b2, b3⟩ | ⟨b1, b2, g_q, b3, b4, b5⟩
      · exfalso; omega
      · refine ⟨Int32.toInt_inj.mp (by omega), g_q, q, f, b3, q71, q24, by omega, s5, fun i t hi ht => ?_, s7⟩
        obtain ⟨v, x, y, w1, w2⟩ := im i t hi ht
        exact ⟨v, x, y, w1, by rw [w2, b5 (i + 1) (by omega)]⟩
  obtain ⟨e12, S2⟩ := key
  refine pm_R_op pm_M0 (pc_q := 280) (st_q := []) (pm_q0_1 (Nat.le_of_ble_eq_true rfl)) rfl rfl ?_
  refine pm_R_br pm_M0 (pc_q := 2117) (pm_q0_1 (Nat.le_of_ble_eq_true rfl)) rfl ?_
  exact K _ ⟨p2_rfS G T1 Y1 e0 R1 hc1 T2 F2 (by decide) S2, WW, KK, R2_feed en hnn RR P1 P2⟩
set_option maxRecDepth 100000 in
set_option maxHeartbeats 4000000 in
theorem p6_k1 {L n j : Nat} {xs : Nat → Int32} {h : pm_H} {Q : Option Value → pm_H → Prop} (I : p6_I L xs j h) (hn : n + 7 ≤ L) (hL : L ≤ 3584) (K : ∀ h_q, p6_I L xs (j + 1) h_q → pm_R 100 0 2117 [.ref 0, .ref 16, .ref 41, .int (Int32.ofNat n)] [] h_q Q) : pm_R 100 0 283 [.ref 0, .ref 16, .ref 41, .int (Int32.ofNat n)] [] h Q := by
  obtain ⟨x1, v1⟩ : ∃ y, xs (Int32.toNatClampNeg (Int32.ofNat (n + 1))) = y := ⟨_, rfl⟩
  obtain ⟨I, WW, KK, RR⟩ := I
  obtain ⟨ck, E, m, o, mr, wr, G, T, Tr, Y, e0, S, R, hc⟩ := I
  have TW := tW_of G T S
  obtain ⟨nn, en, hnn⟩ := sz_of T
  obtain ⟨g, q, f, s1, s2, s3, s4, s5, s6, s7⟩ := S
  obtain ⟨f0, ef0, hO⟩ := T.C 24 (by decide) (by decide)
  rw [s3] at ef0; cases ef0
  refine pm_R_lo pm_M0 (pc_q := 284) (pm_q0_1 (Nat.le_of_ble_eq_true rfl)) rfl rfl ?_
  refine pm_R_lo pm_M0 (pc_q := 285) (pm_q0_1 (Nat.le_of_ble_eq_true rfl)) rfl rfl ?_
  refine pm_R_lo pm_M0 (pc_q := 286) (pm_q0_1 (Nat.le_of_ble_eq_true rfl)) rfl rfl ?_
  refine pm_R_op pm_M0 (pc_q := 287) (st_q := [.int 1, .int (Int32.ofNat n), .ref 0, .ref 16]) (pm_q0_1 (Nat.le_of_ble_eq_true rfl)) rfl rfl ?_
  refine pm_R_op pm_M0 (pc_q := 288) (st_q := [.int (Int32.ofNat (n + 1)), .ref 0, .ref 16]) (pm_q0_1 (Nat.le_of_ble_eq_true rfl)) (congrArg (fun z => some (Value.int z :: [.ref 0, .ref 16])) (p2_ad (n := n) (c := 1) (k := 1) rfl)) rfl ?_
  refine pm_R_iald pm_M0 (pc_q := 289) (v := x1) (pm_q0_1 (Nat.le_of_ble_eq_true rfl)) ((T.old (by decide)).trans e0) (T.lt (by decide)) (p2_in (by omega) hL) v1 rfl ?_
  refine pm_R_cv pm_M0 (pc_q := 292) (a := 16) (ra := [.int x1]) (rest := []) (ls_q := [.ref 16, .int x1]) (pm_q0_1 (Nat.le_of_ble_eq_true rfl)) rfl (Or.inl rfl) pm_M9 T.e16 rfl (by decide) (T.lt (by decide)) rfl rfl (Nat.le_of_ble_eq_true rfl) rfl rfl ?_
  refine ex_injP WW KK (fun N => ec9 N _ _ _) ?_
  refine cl_c9 G T (fun r1 m1 h1 T1 F1 W1 X1 B1 => ?_)
  intro WW KK P1
  obtain ⟨v1r, ev1r, P1⟩ := P1
  rw [ex_vi ev1r] at P1
  show pm_R 100 0 292 [.ref 0, .ref 16, .ref 41, .int (Int32.ofNat n)] [.int r1] _ _
  have ot := p2_oth G F1 (by decide)
  have Tr1 := Tr.keepF T1.1 ot
  have Y1 := Y.cl G F1 (by decide)
  have R1 := (R.cl G T T1 F1 (by decide) (by decide) (by decide)).le (show 124992 + 1000 * j + 1000 ≤ 124992 + 1000 * (j + 1) by omega)
  have hc1 : h1.1 ≤ 72 + 20 * (j + 1) := by have := F1.2.2.1; omega
  have g1 := (ot 43 (by decide) (by decide)).trans s1
  have g2 := (ot 71 (by decide) (by decide)).trans s2
  have g3 := F1.cell G (by decide) (by decide) s3
  have im1 : ∀ i t, i < 3 → f i = some t → h1.2.2 t = h.2.2 t := fun i t hi ht => by
    have hk := hO i t ht
    have ht72 := G.1 t (by rw [hk]; decide)
    exact F1.2.2.2.2 t (T.al hk (by decide)) (fun z => by have := List.all_eq_true.mp (show ([17].all fun a => decide (a < 72)) = true by decide) t z; simp only [decide_eq_true_eq] at this; omega) (by rw [hk]; decide)
  refine pm_R_op pm_M0 (pc_q := 293) (st_q := []) (pm_q0_1 (Nat.le_of_ble_eq_true rfl)) rfl rfl ?_
  refine pm_R_lo pm_M0 (pc_q := 294) (pm_q0_1 (Nat.le_of_ble_eq_true rfl)) rfl rfl ?_
  refine pm_R_lo pm_M0 (pc_q := 295) (pm_q0_1 (Nat.le_of_ble_eq_true rfl)) rfl rfl ?_
  refine pm_R_lo pm_M0 (pc_q := 296) (pm_q0_1 (Nat.le_of_ble_eq_true rfl)) rfl rfl ?_
  refine pm_R_op pm_M0 (pc_q := 297) (st_q := [.int 1, .int (Int32.ofNat n), .ref 0, .ref 41]) (pm_q0_1 (Nat.le_of_ble_eq_true rfl)) rfl rfl ?_
  refine pm_R_op pm_M0 (pc_q := 298) (st_q := [.int (Int32.ofNat (n + 1)), .ref 0, .ref 41]) (pm_q0_1 (Nat.le_of_ble_eq_true rfl)) (congrArg (fun z => some (Value.int z :: [.ref 0, .ref 41])) (p2_ad (n := n) (c := 1) (k := 1) rfl)) rfl ?_
  refine pm_R_iald pm_M0 (pc_q := 299) (v := x1) (pm_q0_1 (Nat.le_of_ble_eq_true rfl)) ((T1.old (by decide)).trans e0) (T1.lt (by decide)) (p2_in (by omega) hL) v1 rfl ?_
  refine pm_R_cv pm_M0 (pc_q := 302) (a := 41) (ra := [.int x1]) (rest := []) (ls_q := [.ref 41, .int x1]) (pm_q0_1 (Nat.le_of_ble_eq_true rfl)) rfl (Or.inl rfl) pm_M173 Tr1.2.1 rfl (by decide) (Nat.lt_of_lt_of_le (by decide) Tr1.1) rfl rfl (Nat.le_of_ble_eq_true rfl) rfl rfl ?_
  refine ex_injP WW KK (fun N => ec173 N _ _ _) ?_
  refine rf_c173 Tr1 (fun r2 m2 w2 h2 T2 F2 W2 X2 B2 => ?_)
  intro WW KK P2
  obtain ⟨v2r, ev2r, P2⟩ := P2
  rw [ex_vi ev2r] at P2
  show pm_R 100 0 302 [.ref 0, .ref 16, .ref 41, .int (Int32.ofNat n)] [.int r2] _ _
  have hi2 := p2_hi F2 (by decide)
  have q24 := (hi2 24 (by omega)).trans g3
  have im : ∀ i t, i < 3 → f i = some t → ∃ v x y, h2.2.2 t = p2_O t v x y ∧ v.toInt = (g (i + 1)).toInt := fun i t hi ht => by
    obtain ⟨v, x, y, w1, w2⟩ := s6 i t hi ht
    have ht72 := G.1 t (by rw [hO i t ht]; decide)
    exact ⟨v, x, y, (hi2 t (by omega)).trans ((im1 i t hi ht).trans w1), w2⟩
  have z0 : Int32.toNatClampNeg 0 = 0 := rfl
  have u1 : ∀ (a : Int32) i, upd g 0 a (i + 1) = g (i + 1) := fun a i => by unfold upd; rw [if_neg (by omega)]
  have u0 : ∀ a : Int32, upd g 0 a 0 = a := fun a => by unfold upd; rw [if_pos rfl]
  have q71 := (F2.2.2 71 (by decide)).trans g2
  have key : r1 = r2 ∧ p2_S m1 h2 := by
    rcases X1 with ⟨a1, a2, a3⟩ | ⟨a1, a2, a3, a4⟩
    · rcases X2 g g1 with ⟨b1, b2, b3⟩ | ⟨b1, b2, b3, b4⟩
      · exact ⟨Int32.toInt_inj.mp (by omega), g, q, f, b3, q71, q24, by rw [a3]; exact s4, s5, im, s7⟩
      · exfalso; omega
    · rcases X2 g g1 with ⟨b1, b2, b3⟩ | ⟨b1, b2, b3, b4⟩
      · exfalso; omega
      · rw [z0] at b4
        refine ⟨a3.trans b3.symm, upd g 0 x1, q, f, b4, q71, q24, by rw [a4, u0], s5, fun i t hi ht => ?_, s7⟩
        rw [u1]; exact im i t hi ht
  obtain ⟨e12, S2⟩ := key
  refine pm_R_op pm_M0 (pc_q := 303) (st_q := []) (pm_q0_1 (Nat.le_of_ble_eq_true rfl)) rfl rfl ?_
  refine pm_R_br pm_M0 (pc_q := 2117) (pm_q0_1 (Nat.le_of_ble_eq_true rfl)) rfl ?_
  exact K _ ⟨p2_rfS G T1 Y1 e0 R1 hc1 T2 F2 (by decide) S2, WW, KK, R2_end RR P1 P2⟩
set_option maxRecDepth 100000 in
set_option maxHeartbeats 4000000 in
theorem p6_k2 {L n j : Nat} {xs : Nat → Int32} {h : pm_H} {Q : Option Value → pm_H → Prop} (I : p6_I L xs j h) (hn : n + 7 ≤ L) (hL : L ≤ 3584) (K : ∀ h_q, p6_I L xs (j + 1) h_q → pm_R 100 0 2117 [.ref 0, .ref 16, .ref 41, .int (Int32.ofNat n)] [] h_q Q) : pm_R 100 0 306 [.ref 0, .ref 16, .ref 41, .int (Int32.ofNat n)] [] h Q := by
  obtain ⟨x1, v1⟩ : ∃ y, xs (Int32.toNatClampNeg (Int32.ofNat (n + 1))) = y := ⟨_, rfl⟩
  obtain ⟨x2, v2⟩ : ∃ y, xs (Int32.toNatClampNeg (Int32.ofNat (n + 2))) = y := ⟨_, rfl⟩
  obtain ⟨I, WW, KK, RR⟩ := I
  obtain ⟨ck, E, m, o, mr, wr, G, T, Tr, Y, e0, S, R, hc⟩ := I
  have TW := tW_of G T S
  obtain ⟨nn, en, hnn⟩ := sz_of T
  obtain ⟨g, q, f, s1, s2, s3, s4, s5, s6, s7⟩ := S
  obtain ⟨f0, ef0, hO⟩ := T.C 24 (by decide) (by decide)
  rw [s3] at ef0; cases ef0
  refine pm_R_lo pm_M0 (pc_q := 307) (pm_q0_1 (Nat.le_of_ble_eq_true rfl)) rfl rfl ?_
  refine pm_R_lo pm_M0 (pc_q := 308) (pm_q0_1 (Nat.le_of_ble_eq_true rfl)) rfl rfl ?_
  refine pm_R_lo pm_M0 (pc_q := 309) (pm_q0_1 (Nat.le_of_ble_eq_true rfl)) rfl rfl ?_
  refine pm_R_op pm_M0 (pc_q := 310) (st_q := [.int 1, .int (Int32.ofNat n), .ref 0, .ref 16]) (pm_q0_1 (Nat.le_of_ble_eq_true rfl)) rfl rfl ?_
  refine pm_R_op pm_M0 (pc_q := 311) (st_q := [.int (Int32.ofNat (n + 1)), .ref 0, .ref 16]) (pm_q0_1 (Nat.le_of_ble_eq_true rfl)) (congrArg (fun z => some (Value.int z :: [.ref 0, .ref 16])) (p2_ad (n := n) (c := 1) (k := 1) rfl)) rfl ?_
  refine pm_R_iald pm_M0 (pc_q := 312) (v := x1) (pm_q0_1 (Nat.le_of_ble_eq_true rfl)) ((T.old (by decide)).trans e0) (T.lt (by decide)) (p2_in (by omega) hL) v1 rfl ?_
  refine pm_R_lo pm_M0 (pc_q := 313) (pm_q0_1 (Nat.le_of_ble_eq_true rfl)) rfl rfl ?_
  refine pm_R_lo pm_M0 (pc_q := 314) (pm_q0_1 (Nat.le_of_ble_eq_true rfl)) rfl rfl ?_
  refine pm_R_op pm_M0 (pc_q := 315) (st_q := [.int 2, .int (Int32.ofNat n), .ref 0, .int x1, .ref 16]) (pm_q0_1 (Nat.le_of_ble_eq_true rfl)) rfl rfl ?_
  refine pm_R_op pm_M0 (pc_q := 316) (st_q := [.int (Int32.ofNat (n + 2)), .ref 0, .int x1, .ref 16]) (pm_q0_1 (Nat.le_of_ble_eq_true rfl)) (congrArg (fun z => some (Value.int z :: [.ref 0, .int x1, .ref 16])) (p2_ad (n := n) (c := 2) (k := 2) rfl)) rfl ?_
  refine pm_R_iald pm_M0 (pc_q := 317) (v := x2) (pm_q0_1 (Nat.le_of_ble_eq_true rfl)) ((T.old (by decide)).trans e0) (T.lt (by decide)) (p2_in (by omega) hL) v2 rfl ?_
  refine pm_R_cv pm_M0 (pc_q := 320) (a := 16) (ra := [.int x2, .int x1]) (rest := []) (ls_q := [.ref 16, .int x1, .int x2, pm_no, pm_no, pm_no, pm_no]) (pm_q0_1 (Nat.le_of_ble_eq_true rfl)) rfl (Or.inl rfl) pm_M10 T.e16 rfl (by decide) (T.lt (by decide)) rfl rfl (Nat.le_of_ble_eq_true rfl) rfl rfl ?_
  have KK0 := KK
  suffices go : ∀ (r1 : Int32) (ck1 : cl_K) (E1 : Nat → pm_E) (m1 : Nat → Int32) (o1 : Nat → Option Nat) (h1 : pm_H), cl_G ck1 E1 → cl_T ck1 E1 m1 o1 h1 → E1 0 = .inl (0, L, .inl xs) → cl_F ck [17, 19, 20, 21, 22, 23, 25, 26, 27, 28, 29, 30] 6 561 h h1 → (m1 0).toInt = 0 → cl_Y h1 → ex_W h1 → ex_K h1 → cxC x1 x2 (ex_V h) r1 (ex_V h1) → cxD x1 x2 (ex_V h) r1 (ex_V h1) → pm_R 100 0 320 [.ref 0, .ref 16, .ref 41, .int (Int32.ofNat n)] [.int r1] h1 Q by
    refine ex_injP WW KK (fun N => ec10 N _ _ _ _) ?_
    refine ex_injP WW KK (fun N => ec10d N _ _ _ _) ?_
    refine cl_c10 G T Y (fun r1 m1 h1 T1 F1 W1 X1 Y1 _ => ?_) (fun r1 m1 o1 ck1 E1 h1 A1 A2 G1 T1 F1 W1 X1 Y1 => ?_)
    · intro WW KK D1; obtain ⟨v1d, ev1d, D1⟩ := D1; rw [ex_vi ev1d] at D1; intro WW KK P1; obtain ⟨v1r, ev1r, P1⟩ := P1; rw [ex_vi ev1r] at P1; exact go r1 ck E m1 o h1 G T1 e0 F1 X1 Y1 WW KK P1 D1
    · intro WW KK D1; obtain ⟨v1d, ev1d, D1⟩ := D1; rw [ex_vi ev1d] at D1; intro WW KK P1; obtain ⟨v1r, ev1r, P1⟩ := P1; rw [ex_vi ev1r] at P1; exact go r1 ck1 E1 m1 o1 h1 G1 T1 ((A2 0 (T.lt (by decide))).trans e0) F1 X1 Y1 WW KK P1 D1
  intro r1 ck1 E1 m1 o1 h1 G1 T1 e1 F1 X1 Y1 WW1 KK1 P1 D1
  have ot := p2_oth G F1 (by decide)
  have Tr1 := Tr.keepF T1.1 ot
  have R1 := (R.cl G T T1 F1 (by decide) (by decide) (by decide)).le (show 124992 + 1000 * j + 1000 ≤ 124992 + 1000 * (j + 1) by omega)
  have hc1 : h1.1 ≤ 72 + 20 * (j + 1) := by have := F1.2.2.1; omega
  have g1 := (ot 43 (by decide) (by decide)).trans s1
  have g2 := (ot 71 (by decide) (by decide)).trans s2
  have g3 := F1.cell G (by decide) (by decide) s3
  have im1 : ∀ i t, i < 3 → f i = some t → h1.2.2 t = h.2.2 t := fun i t hi ht => by
    have hk := hO i t ht
    have ht72 := G.1 t (by rw [hk]; decide)
    exact F1.2.2.2.2 t (T.al hk (by decide)) (fun z => by have := List.all_eq_true.mp (show ([17, 19, 20, 21, 22, 23, 25, 26, 27, 28, 29, 30].all fun a => decide (a < 72)) = true by decide) t z; simp only [decide_eq_true_eq] at this; omega) (by rw [hk]; decide)
  refine pm_R_op pm_M0 (pc_q := 321) (st_q := []) (pm_q0_1 (Nat.le_of_ble_eq_true rfl)) rfl rfl ?_
  refine pm_R_lo pm_M0 (pc_q := 322) (pm_q0_1 (Nat.le_of_ble_eq_true rfl)) rfl rfl ?_
  refine pm_R_lo pm_M0 (pc_q := 323) (pm_q0_1 (Nat.le_of_ble_eq_true rfl)) rfl rfl ?_
  refine pm_R_lo pm_M0 (pc_q := 324) (pm_q0_1 (Nat.le_of_ble_eq_true rfl)) rfl rfl ?_
  refine pm_R_op pm_M0 (pc_q := 325) (st_q := [.int 1, .int (Int32.ofNat n), .ref 0, .ref 41]) (pm_q0_1 (Nat.le_of_ble_eq_true rfl)) rfl rfl ?_
  refine pm_R_op pm_M0 (pc_q := 326) (st_q := [.int (Int32.ofNat (n + 1)), .ref 0, .ref 41]) (pm_q0_1 (Nat.le_of_ble_eq_true rfl)) (congrArg (fun z => some (Value.int z :: [.ref 0, .ref 41])) (p2_ad (n := n) (c := 1) (k := 1) rfl)) rfl ?_
  refine pm_R_iald pm_M0 (pc_q := 327) (v := x1) (pm_q0_1 (Nat.le_of_ble_eq_true rfl)) ((T1.old (by decide)).trans e1) (T1.lt (by decide)) (p2_in (by omega) hL) v1 rfl ?_
  refine pm_R_lo pm_M0 (pc_q := 328) (pm_q0_1 (Nat.le_of_ble_eq_true rfl)) rfl rfl ?_
  refine pm_R_lo pm_M0 (pc_q := 329) (pm_q0_1 (Nat.le_of_ble_eq_true rfl)) rfl rfl ?_
  refine pm_R_op pm_M0 (pc_q := 330) (st_q := [.int 2, .int (Int32.ofNat n), .ref 0, .int x1, .ref 41]) (pm_q0_1 (Nat.le_of_ble_eq_true rfl)) rfl rfl ?_
  refine pm_R_op pm_M0 (pc_q := 331) (st_q := [.int (Int32.ofNat (n + 2)), .ref 0, .int x1, .ref 41]) (pm_q0_1 (Nat.le_of_ble_eq_true rfl)) (congrArg (fun z => some (Value.int z :: [.ref 0, .int x1, .ref 41])) (p2_ad (n := n) (c := 2) (k := 2) rfl)) rfl ?_
  refine pm_R_iald pm_M0 (pc_q := 332) (v := x2) (pm_q0_1 (Nat.le_of_ble_eq_true rfl)) ((T1.old (by decide)).trans e1) (T1.lt (by decide)) (p2_in (by omega) hL) v2 rfl ?_
  refine pm_R_cv pm_M0 (pc_q := 335) (a := 41) (ra := [.int x2, .int x1]) (rest := []) (ls_q := [.ref 41, .int x1, .int x2, pm_no]) (pm_q0_2 (Nat.le_of_ble_eq_true rfl)) rfl (Or.inl rfl) pm_M175 Tr1.2.1 rfl (by decide) (Nat.lt_of_lt_of_le (by decide) Tr1.1) rfl rfl (Nat.le_of_ble_eq_true rfl) rfl rfl ?_
  refine ex_injP WW1 KK1 (fun N => ec175 N _ _ _ _) ?_
  refine ex_injP WW1 KK1 (fun N => ec175d N _ _ _ _) ?_
  have fin : ∀ (A : List Nat) (r2 : Int32) (m2 : Nat → Int32) (w2 : Int64) (h2 : pm_H), rf_T m2 w2 h2 → rf_G A h1 h2 → (A.all fun a => decide (41 ≤ a) && decide (a < 72)) = true → 71 ∉ A → (∀ g : Nat → Int32, h1.2.2 43 = .inl (0, 4, .inl g) → h2.2.2 43 = .inl (0, 4, .inl (upd g (Int32.toNatClampNeg 0) 0))) → ex_W h2 → ex_K h2 → (∃ v, some (Value.int r2) = some (.int v) ∧ rxC x1 x2 (ex_V h1) v (ex_V h2)) → (∃ v, some (Value.int r2) = some (.int v) ∧ rxD x1 x2 (ex_V h1) v (ex_V h2)) → pm_R 100 0 335 [.ref 0, .ref 16, .ref 41, .int (Int32.ofNat n)] [.int r2] h2 Q := fun A r2 m2 w2 h2 T2 F2 hA h71 X2 WW KK P2 D2 => by
    obtain ⟨v2d, ev2d, D2⟩ := D2
    rw [ex_vi ev2d] at D2
    obtain ⟨v2r, ev2r, P2⟩ := P2
    rw [ex_vi ev2r] at P2
    have hi2 := p2_hi F2 hA
    have q24 := (hi2 24 (by omega)).trans g3
    have im : ∀ i t, i < 3 → f i = some t → ∃ v x y, h2.2.2 t = p2_O t v x y ∧ v.toInt = (g (i + 1)).toInt := fun i t hi ht => by
      obtain ⟨v, x, y, w1, w2⟩ := s6 i t hi ht
      have ht72 := G.1 t (by rw [hO i t ht]; decide)
      exact ⟨v, x, y, (hi2 t (by omega)).trans ((im1 i t hi ht).trans w1), w2⟩
    have z0 : Int32.toNatClampNeg 0 = 0 := rfl
    have u1 : ∀ (a : Int32) i, upd g 0 a (i + 1) = g (i + 1) := fun a i => by unfold upd; rw [if_neg (by omega)]
    have u0 : ∀ a : Int32, upd g 0 a 0 = a := fun a => by unfold upd; rw [if_pos rfl]
    have q71 := (F2.2.2 71 h71).trans g2
    have b4 := X2 g g1
    rw [z0] at b4
    have S2 : p2_S m1 h2 := by
      refine ⟨upd g 0 0, q, f, b4, q71, q24, by rw [u0]; exact X1, s5, fun i t hi ht => ?_, s7⟩
      rw [u1]; exact im i t hi ht
    have RT := R2_text_h G T F1 (by decide) en hnn KK0 RR P1 D1 ot (g3.trans s3.symm) G1 T1 Tr1 P2 D2 hi2
    have e12 := RT.1
    refine pm_R_op pm_M0 (pc_q := 336) (st_q := []) (pm_q0_2 (Nat.le_of_ble_eq_true rfl)) rfl rfl ?_
    refine pm_R_br pm_M0 (pc_q := 2117) (pm_q0_2 (Nat.le_of_ble_eq_true rfl)) rfl ?_
    exact K _ ⟨p2_rfS G1 T1 Y1 e1 R1 hc1 T2 F2 hA S2, WW, KK, RT.2⟩
  by_cases n0 : x1 < 0
  · refine rf_c175_n Tr1 ⟨(sf_any x1).1, by have := Int32.lt_iff_toInt_lt.mp n0; have e00 : (0 : Int32).toInt = 0 := rfl; omega⟩ (fun r2 m2 w2 h2 T2 F2 W2 X2 B2 WW KK D2 WW KK P2 => fin _ r2 m2 w2 h2 T2 F2 (by decide) (by decide) X2 WW KK P2 D2)
  by_cases n4 : 3 < x1
  · refine rf_c175_p Tr1 ⟨by have := Int32.lt_iff_toInt_lt.mp n4; have e00 : (3 : Int32).toInt = 3 := rfl; omega, (sf_any x1).2⟩ (fun r2 m2 w2 h2 T2 F2 W2 X2 B2 WW KK D2 WW KK P2 => fin _ r2 m2 w2 h2 T2 F2 (by decide) (by decide) X2 WW KK P2 D2)
  have q0 := Int32.le_iff_toInt_le.mp (Int32.not_lt.mp n0)
  have q3 := Int32.le_iff_toInt_le.mp (Int32.not_lt.mp n4)
  have e00 : (0 : Int32).toInt = 0 := rfl
  have e03 : (3 : Int32).toInt = 3 := rfl
  rcases (show x1.toInt = 0 ∨ x1.toInt = 1 ∨ x1.toInt = 2 ∨ x1.toInt = 3 by omega) with w | w | w | w
  · have ex : x1 = 0 := Int32.toInt_inj.mp (w.trans rfl)
    rw [ex]
    refine rf_c175_0 Tr1 (fun r2 m2 w2 h2 T2 F2 W2 X2 B2 WW KK D2 WW KK P2 => fin _ r2 m2 w2 h2 T2 F2 (by decide) (by decide) X2 WW KK (by rw [ex]; exact P2) (by rw [ex]; exact D2))
  · have ex : x1 = 1 := Int32.toInt_inj.mp (w.trans rfl)
    rw [ex]
    refine rf_c175_1 Tr1 (fun r2 m2 w2 h2 T2 F2 W2 X2 B2 WW KK D2 WW KK P2 => fin _ r2 m2 w2 h2 T2 F2 (by decide) (by decide) X2 WW KK (by rw [ex]; exact P2) (by rw [ex]; exact D2))
  · have ex : x1 = 2 := Int32.toInt_inj.mp (w.trans rfl)
    rw [ex]
    refine rf_c175_2 Tr1 (fun r2 m2 w2 h2 T2 F2 W2 X2 B2 WW KK D2 WW KK P2 => fin _ r2 m2 w2 h2 T2 F2 (by decide) (by decide) X2 WW KK (by rw [ex]; exact P2) (by rw [ex]; exact D2))
  · have ex : x1 = 3 := Int32.toInt_inj.mp (w.trans rfl)
    rw [ex]
    refine rf_c175_3 Tr1 (fun r2 m2 w2 h2 T2 F2 W2 X2 B2 WW KK D2 WW KK P2 => fin _ r2 m2 w2 h2 T2 F2 (by decide) (by decide) X2 WW KK (by rw [ex]; exact P2) (by rw [ex]; exact D2))
set_option maxRecDepth 100000 in
set_option maxHeartbeats 4000000 in
theorem p6_k41 {L n j : Nat} {xs : Nat → Int32} {h : pm_H} {Q : Option Value → pm_H → Prop} (I : p6_I L xs j h) (hn : n + 7 ≤ L) (hL : L ≤ 3584) (K : ∀ h_q, p6_I L xs (j + 1) h_q → pm_R 100 0 2117 [.ref 0, .ref 16, .ref 41, .int (Int32.ofNat n)] [] h_q Q) : pm_R 100 0 2071 [.ref 0, .ref 16, .ref 41, .int (Int32.ofNat n)] [] h Q := by
  obtain ⟨x1, v1⟩ : ∃ y, xs (Int32.toNatClampNeg (Int32.ofNat (n + 1))) = y := ⟨_, rfl⟩
  obtain ⟨I, WW, KK, RR⟩ := I
  obtain ⟨ck, E, m, o, mr, wr, G, T, Tr, Y, e0, S, R, hc⟩ := I
  have TW := tW_of G T S
  obtain ⟨nn, en, hnn⟩ := sz_of T
  obtain ⟨g, q, f, s1, s2, s3, s4, s5, s6, s7⟩ := S
  obtain ⟨f0, ef0, hO⟩ := T.C 24 (by decide) (by decide)
  rw [s3] at ef0; cases ef0
  refine pm_R_lo pm_M0 (pc_q := 2072) (pm_q0_26 (Nat.le_of_ble_eq_true rfl)) rfl rfl ?_
  refine pm_R_lo pm_M0 (pc_q := 2073) (pm_q0_26 (Nat.le_of_ble_eq_true rfl)) rfl rfl ?_
  refine pm_R_lo pm_M0 (pc_q := 2074) (pm_q0_26 (Nat.le_of_ble_eq_true rfl)) rfl rfl ?_
  refine pm_R_op pm_M0 (pc_q := 2075) (st_q := [.int 1, .int (Int32.ofNat n), .ref 0, .ref 16]) (pm_q0_26 (Nat.le_of_ble_eq_true rfl)) rfl rfl ?_
  refine pm_R_op pm_M0 (pc_q := 2076) (st_q := [.int (Int32.ofNat (n + 1)), .ref 0, .ref 16]) (pm_q0_26 (Nat.le_of_ble_eq_true rfl)) (congrArg (fun z => some (Value.int z :: [.ref 0, .ref 16])) (p2_ad (n := n) (c := 1) (k := 1) rfl)) rfl ?_
  refine pm_R_iald pm_M0 (pc_q := 2077) (v := x1) (pm_q0_26 (Nat.le_of_ble_eq_true rfl)) ((T.old (by decide)).trans e0) (T.lt (by decide)) (p2_in (by omega) hL) v1 rfl ?_
  refine pm_R_cv pm_M0 (pc_q := 2080) (a := 16) (ra := [.int x1]) (rest := []) (ls_q := [.ref 16, .int x1]) (pm_q0_26 (Nat.le_of_ble_eq_true rfl)) rfl (Or.inl rfl) pm_M57 T.e16 rfl (by decide) (T.lt (by decide)) rfl rfl (Nat.le_of_ble_eq_true rfl) rfl rfl ?_
  suffices go : ∀ (r1 : Int32) (ck1 : cl_K) (h1 : pm_H) (f1 : Nat → Option Nat), cl_G ck1 E → cl_T ck1 E m o h1 → (∀ a, a < 72 → a ≠ 24 → h1.2.2 a = h.2.2 a) → h1.1 ≤ h.1 + 7 → h1.2.1 ≤ h.2.1 + 622 → h1.2.2 24 = .inl (8, 3, .inr (.inr (.inr (.inr f1)))) → (((x1.toInt < 0 ∨ 3 ≤ x1.toInt) ∧ r1 = 0 ∧ f1 = f ∧ ∀ i t, i < 3 → f i = some t → h1.2.2 t = h.2.2 t) ∨ (0 ≤ x1.toInt ∧ x1.toInt < 3 ∧ r1 = 1 ∧ ∃ t, f1 = va_up f x1.toNatClampNeg (some t) ∧ h1.2.2 t = p2_O t (m 0) (m 1) (m 2) ∧ (∀ i, i < 3 → i ≠ x1.toNatClampNeg → f i ≠ some t) ∧ ∀ i t_q, i < 3 → f i = some t_q → t_q ≠ t → h1.2.2 t_q = h.2.2 t_q)) → ex_W h1 → ex_K h1 → ciC x1 (ex_V h) r1 (ex_V h1) → tkeep (ex_V h) (ex_V h1) → pm_R 100 0 2080 [.ref 0, .ref 16, .ref 41, .int (Int32.ofNat n)] [.int r1] h1 Q by
    refine ex_injP WW KK (fun N => ec57 N _ _ _) ?_
    refine cl_c57 G T s3 (fun c => ?_) (fun t ck1 h1 c0 c3 A1 G1 T1 F1 e24 ht kt ob im lo => ?_)
    · intro WW KK P1; obtain ⟨v1r, ev1r, P1⟩ := P1; rw [ex_vi ev1r] at P1; exact go 0 ck h f G T (fun _ _ _ => rfl) (by omega) (by omega) s3 (Or.inl ⟨c, rfl, rfl, fun _ _ _ _ => rfl⟩) WW KK P1 tkeep_R
    · intro WW KK P1; obtain ⟨v1r, ev1r, P1⟩ := P1; rw [ex_vi ev1r] at P1; 
      have tn : x1.toNatClampNeg = x1.toInt.toNat := rfl
      refine go 1 ck1 h1 _ G1 T1 lo F1.2.1 F1.2.2 e24 (Or.inr ⟨c0, c3, rfl, t, rfl, ob, fun i hi hne hf => ?_, fun i t_q hi hf hne => im t_q (T.al (hO i t_q hf) (by decide)) (hO i t_q hf) hne⟩) WW KK P1 (tkeep_E G T T1 A1)
      rcases ht with ht | ht
      · exact hne (s7 i _ t hi (by omega) hf ht)
      · have := T.al (hO i t hf) (by decide); omega
  intro r1 ck1 h1 f1 G1 T1 lo c1 c2 e24 X1 WW KK P1 TK
  have Tr1 := Tr.keepF T1.1 (fun a a1 a2 => lo a a2 (by omega))
  have Y1 : cl_Y h1 := by obtain ⟨fy, ey, by_⟩ := Y; exact ⟨fy, (lo 28 (by decide) (by decide)).trans ey, by_⟩
  have R1 : p2_R o h1 (124992 + 1000 * (j + 1)) := by obtain ⟨fr, er, br⟩ := R; exact ⟨fr, (lo 37 (by decide) (by decide)).trans er, by omega⟩
  have hc1 : h1.1 ≤ 72 + 20 * (j + 1) := by omega
  have g1 := (lo 43 (by decide) (by decide)).trans s1
  have g2 := (lo 71 (by decide) (by decide)).trans s2
  refine pm_R_op pm_M0 (pc_q := 2081) (st_q := []) (pm_q0_26 (Nat.le_of_ble_eq_true rfl)) rfl rfl ?_
  refine pm_R_lo pm_M0 (pc_q := 2082) (pm_q0_26 (Nat.le_of_ble_eq_true rfl)) rfl rfl ?_
  refine pm_R_lo pm_M0 (pc_q := 2083) (pm_q0_27 (Nat.le_of_ble_eq_true rfl)) rfl rfl ?_
  refine pm_R_lo pm_M0 (pc_q := 2084) (pm_q0_27 (Nat.le_of_ble_eq_true rfl)) rfl rfl ?_
  refine pm_R_op pm_M0 (pc_q := 2085) (st_q := [.int 1, .int (Int32.ofNat n), .ref 0, .ref 41]) (pm_q0_27 (Nat.le_of_ble_eq_true rfl)) rfl rfl ?_
  refine pm_R_op pm_M0 (pc_q := 2086) (st_q := [.int (Int32.ofNat (n + 1)), .ref 0, .ref 41]) (pm_q0_27 (Nat.le_of_ble_eq_true rfl)) (congrArg (fun z => some (Value.int z :: [.ref 0, .ref 41])) (p2_ad (n := n) (c := 1) (k := 1) rfl)) rfl ?_
  refine pm_R_iald pm_M0 (pc_q := 2087) (v := x1) (pm_q0_27 (Nat.le_of_ble_eq_true rfl)) ((T1.old (by decide)).trans e0) (T1.lt (by decide)) (p2_in (by omega) hL) v1 rfl ?_
  refine pm_R_cv pm_M0 (pc_q := 2090) (a := 41) (ra := [.int x1]) (rest := []) (ls_q := [.ref 41, .int x1]) (pm_q0_27 (Nat.le_of_ble_eq_true rfl)) rfl (Or.inl rfl) pm_M295 Tr1.2.1 rfl (by decide) (Nat.lt_of_lt_of_le (by decide) Tr1.1) rfl rfl (Nat.le_of_ble_eq_true rfl) rfl rfl ?_
  refine ex_injP WW KK (fun N => ec295 N _ _ _) ?_
  refine rf_c295 Tr1 (fun r2 m2 w2 h2 T2 F2 W2 X2 B2 => ?_)
  intro WW KK P2
  obtain ⟨v2r, ev2r, P2⟩ := P2
  rw [ex_vi ev2r] at P2
  show pm_R 100 0 2090 [.ref 0, .ref 16, .ref 41, .int (Int32.ofNat n)] [.int r2] _ _
  have hi2 := p2_hi F2 (by decide)
  have q24 := (hi2 24 (by omega)).trans e24
  have z0 : Int32.toNatClampNeg 0 = 0 := rfl
  have tn : x1.toNatClampNeg = x1.toInt.toNat := rfl
  have t0 : (0 : Int32).toInt = 0 := rfl
  have t1 : (1 : Int32).toInt = 1 := rfl
  have key : r1 = r2 ∧ p2_S m h2 := by
    rcases X1 with ⟨a1, a0, a2, a3⟩ | ⟨a1, a2, a0, t, a3, a4, a5, a6⟩
    · rcases X2 g q g1 g2 with ⟨b1, b2, b3, b4⟩ | ⟨b1, b2, b3, z, b4, b5, b6⟩
      · subst a2
        refine ⟨Int32.toInt_inj.mp (by rw [a0]; omega), g, q, f1, b3, b4, q24, s4, s5, fun i t hi ht => ?_, s7⟩
        obtain ⟨v, x, y, w1, w2⟩ := s6 i t hi ht
        have ht72 := G.1 t (by rw [hO i t ht]; decide)
        exact ⟨v, x, y, (hi2 t (by omega)).trans ((a3 i t hi ht).trans w1), w2⟩
      · exfalso; omega
    · rcases X2 g q g1 g2 with ⟨b1, b2, b3, b4⟩ | ⟨b1, b2, b3, z, b4, b5, b6⟩
      · exfalso; omega
      · have zn : z.toNatClampNeg = z.toInt.toNat := rfl
        have hx : x1.toNatClampNeg < 3 := by omega
        have zx : z.toNatClampNeg = x1.toNatClampNeg + 1 := by omega
        rw [z0, zx] at b5
        obtain ⟨k, hk⟩ : ∃ k, x1.toNatClampNeg = k := ⟨_, rfl⟩
        rw [hk] at hx b5 b6 a3 a5
        subst a3
        obtain ⟨f2, e2, hO2⟩ := T1.C 24 (by decide) (by decide)
        rw [e24] at e2; cases e2
        have ht72 : ∀ i t_q, va_up f k (some t) i = some t_q → 72 ≤ t_q := fun i t_q ht => G1.1 t_q (by rw [hO2 i t_q ht]; decide)
        have ug : ∀ i, i ≠ k → upd g (k + 1) (g 0) (i + 1) = g (i + 1) := fun i hi => by unfold upd; rw [if_neg (by omega)]
        have ugk : upd g (k + 1) (g 0) (k + 1) = g 0 := by unfold upd; rw [if_pos rfl]
        have ug0 : upd g (k + 1) (g 0) 0 = g 0 := by unfold upd; rw [if_neg (by omega)]
        have uq : ∀ i, i ≠ k → upd q k (1 &&& 1) i = q i := fun i hi => by unfold upd; rw [if_neg hi]
        have uqk : upd q k (1 &&& 1) k = (1 &&& 1 : Int32) := by unfold upd; rw [if_pos rfl]
        refine ⟨Int32.toInt_inj.mp (by rw [a0]; omega), upd g (k + 1) (g 0), upd q k (1 &&& 1), va_up f k (some t), b5, b6, q24, by rw [ug0]; exact s4, fun i hi => ?_, fun i t_q hi ht => ?_, fun i i' t_q hi hi' h1' h2' => ?_⟩
        · by_cases e : i = k
          · rw [e, cl_upS, uqk]
            exact Iff.intro (fun z => absurd z (Option.some_ne_none t)) (fun z => absurd z (show ¬ ((1 &&& 1 : Int32) = 0) by decide))
          · rw [cl_upO e, uq i e]; exact s5 i hi
        · have h72' := ht72 i t_q ht
          by_cases e : i = k
          · rw [e, cl_upS] at ht; cases ht
            exact ⟨m 0, m 1, m 2, (hi2 t (by omega)).trans a4, by rw [e, ugk]; exact s4⟩
          · rw [cl_upO e] at ht
            obtain ⟨v, x, y, w1, w2⟩ := s6 i t_q hi ht
            have hne : t_q ≠ t := fun z => a5 i hi e (by rw [← z]; exact ht)
            exact ⟨v, x, y, (hi2 t_q (by omega)).trans ((a6 i t_q hi ht hne).trans w1), by rw [ug i e]; exact w2⟩
        · by_cases e : i = k
          · by_cases e_q : i' = k
            · omega
            · rw [e, cl_upS] at h1'; cases h1'
              rw [cl_upO e_q] at h2'
              exact absurd h2' (a5 i' hi' e_q)
          · by_cases e_q : i' = k
            · rw [e_q, cl_upS] at h2'; cases h2'
              rw [cl_upO e] at h1'
              exact absurd h1' (a5 i hi e)
            · rw [cl_upO e] at h1'; rw [cl_upO e_q] at h2'; exact s7 i i' t_q hi hi' h1' h2'
  obtain ⟨e12, S2⟩ := key
  refine pm_R_op pm_M0 (pc_q := 2091) (st_q := []) (pm_q0_27 (Nat.le_of_ble_eq_true rfl)) rfl rfl ?_
  refine pm_R_br pm_M0 (pc_q := 2117) (pm_q0_27 (Nat.le_of_ble_eq_true rfl)) rfl ?_
  exact K _ ⟨p2_rfS G1 T1 Y1 e0 R1 hc1 T2 F2 (by decide) S2, WW, KK, R2_image RR TW P1 P2 TK⟩
set_option maxRecDepth 100000 in
set_option maxHeartbeats 4000000 in
theorem p6_k42 {L n j : Nat} {xs : Nat → Int32} {h : pm_H} {Q : Option Value → pm_H → Prop} (I : p6_I L xs j h) (hn : n + 7 ≤ L) (hL : L ≤ 3584) (K : ∀ h_q, p6_I L xs (j + 1) h_q → pm_R 100 0 2117 [.ref 0, .ref 16, .ref 41, .int (Int32.ofNat n)] [] h_q Q) : pm_R 100 0 2094 [.ref 0, .ref 16, .ref 41, .int (Int32.ofNat n)] [] h Q := by
  obtain ⟨x1, v1⟩ : ∃ y, xs (Int32.toNatClampNeg (Int32.ofNat (n + 1))) = y := ⟨_, rfl⟩
  obtain ⟨I, WW, KK, RR⟩ := I
  obtain ⟨ck, E, m, o, mr, wr, G, T, Tr, Y, e0, S, R, hc⟩ := I
  have TW := tW_of G T S
  obtain ⟨nn, en, hnn⟩ := sz_of T
  obtain ⟨g, q, f, s1, s2, s3, s4, s5, s6, s7⟩ := S
  obtain ⟨f0, ef0, hO⟩ := T.C 24 (by decide) (by decide)
  rw [s3] at ef0; cases ef0
  refine pm_R_lo pm_M0 (pc_q := 2095) (pm_q0_27 (Nat.le_of_ble_eq_true rfl)) rfl rfl ?_
  refine pm_R_lo pm_M0 (pc_q := 2096) (pm_q0_27 (Nat.le_of_ble_eq_true rfl)) rfl rfl ?_
  refine pm_R_lo pm_M0 (pc_q := 2097) (pm_q0_27 (Nat.le_of_ble_eq_true rfl)) rfl rfl ?_
  refine pm_R_op pm_M0 (pc_q := 2098) (st_q := [.int 1, .int (Int32.ofNat n), .ref 0, .ref 16]) (pm_q0_27 (Nat.le_of_ble_eq_true rfl)) rfl rfl ?_
  refine pm_R_op pm_M0 (pc_q := 2099) (st_q := [.int (Int32.ofNat (n + 1)), .ref 0, .ref 16]) (pm_q0_27 (Nat.le_of_ble_eq_true rfl)) (congrArg (fun z => some (Value.int z :: [.ref 0, .ref 16])) (p2_ad (n := n) (c := 1) (k := 1) rfl)) rfl ?_
  refine pm_R_iald pm_M0 (pc_q := 2100) (v := x1) (pm_q0_27 (Nat.le_of_ble_eq_true rfl)) ((T.old (by decide)).trans e0) (T.lt (by decide)) (p2_in (by omega) hL) v1 rfl ?_
  refine pm_R_cv pm_M0 (pc_q := 2103) (a := 16) (ra := [.int x1]) (rest := []) (ls_q := [.ref 16, .int x1]) (pm_q0_27 (Nat.le_of_ble_eq_true rfl)) rfl (Or.inl rfl) pm_M60 T.e16 rfl (by decide) (T.lt (by decide)) rfl rfl (Nat.le_of_ble_eq_true rfl) rfl rfl ?_
  suffices go : ∀ (r1 : Int32) (m1 : Nat → Int32) (h1 : pm_H), cl_T ck E m1 o h1 → (∀ x, (x < 17 ∨ 23 < x) → h1.2.2 x = h.2.2 x) → h1.1 ≤ h.1 → h1.2.1 ≤ h.2.1 → ((((x1.toInt < 0 ∨ 3 ≤ x1.toInt) ∨ (0 ≤ x1.toInt ∧ x1.toInt < 3 ∧ f x1.toNatClampNeg = none)) ∧ r1 = 0 ∧ m1 0 = m 0) ∨ (0 ≤ x1.toInt ∧ x1.toInt < 3 ∧ r1 = 1 ∧ ∃ t v x y, f x1.toNatClampNeg = some t ∧ h.2.2 t = p2_O t v x y ∧ m1 0 = v)) → ex_W h1 → ex_K h1 → cgC x1 (ex_V h) r1 (ex_V h1) → tkeep (ex_V h) (ex_V h1) → pm_R 100 0 2103 [.ref 0, .ref 16, .ref 41, .int (Int32.ofNat n)] [.int r1] h1 Q by
    refine ex_injP WW KK (fun N => ec60 N _ _ _) ?_
    refine cl_c60 G T s3 (fun c => ?_) (fun t v x y m1 h1 c0 c3 ht ob em T1 F1 W1 hF => ?_)
    · intro WW KK P1; obtain ⟨v1r, ev1r, P1⟩ := P1; rw [ex_vi ev1r] at P1; exact go 0 m h T (fun _ _ => rfl) (Nat.le_refl _) (Nat.le_refl _) (Or.inl ⟨c, rfl, rfl⟩) WW KK P1 tkeep_R
    · intro WW KK P1; obtain ⟨v1r, ev1r, P1⟩ := P1; rw [ex_vi ev1r] at P1; exact go 1 m1 h1 T1 hF F1.2.2.1 F1.2.2.2.1 (Or.inr ⟨c0, c3, rfl, t, v, x, y, ht, ob, em⟩) WW KK P1 (tkeep_hi hF)
  intro r1 m1 h1 T1 hF c1 c2 X1 WW KK P1 TK
  have Tr1 := Tr.keepF T1.1 (fun a a1 a2 => hF a (by omega))
  have Y1 : cl_Y h1 := by obtain ⟨fy, ey, by_⟩ := Y; exact ⟨fy, (hF 28 (by omega)).trans ey, by_⟩
  have R1 : p2_R o h1 (124992 + 1000 * (j + 1)) := by obtain ⟨fr, er, br⟩ := R; exact ⟨fr, (hF 37 (by omega)).trans er, by omega⟩
  have hc1 : h1.1 ≤ 72 + 20 * (j + 1) := by omega
  have g1 := (hF 43 (by omega)).trans s1
  have g2 := (hF 71 (by omega)).trans s2
  refine pm_R_op pm_M0 (pc_q := 2104) (st_q := []) (pm_q0_27 (Nat.le_of_ble_eq_true rfl)) rfl rfl ?_
  refine pm_R_lo pm_M0 (pc_q := 2105) (pm_q0_27 (Nat.le_of_ble_eq_true rfl)) rfl rfl ?_
  refine pm_R_lo pm_M0 (pc_q := 2106) (pm_q0_27 (Nat.le_of_ble_eq_true rfl)) rfl rfl ?_
  refine pm_R_lo pm_M0 (pc_q := 2107) (pm_q0_27 (Nat.le_of_ble_eq_true rfl)) rfl rfl ?_
  refine pm_R_op pm_M0 (pc_q := 2108) (st_q := [.int 1, .int (Int32.ofNat n), .ref 0, .ref 41]) (pm_q0_27 (Nat.le_of_ble_eq_true rfl)) rfl rfl ?_
  refine pm_R_op pm_M0 (pc_q := 2109) (st_q := [.int (Int32.ofNat (n + 1)), .ref 0, .ref 41]) (pm_q0_27 (Nat.le_of_ble_eq_true rfl)) (congrArg (fun z => some (Value.int z :: [.ref 0, .ref 41])) (p2_ad (n := n) (c := 1) (k := 1) rfl)) rfl ?_
  refine pm_R_iald pm_M0 (pc_q := 2110) (v := x1) (pm_q0_27 (Nat.le_of_ble_eq_true rfl)) ((T1.old (by decide)).trans e0) (T1.lt (by decide)) (p2_in (by omega) hL) v1 rfl ?_
  refine pm_R_cv pm_M0 (pc_q := 2113) (a := 41) (ra := [.int x1]) (rest := []) (ls_q := [.ref 41, .int x1]) (pm_q0_27 (Nat.le_of_ble_eq_true rfl)) rfl (Or.inl rfl) pm_M298 Tr1.2.1 rfl (by decide) (Nat.lt_of_lt_of_le (by decide) Tr1.1) rfl rfl (Nat.le_of_ble_eq_true rfl) rfl rfl ?_
  refine ex_injP WW KK (fun N => ec298 N _ _ _) ?_
  refine rf_c298 Tr1 (fun r2 m2 w2 h2 T2 F2 W2 X2 B2 => ?_)
  intro WW KK P2
  obtain ⟨v2r, ev2r, P2⟩ := P2
  rw [ex_vi ev2r] at P2
  show pm_R 100 0 2113 [.ref 0, .ref 16, .ref 41, .int (Int32.ofNat n)] [.int r2] _ _
  have hi2 := p2_hi F2 (by decide)
  have q24 := (hi2 24 (by omega)).trans ((hF 24 (by omega)).trans s3)
  have z0 : Int32.toNatClampNeg 0 = 0 := rfl
  have u1 : ∀ (a : Int32) i, upd g 0 a (i + 1) = g (i + 1) := fun a i => by unfold upd; rw [if_neg (by omega)]
  have u0 : ∀ a : Int32, upd g 0 a 0 = a := fun a => by unfold upd; rw [if_pos rfl]
  have im : ∀ i t, i < 3 → f i = some t → ∃ v x y, h2.2.2 t = p2_O t v x y ∧ v.toInt = (g (i + 1)).toInt := fun i t hi ht => by
    obtain ⟨v, x, y, w1, w2⟩ := s6 i t hi ht
    have ht72 := G.1 t (by rw [hO i t ht]; decide)
    exact ⟨v, x, y, (hi2 t (by omega)).trans ((hF t (by omega)).trans w1), w2⟩
  have tn : x1.toNatClampNeg = x1.toInt.toNat := rfl
  have t0 : (0 : Int32).toInt = 0 := rfl
  have t1 : (1 : Int32).toInt = 1 := rfl
  have key : r1 = r2 ∧ p2_S m1 h2 := by
    rcases X1 with ⟨a1, a0, a2⟩ | ⟨a1, a2, a0, t, v, x, y, a3, a4, a5⟩
    · rcases X2 g q g1 g2 with ⟨b1, b2, b3, b4⟩ | ⟨b1, b2, b3, b4, z, b5, b6, b7⟩
      · exact ⟨Int32.toInt_inj.mp (by rw [a0]; omega), g, q, f, b3, b4, q24, by rw [a2]; exact s4, s5, im, s7⟩
      · exfalso
        rcases a1 with a1 | ⟨_, _, a1⟩
        · omega
        · exact b4 ((s5 _ (by omega)).mp a1)
    · rcases X2 g q g1 g2 with ⟨b1, b2, b3, b4⟩ | ⟨b1, b2, b3, b4, z, b5, b6, b7⟩
      · exfalso
        rcases b2 with b2 | b2 | b2
        · omega
        · omega
        · have := (s5 _ (by omega)).mpr b2
          rw [this] at a3; cases a3
      · have zn : z.toNatClampNeg = z.toInt.toNat := rfl
        have zx : z.toNatClampNeg = x1.toNatClampNeg + 1 := by omega
        rw [z0, zx] at b6
        obtain ⟨v', x', y', w1, w2⟩ := s6 _ t (by omega) a3
        have ev : v' = v := by rw [a4] at w1; unfold p2_O at w1; injection w1 with w1; injection w1 with _ w1; injection w1 with _ w1; injection w1 with w1 _; injection w1 with w1; exact w1.symm
        refine ⟨Int32.toInt_inj.mp (by rw [a0]; omega), upd g 0 (g (x1.toNatClampNeg + 1)), q, f, b6, b7, q24, by rw [a5, u0, ← ev]; exact w2, s5, fun i t hi ht => ?_, s7⟩
        rw [u1]; exact im i t hi ht
  obtain ⟨e12, S2⟩ := key
  refine pm_R_op pm_M0 (pc_q := 2114) (st_q := []) (pm_q0_27 (Nat.le_of_ble_eq_true rfl)) rfl rfl ?_
  refine pm_R_br pm_M0 (pc_q := 2117) (pm_q0_27 (Nat.le_of_ble_eq_true rfl)) rfl ?_
  exact K _ ⟨p2_rfS G T1 Y1 e0 R1 hc1 T2 F2 (by decide) S2, WW, KK, R2_again RR TW P1 P2 TK⟩
