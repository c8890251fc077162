theorem cl_aux18 (v0 v1 v2 : Int) (q0 : v0 = v1 * 3) (q1 : v2 = v0 + 3) (q2 : 1 ≤ v1) (q3 : v1 ≤ 4) : v0 ≤ v2 := by omega
theorem cl_aux19 (v0 v1 v2 : Int) (q0 : v0 = v1 * 6) (q1 : v2 = v0 + 6) (q2 : 0 ≤ v1) (q3 : v1 ≤ 1110) : v0 ≤ v2 := by omega
set_option maxRecDepth 100000 in
set_option maxHeartbeats 4000000 in
/-- SilentTable$ShortRows.fillRowsOf -/
theorem cl_c127 {d : Nat} {ck : cl_K} {E : Nat → pm_E} {m : Nat → Int32} {o : Nat → Option Nat} {h : pm_H} {Q : Option Value → pm_H → Prop} {b : Nat} {a0 : Int32} (G : cl_G ck E) (T : cl_T ck E m o h) (hk : ck b = 24) (Ba0 : sf_B 1 4 a0) (nn : cl_NN ck h b) (K : ∀ (m_q : Nat → Int32) (h_q : pm_H), cl_T ck E m_q o h_q → cl_F ck [] 0 0 h h_q → rf_W [] m m_q → cl_NT ck h h_q → Q none h_q) : pm_R (d + 3) 127 0 [.ref b, .int a0, pm_no, pm_no, pm_no, pm_no, pm_no, pm_no, pm_no] [] h Q := by
  refine pm_R_lo pm_M127 (pc_q := 1) rfl rfl rfl ?_
  obtain ⟨lo1, fi2, av3, ah4, an5, kl6, B7, B8, eS9⟩ := id nn
  have nn10 : cl_NN ck h b := ⟨lo1, fi2, av3, ah4, an5, kl6, B7, B8, eS9⟩
  refine pm_R_get pm_M127 (pc_q := 4) (v := .ref (b + 1)) rfl rfl eS9 (G.ge hk (by decide)) (T.al hk (by decide)) rfl rfl ?_
  refine pm_R_lo pm_M127 (pc_q := 5) rfl rfl rfl ?_
  refine pm_R_op pm_M127 (pc_q := 6) (st_q := [.int 3, .int a0, .ref (b + 1)]) rfl rfl rfl ?_
  refine sf_R_imul pm_M127 (pc_q := 7) rfl rfl Ba0 sf_k3 (by decide) (by decide) (by decide) (fun z11 e12 B13 => ?_)
  refine pm_R_lo pm_M127 (pc_q := 8) rfl rfl rfl ?_
  refine pm_R_op pm_M127 (pc_q := 9) (st_q := [.int 3, .int a0, .int z11, .ref (b + 1)]) rfl rfl rfl ?_
  refine sf_R_imulV pm_M127 (pc_q := 10) rfl rfl Ba0 sf_k3 (by decide) (by decide) (by decide) e12 ?_
  refine pm_R_op pm_M127 (pc_q := 11) (st_q := [.int 3, .int z11, .int z11, .ref (b + 1)]) rfl rfl rfl ?_
  refine sf_R_iadd pm_M127 (pc_q := 12) rfl rfl B13 sf_k3 (by decide) (by decide) (fun z14 e15 B16 => ?_)
  refine pm_R_op pm_M127 (pc_q := 13) (st_q := [.int 0, .int z14, .int z11, .ref (b + 1)]) rfl rfl rfl ?_
  refine pm_R_cs pm_M127 (pc_q := 16) (ra := [.int 0, .int z14, .int z11, .ref (b + 1)]) (rest := []) (ls_q := [.ref (b + 1), .int z11, .int z14, .int 0, pm_no]) rfl rfl (Or.inl rfl) pm_M49 rfl rfl (Nat.le_of_ble_eq_true rfl) rfl rfl ?_
  refine cl_c49_s0 (d := d + 1) G T hk (sf_weak B13 (by decide) (by decide)) (sf_weak B16 (by decide) (by decide)) (Int32.le_iff_toInt_le.mpr (cl_aux18 _ _ _ e12 e15 Ba0.1 Ba0.2)) (fun m19 h20 T21 F22 W23 X24 => ?_)
  have F25 := (cl_F.refl (ck := ck) (A := []) (n := 0) (s := 0) T.1).trans (N := 0) (S := 0) F22 (by decide) (by decide) (by decide)
  have W26 : rf_W [] m m19 := (rf_W.refl [] m).trans W23 (by decide)
  show pm_R _ 127 16 [.ref b, .int a0, pm_no, pm_no, pm_no, pm_no, pm_no, pm_no, pm_no] [] _ _
  have nn27 := cl_NT.same X24 _ hk nn10
  have eS28 := (X24 _ hk).trans eS9
  have NT29 := (cl_NT.refl ck h).trans (cl_NT.same X24)
  refine pm_R_op pm_M127 (pc_q := 17) (st_q := [.int 0]) rfl rfl rfl ?_
  refine pm_R_lo pm_M127 (pc_q := 18) (ls_q := [.ref b, .int a0, .int 0, pm_no, pm_no, pm_no, pm_no, pm_no, pm_no]) (st_q := []) rfl rfl rfl ?_
  have L_5672 : ∀ (N : Nat) (h_5672 : pm_H) (m_5672 : Nat → Int32) (x2_5672 : Int32) (g3_5672 : Value) (g4_5672 : Value) (g5_5672 : Value) (g6_5672 : Value) (g7_5672 : Value) (g8_5672 : Value), cl_T ck E m_5672 o h_5672 → cl_F ck [] 0 0 h h_5672 → rf_W [] m19 m_5672 → sf_B 0 10000 x2_5672 → g3_5672.category = 1 → g4_5672.category = 1 → g5_5672.category = 1 → g6_5672.category = 1 → g7_5672.category = 1 → g8_5672.category = 1 → cl_NT ck h h_5672 → (10000 - x2_5672.toInt).toNat = N → pm_R (d + 3) 127 18 [.ref b, .int a0, .int x2_5672, g3_5672, g4_5672, g5_5672, g6_5672, g7_5672, g8_5672] [] h_5672 Q := by
    intro N
    induction N using Nat.strongRecOn with
    | ind N ih_5672 =>
      intro h_5672 m_5672 x2_5672 g3_5672 g4_5672 g5_5672 g6_5672 g7_5672 g8_5672 T_5672 F_5672 W_5672 Bx2_5672 Cg3_5672 Cg4_5672 Cg5_5672 Cg6_5672 Cg7_5672 Cg8_5672 X_5672 hN_5672
      have W5675 : rf_W [] m m_5672 := W26.trans W_5672 (by decide)
      refine pm_R_lo pm_M127 (pc_q := 19) rfl rfl rfl ?_
      refine pm_R_stat pm_M127 (pc_q := 22) rfl rfl rfl ?_
      refine pm_R_lo pm_M127 (pc_q := 23) rfl rfl rfl ?_
      obtain ⟨z5676, ez5677⟩ : ∃ y, pm_sv5.getD (Int32.toNatClampNeg a0) 0 = y := ⟨_, rfl⟩
      have B5678 : sf_B 10 10000 z5676 := ez5677 ▸ cl_tab (l := pm_sv5) (a := 10) (b := 10000) Ba0 (by decide) (by decide)
      refine pm_R_iald pm_M127 (pc_q := 24) (v := z5676) rfl ((T_5672.old (by decide)).trans G.tb5) (T_5672.lt (by decide)) (sf_in Ba0 (by decide) (by decide)) ez5677 rfl ?_
      refine pm_R_icmp pm_M127 (t := 182) (pc_q := 27) rfl rfl rfl (fun c5679 => ?_) (fun c5679 => ?_)
      · have B5680 : sf_B 10 10000 x2_5672 := sf_leR c5679 B5678 Bx2_5672
        exact pm_R_ret pm_M127 (r := none) (pm_q127_1 (Nat.le_of_ble_eq_true rfl)) rfl (K m_5672 h_5672 T_5672 F_5672 W5675 X_5672)
      · have B5681 : sf_B 0 9999 x2_5672 := sf_ltL (Int32.not_le.mp c5679) Bx2_5672 B5678
        refine pm_R_stat pm_M127 (pc_q := 30) rfl rfl rfl ?_
        refine pm_R_lo pm_M127 (pc_q := 31) rfl rfl rfl ?_
        obtain ⟨z5682, ez5683⟩ : ∃ y, pm_sv6.getD (Int32.toNatClampNeg a0) 0 = y := ⟨_, rfl⟩
        have B5684 : sf_B 0 1110 z5682 := ez5683 ▸ cl_tab (l := pm_sv6) (a := 0) (b := 1110) Ba0 (by decide) (by decide)
        refine pm_R_iald pm_M127 (pc_q := 32) (v := z5682) rfl ((T_5672.old (by decide)).trans G.tb6) (T_5672.lt (by decide)) (sf_in Ba0 (by decide) (by decide)) ez5683 rfl ?_
        refine pm_R_lo pm_M127 (pc_q := 33) rfl rfl rfl ?_
        refine sf_R_iadd pm_M127 (pc_q := 34) rfl rfl B5684 B5681 (by decide) (by decide) (fun z5685 e5686 B5687 => ?_)
        refine pm_R_lo pm_M127 (pc_q := 35) (ls_q := [.ref b, .int a0, .int x2_5672, .int z5685, g4_5672, g5_5672, g6_5672, g7_5672, g8_5672]) (st_q := []) rfl rfl rfl ?_
        refine pm_R_lo pm_M127 (pc_q := 36) rfl rfl rfl ?_
        refine pm_R_op pm_M127 (pc_q := 39) (st_q := [.int 1110, .int z5685]) rfl rfl rfl ?_
        refine cl_R_min pm_M127 (pc_q := 42) rfl rfl rfl (Nat.le_of_ble_eq_true rfl) rfl B5687 sf_k1110 (fun z5688 B5689 => ?_)
        refine pm_R_op pm_M127 (pc_q := 44) (st_q := [.int 6, .int z5688]) rfl rfl rfl ?_
        refine sf_R_imul pm_M127 (pc_q := 45) rfl rfl B5689 sf_k6 (by decide) (by decide) (by decide) (fun z5690 e5691 B5692 => ?_)
        refine pm_R_lo pm_M127 (pc_q := 47) (ls_q := [.ref b, .int a0, .int x2_5672, .int z5685, .int z5690, g5_5672, g6_5672, g7_5672, g8_5672]) (st_q := []) rfl rfl rfl ?_
        refine pm_R_lo pm_M127 (pc_q := 48) rfl rfl rfl ?_
        obtain ⟨lo5693, fi5694, av5695, ah5696, an5697, kl5698, B5699, B5700, eS5701⟩ := id (X_5672 _ hk nn)
        have nn5702 : cl_NN ck h_5672 b := ⟨lo5693, fi5694, av5695, ah5696, an5697, kl5698, B5699, B5700, eS5701⟩
        refine pm_R_get pm_M127 (pc_q := 51) (v := .ref (b + 2)) rfl rfl eS5701 (G.ge hk (by decide)) (T_5672.al hk (by decide)) rfl rfl ?_
        refine pm_R_lo pm_M127 (pc_q := 53) rfl rfl rfl ?_
        refine pm_R_lo pm_M127 (pc_q := 55) rfl rfl rfl ?_
        refine pm_R_op pm_M127 (pc_q := 57) (st_q := [.int 6, .int z5690, .int z5690, .ref (b + 2)]) rfl rfl rfl ?_
        refine sf_R_iadd pm_M127 (pc_q := 58) rfl rfl B5692 sf_k6 (by decide) (by decide) (fun z5703 e5704 B5705 => ?_)
        refine pm_R_op pm_M127 (pc_q := 59) (st_q := [.long 0, .int z5703, .int z5690, .ref (b + 2)]) rfl rfl rfl ?_
        refine pm_R_cs pm_M127 (pc_q := 62) (ra := [.long 0, .int z5703, .int z5690, .ref (b + 2)]) (rest := []) (ls_q := [.ref (b + 2), .int z5690, .int z5703, .long 0, pm_no, pm_no]) rfl rfl (Or.inl rfl) pm_M102 rfl rfl (Nat.le_of_ble_eq_true rfl) rfl rfl ?_
        refine cl_c102_s1 (d := d + 1) G T_5672 hk (sf_weak B5692 (by decide) (by decide)) (sf_weak B5705 (by decide) (by decide)) (Int32.le_iff_toInt_le.mpr (cl_aux19 _ _ _ e5691 e5704 B5689.1 B5689.2)) (fun m5708 h5709 T5710 F5711 W5712 X5713 => ?_)
        have F5714 := F_5672.trans (N := 0) (S := 0) F5711 (by decide) (by decide) (by decide)
        have W5715 : rf_W [] m m5708 := W5675.trans W5712 (by decide)
        have W5716 : rf_W [] m19 m5708 := W_5672.trans W5712 (by decide)
        show pm_R _ 127 62 [.ref b, .int a0, .int x2_5672, .int z5685, .int z5690, g5_5672, g6_5672, g7_5672, g8_5672] [] _ _
        have nn5717 := cl_NT.same X5713 _ hk nn5702
        have eS5718 := (X5713 _ hk).trans eS5701
        have NT5719 := X_5672.trans (cl_NT.same X5713)
        refine pm_R_lo pm_M127 (pc_q := 63) rfl rfl rfl ?_
        refine pm_R_get pm_M127 (pc_q := 66) (v := .ref (b + 3)) rfl rfl eS5718 (G.ge hk (by decide)) (T5710.al hk (by decide)) rfl rfl ?_
        refine pm_R_lo pm_M127 (pc_q := 68) rfl rfl rfl ?_
        refine pm_R_lo pm_M127 (pc_q := 70) rfl rfl rfl ?_
        refine pm_R_op pm_M127 (pc_q := 72) (st_q := [.int 6, .int z5690, .int z5690, .ref (b + 3)]) rfl rfl rfl ?_
        refine sf_R_iaddV pm_M127 (pc_q := 73) rfl rfl B5692 sf_k6 (by decide) (by decide) e5704 ?_
        refine pm_R_op pm_M127 (pc_q := 74) (st_q := [.int 0, .int z5703, .int z5690, .ref (b + 3)]) rfl rfl rfl ?_
        refine pm_R_cs pm_M127 (pc_q := 77) (ra := [.int 0, .int z5703, .int z5690, .ref (b + 3)]) (rest := []) (ls_q := [.ref (b + 3), .int z5690, .int z5703, .int 0, pm_no]) rfl rfl (Or.inl rfl) pm_M49 rfl rfl (Nat.le_of_ble_eq_true rfl) rfl rfl ?_
        refine cl_c49_s2 (d := d + 1) G T5710 hk (sf_weak B5692 (by decide) (by decide)) (sf_weak B5705 (by decide) (by decide)) (Int32.le_iff_toInt_le.mpr (cl_aux19 _ _ _ e5691 e5704 B5689.1 B5689.2)) (fun m5722 h5723 T5724 F5725 W5726 X5727 => ?_)
        have F5728 := F5714.trans (N := 0) (S := 0) F5725 (by decide) (by decide) (by decide)
        have W5729 : rf_W [] m m5722 := W5715.trans W5726 (by decide)
        have W5730 : rf_W [] m19 m5722 := W5716.trans W5726 (by decide)
        show pm_R _ 127 77 [.ref b, .int a0, .int x2_5672, .int z5685, .int z5690, g5_5672, g6_5672, g7_5672, g8_5672] [] _ _
        have nn5731 := cl_NT.same X5727 _ hk nn5717
        have eS5732 := (X5727 _ hk).trans eS5718
        have NT5733 := NT5719.trans (cl_NT.same X5727)
        refine pm_R_lo pm_M127 (pc_q := 78) rfl rfl rfl ?_
        refine pm_R_op pm_M127 (pc_q := 79) (st_q := [.int 1, .int a0]) rfl rfl rfl ?_
        refine pm_R_icmp pm_M127 (t := 89) (pc_q := 82) rfl rfl rfl (fun c5734 => ?_) (fun c5734 => ?_)
        · have B5735 : sf_B 2 4 a0 := sf_neL0 c5734 sf_k1 Ba0
          refine pm_R_op pm_M127 (pc_q := 90) (st_q := [.int 1]) rfl rfl rfl ?_
          refine pm_R_lo pm_M127 (pc_q := 92) (ls_q := [.ref b, .int a0, .int x2_5672, .int z5685, .int z5690, .int 1, g6_5672, g7_5672, g8_5672]) (st_q := []) rfl rfl rfl ?_
          have L_6312 : ∀ (N : Nat) (h_6312 : pm_H) (m_6312 : Nat → Int32) (x5_6312 : Int32) (g6_6312 : Value) (g7_6312 : Value) (g8_6312 : Value), cl_T ck E m_6312 o h_6312 → cl_F ck [] 0 0 h h_6312 → rf_W [] m5722 m_6312 → sf_B 1 4 x5_6312 → g6_6312.category = 1 → g7_6312.category = 1 → g8_6312.category = 1 → cl_NT ck h h_6312 → (4 - x5_6312.toInt).toNat = N → pm_R (d + 3) 127 92 [.ref b, .int a0, .int x2_5672, .int z5685, .int z5690, .int x5_6312, g6_6312, g7_6312, g8_6312] [] h_6312 Q := by
            intro N
            induction N using Nat.strongRecOn with
            | ind N ih_6312 =>
              intro h_6312 m_6312 x5_6312 g6_6312 g7_6312 g8_6312 T_6312 F_6312 W_6312 Bx5_6312 Cg6_6312 Cg7_6312 Cg8_6312 X_6312 hN_6312
              have W6315 : rf_W [] m m_6312 := W5729.trans W_6312 (by decide)
              have W6316 : rf_W [] m19 m_6312 := W5730.trans W_6312 (by decide)
              refine pm_R_lo pm_M127 (pc_q := 94) rfl rfl rfl ?_
              refine pm_R_lo pm_M127 (pc_q := 95) rfl rfl rfl ?_
              refine pm_R_icmp pm_M127 (t := 168) (pc_q := 98) rfl rfl rfl (fun c6317 => ?_) (fun c6317 => ?_)
              · have B6318 : sf_B 2 4 x5_6312 := sf_leR c6317 B5735 Bx5_6312
                refine pm_R_lo pm_M127 (pc_q := 169) (pm_q127_1 (Nat.le_of_ble_eq_true rfl)) rfl rfl ?_
                refine pm_R_lo pm_M127 (pc_q := 170) (pm_q127_1 (Nat.le_of_ble_eq_true rfl)) rfl rfl ?_
                refine pm_R_lo pm_M127 (pc_q := 171) (pm_q127_1 (Nat.le_of_ble_eq_true rfl)) rfl rfl ?_
                refine pm_R_lo pm_M127 (pc_q := 173) (pm_q127_1 (Nat.le_of_ble_eq_true rfl)) rfl rfl ?_
                obtain ⟨lo6319, fi6320, av6321, ah6322, an6323, kl6324, B6325, B6326, eS6327⟩ := id (X_6312 _ hk nn)
                have nn6328 : cl_NN ck h_6312 b := ⟨lo6319, fi6320, av6321, ah6322, an6323, kl6324, B6325, B6326, eS6327⟩
                refine pm_R_cv pm_M127 (pc_q := 176) (a := b) (ra := [.int z5690, .int z5685, .int a0]) (rest := []) (ls_q := [.ref b, .int a0, .int z5685, .int z5690]) (pm_q127_1 (Nat.le_of_ble_eq_true rfl)) rfl (Or.inl rfl) pm_M130 eS6327 rfl (G.ge hk (by decide)) (T_6312.al hk (by decide)) rfl rfl (Nat.le_of_ble_eq_true rfl) rfl rfl ?_
                refine cl_c130 (d := d + 0) G T_6312 hk (sf_weak B5735 (by decide) (by decide)) B5687 B5692 nn6328 (fun m6331 h6332 T6333 F6334 W6335 X6336 => ?_)
                have F6337 := F_6312.trans (N := 0) (S := 0) F6334 (by decide) (by decide) (by decide)
                have W6338 : rf_W [] m m6331 := W6315.trans W6335 (by decide)
                have W6339 : rf_W [] m19 m6331 := W6316.trans W6335 (by decide)
                have W6340 : rf_W [] m5722 m6331 := W_6312.trans W6335 (by decide)
                show pm_R _ 127 176 [.ref b, .int a0, .int x2_5672, .int z5685, .int z5690, .int x5_6312, g6_6312, g7_6312, g8_6312] [] _ _
                have nn6341 := X6336 _ hk nn6328
                have NT6342 := X_6312.trans X6336
                refine sf_R_iinc pm_M127 (pc_q := 179) (ls_q := fun z => [.ref b, .int a0, .int z, .int z5685, .int z5690, .int x5_6312, g6_6312, g7_6312, g8_6312]) (pm_q127_1 (Nat.le_of_ble_eq_true rfl)) B5681 rfl (by decide) (by decide) (by decide) (fun _ => rfl) rfl (fun z6343 e6344 B6345 => ?_)
                show pm_R _ 127 179 [.ref b, .int a0, .int z6343, .int z5685, .int z5690, .int x5_6312, g6_6312, g7_6312, g8_6312] [] _ _
                refine pm_R_br pm_M127 (pc_q := 18) (pm_q127_1 (Nat.le_of_ble_eq_true rfl)) rfl ?_
                exact ih_5672 _ (sf_up hN_5672 e6344 B5681 (by decide) (by decide)) h6332 m6331 z6343 (.int z5685) (.int z5690) (.int x5_6312) (g6_6312) (g7_6312) (g8_6312) T6333 F6337 W6339 (sf_weak B6345 (by decide) (by decide)) rfl rfl rfl Cg6_6312 Cg7_6312 Cg8_6312 NT6342 rfl
              · have B6346 : sf_B 1 3 x5_6312 := sf_ltL (Int32.not_le.mp c6317) Bx5_6312 B5735
                refine pm_R_stat pm_M127 (pc_q := 101) rfl rfl rfl ?_
                refine pm_R_lo pm_M127 (pc_q := 102) (pm_q127_1 (Nat.le_of_ble_eq_true rfl)) rfl rfl ?_
                refine pm_R_lo pm_M127 (pc_q := 104) (pm_q127_1 (Nat.le_of_ble_eq_true rfl)) rfl rfl ?_
                refine sf_R_isub pm_M127 (pc_q := 105) (pm_q127_1 (Nat.le_of_ble_eq_true rfl)) rfl B5735 B6346 (by decide) (by decide) (fun z6347 e6348 B6349 => ?_)
                have B6350 : sf_B 1 3 z6347 := sf_subP1 e6348 (Int32.not_le.mp c6317) B6349
                obtain ⟨z6351, ez6352⟩ : ∃ y, pm_sv5.getD (Int32.toNatClampNeg z6347) 0 = y := ⟨_, rfl⟩
                have B6353 : sf_B 10 1000 z6351 := ez6352 ▸ cl_tab (l := pm_sv5) (a := 10) (b := 1000) B6350 (by decide) (by decide)
                refine pm_R_iald pm_M127 (pc_q := 106) (v := z6351) (pm_q127_1 (Nat.le_of_ble_eq_true rfl)) ((T_6312.old (by decide)).trans G.tb5) (T_6312.lt (by decide)) (sf_in B6350 (by decide) (by decide)) ez6352 rfl ?_
                refine pm_R_lo pm_M127 (pc_q := 108) (ls_q := [.ref b, .int a0, .int x2_5672, .int z5685, .int z5690, .int x5_6312, .int z6351, g7_6312, g8_6312]) (st_q := []) (pm_q127_1 (Nat.le_of_ble_eq_true rfl)) rfl rfl ?_
                refine pm_R_stat pm_M127 (pc_q := 111) (pm_q127_1 (Nat.le_of_ble_eq_true rfl)) rfl rfl ?_
                refine pm_R_lo pm_M127 (pc_q := 113) (pm_q127_1 (Nat.le_of_ble_eq_true rfl)) rfl rfl ?_
                obtain ⟨z6354, ez6355⟩ : ∃ y, pm_sv6.getD (Int32.toNatClampNeg x5_6312) 0 = y := ⟨_, rfl⟩
                have B6356 : sf_B 0 110 z6354 := ez6355 ▸ cl_tab (l := pm_sv6) (a := 0) (b := 110) B6346 (by decide) (by decide)
                refine pm_R_iald pm_M127 (pc_q := 114) (v := z6354) (pm_q127_1 (Nat.le_of_ble_eq_true rfl)) ((T_6312.old (by decide)).trans G.tb6) (T_6312.lt (by decide)) (sf_in B6346 (by decide) (by decide)) ez6355 rfl ?_
                refine pm_R_lo pm_M127 (pc_q := 115) (pm_q127_1 (Nat.le_of_ble_eq_true rfl)) rfl rfl ?_
                refine pm_R_lo pm_M127 (pc_q := 117) (pm_q127_1 (Nat.le_of_ble_eq_true rfl)) rfl rfl ?_
                refine sf_R_idiv pm_M127 (pc_q := 118) (pm_q127_1 (Nat.le_of_ble_eq_true rfl)) rfl B5681 B6353 (by decide) (by decide) (fun z6357 e6358 B6359 => ?_)
                refine sf_R_iadd pm_M127 (pc_q := 119) (pm_q127_1 (Nat.le_of_ble_eq_true rfl)) rfl B6356 B6359 (by decide) (by decide) (fun z6360 e6361 B6362 => ?_)
                refine pm_R_lo pm_M127 (pc_q := 121) (ls_q := [.ref b, .int a0, .int x2_5672, .int z5685, .int z5690, .int x5_6312, .int z6351, .int z6360, g8_6312]) (st_q := []) (pm_q127_1 (Nat.le_of_ble_eq_true rfl)) rfl rfl ?_
                refine pm_R_stat pm_M127 (pc_q := 124) (pm_q127_1 (Nat.le_of_ble_eq_true rfl)) rfl rfl ?_
                refine pm_R_lo pm_M127 (pc_q := 125) (pm_q127_1 (Nat.le_of_ble_eq_true rfl)) rfl rfl ?_
                refine pm_R_lo pm_M127 (pc_q := 127) (pm_q127_1 (Nat.le_of_ble_eq_true rfl)) rfl rfl ?_
                refine sf_R_isubV pm_M127 (pc_q := 128) (pm_q127_1 (Nat.le_of_ble_eq_true rfl)) rfl B5735 B6346 (by decide) (by decide) e6348 ?_
                obtain ⟨z6363, ez6364⟩ : ∃ y, pm_sv6.getD (Int32.toNatClampNeg z6347) 0 = y := ⟨_, rfl⟩
                have B6365 : sf_B 0 110 z6363 := ez6364 ▸ cl_tab (l := pm_sv6) (a := 0) (b := 110) B6350 (by decide) (by decide)
                refine pm_R_iald pm_M127 (pc_q := 129) (v := z6363) (pm_q127_1 (Nat.le_of_ble_eq_true rfl)) ((T_6312.old (by decide)).trans G.tb6) (T_6312.lt (by decide)) (sf_in B6350 (by decide) (by decide)) ez6364 rfl ?_
                refine pm_R_lo pm_M127 (pc_q := 130) (pm_q127_1 (Nat.le_of_ble_eq_true rfl)) rfl rfl ?_
                refine pm_R_lo pm_M127 (pc_q := 132) (pm_q127_1 (Nat.le_of_ble_eq_true rfl)) rfl rfl ?_
                refine sf_R_irem pm_M127 (pc_q := 133) (pm_q127_1 (Nat.le_of_ble_eq_true rfl)) rfl B5681 B6353 (by decide) (by decide) (fun z6366 e6367 B6368 => ?_)
                refine sf_R_iadd pm_M127 (pc_q := 134) (pm_q127_1 (Nat.le_of_ble_eq_true rfl)) rfl B6365 B6368 (by decide) (by decide) (fun z6369 e6370 B6371 => ?_)
                refine pm_R_lo pm_M127 (pc_q := 136) (ls_q := [.ref b, .int a0, .int x2_5672, .int z5685, .int z5690, .int x5_6312, .int z6351, .int z6360, .int z6369]) (st_q := []) (pm_q127_1 (Nat.le_of_ble_eq_true rfl)) rfl rfl ?_
                refine pm_R_lo pm_M127 (pc_q := 137) (pm_q127_1 (Nat.le_of_ble_eq_true rfl)) rfl rfl ?_
                refine pm_R_lo pm_M127 (pc_q := 139) (pm_q127_1 (Nat.le_of_ble_eq_true rfl)) rfl rfl ?_
                refine pm_R_lo pm_M127 (pc_q := 141) (pm_q127_1 (Nat.le_of_ble_eq_true rfl)) rfl rfl ?_
                refine pm_R_op pm_M127 (pc_q := 143) (st_q := [.int 6, .int z6360, .int z5690, .ref b]) (pm_q127_1 (Nat.le_of_ble_eq_true rfl)) rfl rfl ?_
                refine sf_R_imul pm_M127 (pc_q := 144) (pm_q127_1 (Nat.le_of_ble_eq_true rfl)) rfl B6362 sf_k6 (by decide) (by decide) (by decide) (fun z6372 e6373 B6374 => ?_)
                refine pm_R_lo pm_M127 (pc_q := 146) (pm_q127_1 (Nat.le_of_ble_eq_true rfl)) rfl rfl ?_
                refine pm_R_op pm_M127 (pc_q := 148) (st_q := [.int 6, .int z6369, .int z6372, .int z5690, .ref b]) (pm_q127_1 (Nat.le_of_ble_eq_true rfl)) rfl rfl ?_
                refine sf_R_imul pm_M127 (pc_q := 149) (pm_q127_1 (Nat.le_of_ble_eq_true rfl)) rfl B6371 sf_k6 (by decide) (by decide) (by decide) (fun z6375 e6376 B6377 => ?_)
                refine pm_R_lo pm_M127 (pc_q := 150) (pm_q127_1 (Nat.le_of_ble_eq_true rfl)) rfl rfl ?_
                refine pm_R_op pm_M127 (pc_q := 151) (st_q := [.int 4, .int a0, .int z6375, .int z6372, .int z5690, .ref b]) (pm_q127_1 (Nat.le_of_ble_eq_true rfl)) rfl rfl ?_
                refine pm_R_icmp pm_M127 (t := 158) (pc_q := 154) (pm_q127_1 (Nat.le_of_ble_eq_true rfl)) rfl rfl (fun c6378 => ?_) (fun c6378 => ?_)
                · have B6379 : sf_B 2 3 a0 := sf_neH0 c6378 sf_k4 B5735
                  refine pm_R_op pm_M127 (pc_q := 159) (st_q := [.int 0, .int z6375, .int z6372, .int z5690, .ref b]) (pm_q127_1 (Nat.le_of_ble_eq_true rfl)) rfl rfl ?_
                  obtain ⟨lo6380, fi6381, av6382, ah6383, an6384, kl6385, B6386, B6387, eS6388⟩ := id (X_6312 _ hk nn)
                  have nn6389 : cl_NN ck h_6312 b := ⟨lo6380, fi6381, av6382, ah6383, an6384, kl6385, B6386, B6387, eS6388⟩
                  refine pm_R_cv pm_M127 (pc_q := 162) (a := b) (ra := [.int 0, .int z6375, .int z6372, .int z5690]) (rest := []) (ls_q := [.ref b, .int z5690, .int z6372, .int z6375, .int 0, pm_no, pm_no, pm_no, pm_no]) (pm_q127_1 (Nat.le_of_ble_eq_true rfl)) rfl (Or.inl rfl) pm_M129 eS6388 rfl (G.ge hk (by decide)) (T_6312.al hk (by decide)) rfl rfl (Nat.le_of_ble_eq_true rfl) rfl rfl ?_
                  refine cl_c129 (d := d + 0) G T_6312 hk B5692 B6374 B6377 (sf_weak sf_k0 (by decide) (by decide)) nn6389 (fun m6392 h6393 T6394 F6395 W6396 X6397 => ?_)
                  have F6398 := F_6312.trans (N := 0) (S := 0) F6395 (by decide) (by decide) (by decide)
                  have W6399 : rf_W [] m m6392 := W6315.trans W6396 (by decide)
                  have W6400 : rf_W [] m19 m6392 := W6316.trans W6396 (by decide)
                  have W6401 : rf_W [] m5722 m6392 := W_6312.trans W6396 (by decide)
                  show pm_R _ 127 162 [.ref b, .int a0, .int x2_5672, .int z5685, .int z5690, .int x5_6312, .int z6351, .int z6360, .int z6369] [] _ _
                  have nn6402 := X6397 _ hk nn6389
                  have NT6403 := X_6312.trans X6397
                  refine sf_R_iinc pm_M127 (pc_q := 165) (ls_q := fun z => [.ref b, .int a0, .int x2_5672, .int z5685, .int z5690, .int z, .int z6351, .int z6360, .int z6369]) (pm_q127_1 (Nat.le_of_ble_eq_true rfl)) B6346 rfl (by decide) (by decide) (by decide) (fun _ => rfl) rfl (fun z6404 e6405 B6406 => ?_)
                  show pm_R _ 127 165 [.ref b, .int a0, .int x2_5672, .int z5685, .int z5690, .int z6404, .int z6351, .int z6360, .int z6369] [] _ _
                  refine pm_R_br pm_M127 (pc_q := 92) (pm_q127_1 (Nat.le_of_ble_eq_true rfl)) rfl ?_
                  exact ih_6312 _ (sf_up hN_6312 e6405 B6346 (by decide) (by decide)) h6393 m6392 z6404 (.int z6351) (.int z6360) (.int z6369) T6394 F6398 W6401 (sf_weak B6406 (by decide) (by decide)) rfl rfl rfl NT6403 rfl
                · have B6407 : sf_B 4 4 a0 := sf_eqL (Classical.not_not.mp c6378) sf_k4
                  refine pm_R_op pm_M127 (pc_q := 155) (st_q := [.int 1, .int z6375, .int z6372, .int z5690, .ref b]) (pm_q127_1 (Nat.le_of_ble_eq_true rfl)) rfl rfl ?_
                  refine pm_R_br pm_M127 (pc_q := 159) (pm_q127_1 (Nat.le_of_ble_eq_true rfl)) rfl ?_
                  obtain ⟨lo6408, fi6409, av6410, ah6411, an6412, kl6413, B6414, B6415, eS6416⟩ := id (X_6312 _ hk nn)
                  have nn6417 : cl_NN ck h_6312 b := ⟨lo6408, fi6409, av6410, ah6411, an6412, kl6413, B6414, B6415, eS6416⟩
                  refine pm_R_cv pm_M127 (pc_q := 162) (a := b) (ra := [.int 1, .int z6375, .int z6372, .int z5690]) (rest := []) (ls_q := [.ref b, .int z5690, .int z6372, .int z6375, .int 1, pm_no, pm_no, pm_no, pm_no]) (pm_q127_1 (Nat.le_of_ble_eq_true rfl)) rfl (Or.inl rfl) pm_M129 eS6416 rfl (G.ge hk (by decide)) (T_6312.al hk (by decide)) rfl rfl (Nat.le_of_ble_eq_true rfl) rfl rfl ?_
                  refine cl_c129 (d := d + 0) G T_6312 hk B5692 B6374 B6377 (sf_weak sf_k1 (by decide) (by decide)) nn6417 (fun m6420 h6421 T6422 F6423 W6424 X6425 => ?_)
                  have F6426 := F_6312.trans (N := 0) (S := 0) F6423 (by decide) (by decide) (by decide)
                  have W6427 : rf_W [] m m6420 := W6315.trans W6424 (by decide)
                  have W6428 : rf_W [] m19 m6420 := W6316.trans W6424 (by decide)
                  have W6429 : rf_W [] m5722 m6420 := W_6312.trans W6424 (by decide)
                  show pm_R _ 127 162 [.ref b, .int a0, .int x2_5672, .int z5685, .int z5690, .int x5_6312, .int z6351, .int z6360, .int z6369] [] _ _
                  have nn6430 := X6425 _ hk nn6417
                  have NT6431 := X_6312.trans X6425
                  refine sf_R_iinc pm_M127 (pc_q := 165) (ls_q := fun z => [.ref b, .int a0, .int x2_5672, .int z5685, .int z5690, .int z, .int z6351, .int z6360, .int z6369]) (pm_q127_1 (Nat.le_of_ble_eq_true rfl)) B6346 rfl (by decide) (by decide) (by decide) (fun _ => rfl) rfl (fun z6432 e6433 B6434 => ?_)
                  show pm_R _ 127 165 [.ref b, .int a0, .int x2_5672, .int z5685, .int z5690, .int z6432, .int z6351, .int z6360, .int z6369] [] _ _
                  refine pm_R_br pm_M127 (pc_q := 92) (pm_q127_1 (Nat.le_of_ble_eq_true rfl)) rfl ?_
                  exact ih_6312 _ (sf_up hN_6312 e6433 B6346 (by decide) (by decide)) h6421 m6420 z6432 (.int z6351) (.int z6360) (.int z6369) T6422 F6426 W6429 (sf_weak B6434 (by decide) (by decide)) rfl rfl rfl NT6431 rfl
          exact L_6312 _ h5723 m5722 1 (g6_5672) (g7_5672) (g8_5672) T5724 F5728 (rf_W.refl _ _) (sf_weak sf_k1 (by decide) (by decide)) Cg6_5672 Cg7_5672 Cg8_5672 NT5733 rfl
        · have B6435 : sf_B 1 1 a0 := sf_eqL (Classical.not_not.mp c5734) sf_k1
          refine pm_R_lo pm_M127 (pc_q := 83) rfl rfl rfl ?_
          refine pm_R_lo pm_M127 (pc_q := 84) rfl rfl rfl ?_
          refine pm_R_lo pm_M127 (pc_q := 86) rfl rfl rfl ?_
          refine pm_R_cv pm_M127 (pc_q := 89) (a := b) (ra := [.int z5690, .int x2_5672]) (rest := []) (ls_q := [.ref b, .int x2_5672, .int z5690, pm_no, pm_no]) rfl rfl (Or.inl rfl) pm_M128 eS5732 rfl (G.ge hk (by decide)) (T5724.al hk (by decide)) rfl rfl (Nat.le_of_ble_eq_true rfl) rfl rfl ?_
          refine cl_c128 (d := d + 2) G T5724 hk B5692 nn5731 (fun m6438 h6439 T6440 F6441 W6442 X6443 => ?_)
          have F6444 := F5728.trans (N := 0) (S := 0) F6441 (by decide) (by decide) (by decide)
          have W6445 : rf_W [] m m6438 := W5729.trans W6442 (by decide)
          have W6446 : rf_W [] m19 m6438 := W5730.trans W6442 (by decide)
          show pm_R _ 127 89 [.ref b, .int a0, .int x2_5672, .int z5685, .int z5690, g5_5672, g6_5672, g7_5672, g8_5672] [] _ _
          have nn6447 := X6443 _ hk nn5731
          have NT6448 := NT5733.trans X6443
          refine pm_R_op pm_M127 (pc_q := 90) (st_q := [.int 1]) rfl rfl rfl ?_
          refine pm_R_lo pm_M127 (pc_q := 92) (ls_q := [.ref b, .int a0, .int x2_5672, .int z5685, .int z5690, .int 1, g6_5672, g7_5672, g8_5672]) (st_q := []) rfl rfl rfl ?_
          have L_6515 : ∀ (N : Nat) (h_6515 : pm_H) (m_6515 : Nat → Int32) (x5_6515 : Int32) (g6_6515 : Value) (g7_6515 : Value) (g8_6515 : Value), cl_T ck E m_6515 o h_6515 → cl_F ck [] 0 0 h h_6515 → rf_W [] m6438 m_6515 → sf_B 1 1 x5_6515 → g6_6515.category = 1 → g7_6515.category = 1 → g8_6515.category = 1 → cl_NT ck h h_6515 → (1 - x5_6515.toInt).toNat = N → pm_R (d + 3) 127 92 [.ref b, .int a0, .int x2_5672, .int z5685, .int z5690, .int x5_6515, g6_6515, g7_6515, g8_6515] [] h_6515 Q := by
            intro N
            induction N using Nat.strongRecOn with
            | ind N ih_6515 =>
              intro h_6515 m_6515 x5_6515 g6_6515 g7_6515 g8_6515 T_6515 F_6515 W_6515 Bx5_6515 Cg6_6515 Cg7_6515 Cg8_6515 X_6515 hN_6515
              have W6518 : rf_W [] m m_6515 := W6445.trans W_6515 (by decide)
              have W6519 : rf_W [] m19 m_6515 := W6446.trans W_6515 (by decide)
              refine pm_R_lo pm_M127 (pc_q := 94) rfl rfl rfl ?_
              refine pm_R_lo pm_M127 (pc_q := 95) rfl rfl rfl ?_
              refine pm_R_icmp pm_M127 (t := 168) (pc_q := 98) rfl rfl rfl (fun c6520 => ?_) (fun c6520 => absurd (Int32.not_le.mp c6520) (sf_nlt Bx5_6515 B6435 (by decide)))
              skip
              refine pm_R_lo pm_M127 (pc_q := 169) (pm_q127_1 (Nat.le_of_ble_eq_true rfl)) rfl rfl ?_
              refine pm_R_lo pm_M127 (pc_q := 170) (pm_q127_1 (Nat.le_of_ble_eq_true rfl)) rfl rfl ?_
              refine pm_R_lo pm_M127 (pc_q := 171) (pm_q127_1 (Nat.le_of_ble_eq_true rfl)) rfl rfl ?_
              refine pm_R_lo pm_M127 (pc_q := 173) (pm_q127_1 (Nat.le_of_ble_eq_true rfl)) rfl rfl ?_
              obtain ⟨lo6521, fi6522, av6523, ah6524, an6525, kl6526, B6527, B6528, eS6529⟩ := id (X_6515 _ hk nn)
              have nn6530 : cl_NN ck h_6515 b := ⟨lo6521, fi6522, av6523, ah6524, an6525, kl6526, B6527, B6528, eS6529⟩
              refine pm_R_cv pm_M127 (pc_q := 176) (a := b) (ra := [.int z5690, .int z5685, .int a0]) (rest := []) (ls_q := [.ref b, .int a0, .int z5685, .int z5690]) (pm_q127_1 (Nat.le_of_ble_eq_true rfl)) rfl (Or.inl rfl) pm_M130 eS6529 rfl (G.ge hk (by decide)) (T_6515.al hk (by decide)) rfl rfl (Nat.le_of_ble_eq_true rfl) rfl rfl ?_
              refine cl_c130 (d := d + 0) G T_6515 hk (sf_weak B6435 (by decide) (by decide)) B5687 B5692 nn6530 (fun m6533 h6534 T6535 F6536 W6537 X6538 => ?_)
              have F6539 := F_6515.trans (N := 0) (S := 0) F6536 (by decide) (by decide) (by decide)
              have W6540 : rf_W [] m m6533 := W6518.trans W6537 (by decide)
              have W6541 : rf_W [] m19 m6533 := W6519.trans W6537 (by decide)
              have W6542 : rf_W [] m6438 m6533 := W_6515.trans W6537 (by decide)
              show pm_R _ 127 176 [.ref b, .int a0, .int x2_5672, .int z5685, .int z5690, .int x5_6515, g6_6515, g7_6515, g8_6515] [] _ _
              have nn6543 := X6538 _ hk nn6530
              have NT6544 := X_6515.trans X6538
              refine sf_R_iinc pm_M127 (pc_q := 179) (ls_q := fun z => [.ref b, .int a0, .int z, .int z5685, .int z5690, .int x5_6515, g6_6515, g7_6515, g8_6515]) (pm_q127_1 (Nat.le_of_ble_eq_true rfl)) B5681 rfl (by decide) (by decide) (by decide) (fun _ => rfl) rfl (fun z6545 e6546 B6547 => ?_)
              show pm_R _ 127 179 [.ref b, .int a0, .int z6545, .int z5685, .int z5690, .int x5_6515, g6_6515, g7_6515, g8_6515] [] _ _
              refine pm_R_br pm_M127 (pc_q := 18) (pm_q127_1 (Nat.le_of_ble_eq_true rfl)) rfl ?_
              exact ih_5672 _ (sf_up hN_5672 e6546 B5681 (by decide) (by decide)) h6534 m6533 z6545 (.int z5685) (.int z5690) (.int x5_6515) (g6_6515) (g7_6515) (g8_6515) T6535 F6539 W6541 (sf_weak B6547 (by decide) (by decide)) rfl rfl rfl Cg6_6515 Cg7_6515 Cg8_6515 NT6544 rfl
          exact L_6515 _ h6439 m6438 1 (g6_5672) (g7_5672) (g8_5672) T6440 F6444 (rf_W.refl _ _) sf_k1 Cg6_5672 Cg7_5672 Cg8_5672 NT6448 rfl
  exact L_5672 _ h20 m19 0 (pm_no) (pm_no) (pm_no) (pm_no) (pm_no) (pm_no) T21 F25 (rf_W.refl _ _) (sf_weak sf_k0 (by decide) (by decide)) rfl rfl rfl rfl rfl rfl NT29 rfl

set_option maxRecDepth 100000 in
set_option maxHeartbeats 4000000 in
/-- SilentTable$ShortRows.fillTo -/
theorem cl_c126 {d : Nat} {ck : cl_K} {E : Nat → pm_E} {m : Nat → Int32} {o : Nat → Option Nat} {h : pm_H} {Q : Option Value → pm_H → Prop} {b : Nat} {a0 : Int32} (G : cl_G ck E) (T : cl_T ck E m o h) (hk : ck b = 24) (Ba0 : sf_B 1 4 a0) (nn : cl_NN ck h b) (K : ∀ (m_q : Nat → Int32) (h_q : pm_H), cl_T ck E m_q o h_q → cl_F ck [] 0 0 h h_q → rf_W [] m m_q → cl_NT ck h h_q → Q none h_q) : pm_R (d + 4) 126 0 [.ref b, .int a0, pm_no] [] h Q := by
  refine pm_R_lo pm_M126 (pc_q := 1) rfl rfl rfl ?_
  obtain ⟨lo1, fi2, av3, ah4, an5, kl6, B7, B8, eS9⟩ := id nn
  have nn10 : cl_NN ck h b := ⟨lo1, fi2, av3, ah4, an5, kl6, B7, B8, eS9⟩
  refine pm_R_get pm_M126 (pc_q := 4) (v := .int fi2) rfl rfl eS9 (G.ge hk (by decide)) (T.al hk (by decide)) rfl rfl ?_
  refine pm_R_op pm_M126 (pc_q := 5) (st_q := [.int 1, .int fi2]) rfl rfl rfl ?_
  refine sf_R_iadd pm_M126 (pc_q := 6) rfl rfl B7 sf_k1 (by decide) (by decide) (fun z11 e12 B13 => ?_)
  refine pm_R_lo pm_M126 (pc_q := 7) (ls_q := [.ref b, .int a0, .int z11]) (st_q := []) rfl rfl rfl ?_
  have L_112 : ∀ (N : Nat) (h_112 : pm_H) (m_112 : Nat → Int32) (x2_112 : Int32), cl_T ck E m_112 o h_112 → cl_F ck [] 0 0 h h_112 → rf_W [] m m_112 → sf_B 1 5 x2_112 → cl_NT ck h h_112 → (5 - x2_112.toInt).toNat = N → pm_R (d + 4) 126 7 [.ref b, .int a0, .int x2_112] [] h_112 Q := by
    intro N
    induction N using Nat.strongRecOn with
    | ind N ih_112 =>
      intro h_112 m_112 x2_112 T_112 F_112 W_112 Bx2_112 X_112 hN_112
      have W115 : rf_W [] m m_112 := (rf_W.refl [] m).trans W_112 (by decide)
      refine pm_R_lo pm_M126 (pc_q := 8) rfl rfl rfl ?_
      refine pm_R_lo pm_M126 (pc_q := 9) rfl rfl rfl ?_
      refine pm_R_icmp pm_M126 (t := 28) (pc_q := 12) rfl rfl rfl (fun c116 => ?_) (fun c116 => ?_)
      · have B117 : sf_B 2 5 x2_112 := sf_ltR c116 Ba0 Bx2_112
        exact pm_R_ret pm_M126 (r := none) rfl rfl (K m_112 h_112 T_112 F_112 W115 X_112)
      · have B118 : sf_B 1 4 x2_112 := sf_leL (Int32.not_lt.mp c116) Bx2_112 Ba0
        refine pm_R_lo pm_M126 (pc_q := 13) rfl rfl rfl ?_
        refine pm_R_lo pm_M126 (pc_q := 14) rfl rfl rfl ?_
        obtain ⟨lo119, fi120, av121, ah122, an123, kl124, B125, B126, eS127⟩ := id (X_112 _ hk nn)
        have nn128 : cl_NN ck h_112 b := ⟨lo119, fi120, av121, ah122, an123, kl124, B125, B126, eS127⟩
        refine pm_R_cv pm_M126 (pc_q := 17) (a := b) (ra := [.int x2_112]) (rest := []) (ls_q := [.ref b, .int x2_112, pm_no, pm_no, pm_no, pm_no, pm_no, pm_no, pm_no]) rfl rfl (Or.inl rfl) pm_M127 eS127 rfl (G.ge hk (by decide)) (T_112.al hk (by decide)) rfl rfl (Nat.le_of_ble_eq_true rfl) rfl rfl ?_
        refine cl_c127 (d := d + 0) G T_112 hk B118 nn128 (fun m131 h132 T133 F134 W135 X136 => ?_)
        have F137 := F_112.trans (N := 0) (S := 0) F134 (by decide) (by decide) (by decide)
        have W138 : rf_W [] m m131 := W115.trans W135 (by decide)
        have W139 : rf_W [] m m131 := W_112.trans W135 (by decide)
        show pm_R _ 126 17 [.ref b, .int a0, .int x2_112] [] _ _
        have nn140 := X136 _ hk nn128
        have NT141 := X_112.trans X136
        refine pm_R_lo pm_M126 (pc_q := 18) rfl rfl rfl ?_
        refine pm_R_lo pm_M126 (pc_q := 19) rfl rfl rfl ?_
        obtain ⟨lo142, fi143, av144, ah145, an146, kl147, B148, B149, eS150⟩ := id nn140
        have nn151 : cl_NN ck h132 b := ⟨lo142, fi143, av144, ah145, an146, kl147, B148, B149, eS150⟩
        refine cl_R_sput (lo := lo142) (fi' := x2_112) (av' := av144) (ah' := ah145) (an' := an146) G pm_M126 T133 (pc_q := 22) rfl rfl rfl (by decide) rfl rfl hk eS150 kl147 (sf_weak B118 (by decide) (by decide)) B149 rfl rfl (fun h152 T153 F154 e155 NT156 => ?_)
        have F157 := F137.trans (N := 0) (S := 0) F154 (by decide) (by decide) (by decide)
        have nn158 := NT156 _ hk nn151
        have NT159 := NT141.trans NT156
        refine sf_R_iinc pm_M126 (pc_q := 25) (ls_q := fun z => [.ref b, .int a0, .int z]) rfl B118 rfl (by decide) (by decide) (by decide) (fun _ => rfl) rfl (fun z160 e161 B162 => ?_)
        show pm_R _ 126 25 [.ref b, .int a0, .int z160] [] _ _
        refine pm_R_br pm_M126 (pc_q := 7) rfl rfl ?_
        exact ih_112 _ (sf_up hN_112 e161 B118 (by decide) (by decide)) h152 m131 z160 T153 F157 W139 (sf_weak B162 (by decide) (by decide)) NT159 rfl
  exact L_112 _ h m z11 T (cl_F.refl (ck := ck) (A := []) (n := 0) (s := 0) T.1) (rf_W.refl _ _) B13 (cl_NT.refl ck h) rfl

theorem cl_aux20 (v0 v1 v2 v3 : Int) (q0 : v0 = v1 - 1) (q1 : v2 = v0 - v3) (q2 : v3 < v1) : 0 ≤ v2 := by omega
set_option maxRecDepth 100000 in
set_option maxHeartbeats 4000000 in
/-- SilentTable$ShortRows.setWorn -/
theorem cl_c131 {d : Nat} {ck : cl_K} {E : Nat → pm_E} {m : Nat → Int32} {o : Nat → Option Nat} {h : pm_H} {Q : Option Value → pm_H → Prop} {b : Nat} {a0 : Int32} {a1 : Int32} {a2 : Int32} (G : cl_G ck E) (T : cl_T ck E m o h) (hk : ck b = 24) (Ba0 : sf_B 0 11109 a0) (Ba1 : sf_B 1 4 a1) (Ba2 : sf_B 0 9 a2) (nn : cl_NN ck h b) (R : pm_sv6.getD (Int32.toNatClampNeg a1) 0 ≤ a0) (K : ∀ (m_q : Nat → Int32) (h_q : pm_H), cl_T ck E m_q o h_q → cl_F ck [38] 0 0 h h_q → rf_W [] m m_q → cl_NT ck h h_q → Q none h_q) : pm_R (d + 1) 131 0 [.ref b, .int a0, .int a1, .int a2, .ref 38, pm_no] [] h Q := by
  refine pm_R_op pm_M131 (pc_q := 1) (st_q := [.int 0]) rfl rfl rfl ?_
  refine pm_R_lo pm_M131 (pc_q := 3) (ls_q := [.ref b, .int a0, .int a1, .int a2, .ref 38, .int 0]) (st_q := []) rfl rfl rfl ?_
  have L_508 : ∀ (N : Nat) (h_508 : pm_H) (m_508 : Nat → Int32) (x5_508 : Int32), cl_T ck E m_508 o h_508 → cl_F ck [38] 0 0 h h_508 → rf_W [] m m_508 → sf_B 0 4 x5_508 → cl_NT ck h h_508 → (4 - x5_508.toInt).toNat = N → pm_R (d + 1) 131 3 [.ref b, .int a0, .int a1, .int a2, .ref 38, .int x5_508] [] h_508 Q := by
    intro N
    induction N using Nat.strongRecOn with
    | ind N ih_508 =>
      intro h_508 m_508 x5_508 T_508 F_508 W_508 Bx5_508 X_508 hN_508
      have W511 : rf_W [] m m_508 := (rf_W.refl [] m).trans W_508 (by decide)
      refine pm_R_lo pm_M131 (pc_q := 5) rfl rfl rfl ?_
      refine pm_R_lo pm_M131 (pc_q := 6) rfl rfl rfl ?_
      refine pm_R_icmp pm_M131 (t := 40) (pc_q := 9) rfl rfl rfl (fun c512 => ?_) (fun c512 => ?_)
      · have B513 : sf_B 1 4 x5_508 := sf_leR c512 Ba1 Bx5_508
        exact pm_R_ret pm_M131 (r := none) rfl rfl (K m_508 h_508 T_508 F_508 W511 X_508)
      · have B514 : sf_B 0 3 x5_508 := sf_ltL (Int32.not_le.mp c512) Bx5_508 Ba1
        refine pm_R_lo pm_M131 (pc_q := 11) rfl rfl rfl ?_
        refine pm_R_lo pm_M131 (pc_q := 13) rfl rfl rfl ?_
        refine pm_R_lo pm_M131 (pc_q := 14) rfl rfl rfl ?_
        obtain ⟨lo515, fi516, av517, ah518, an519, kl520, B521, B522, eS523⟩ := id (X_508 _ hk nn)
        have nn524 : cl_NN ck h_508 b := ⟨lo515, fi516, av517, ah518, an519, kl520, B521, B522, eS523⟩
        refine pm_R_get pm_M131 (pc_q := 17) (v := .ref lo515) rfl rfl eS523 (G.ge hk (by decide)) (T_508.al hk (by decide)) rfl rfl ?_
        obtain ⟨rc525, tc526, rs527, fv528, fw529, fr530, ft531, fn532, h533, h534, B535, eE536, eE537, eE538, eE539, eE540, eE541, b542, b543, b544⟩ := (G.2.1 lo515 kl520).2.2.2.2.2
        have kq545 := G.2.1 lo515 kl520
        refine pm_R_get pm_M131 (pc_q := 20) (v := .ref (lo515 + 2)) rfl rfl (T_508.im kl520 (by decide) (by decide) eE536) (G.ge kl520 (by decide)) (T_508.al kl520 (by decide)) rfl rfl ?_
        refine pm_R_lo pm_M131 (pc_q := 21) rfl rfl rfl ?_
        refine pm_R_op pm_M131 (pc_q := 23) (st_q := [.int 10, .int a2, .ref (lo515 + 2), .int x5_508, .ref 38]) rfl rfl rfl ?_
        refine sf_R_imul pm_M131 (pc_q := 24) rfl rfl Ba2 sf_k10 (by decide) (by decide) (by decide) (fun z546 e547 B548 => ?_)
        refine pm_R_lo pm_M131 (pc_q := 25) rfl rfl rfl ?_
        refine pm_R_lo pm_M131 (pc_q := 26) rfl rfl rfl ?_
        refine pm_R_lo pm_M131 (pc_q := 28) rfl rfl rfl ?_
        refine pm_R_cs pm_M131 (pc_q := 31) (ra := [.int x5_508, .int a1, .int a0]) (rest := [.int z546, .ref (lo515 + 2), .int x5_508, .ref 38]) (ls_q := [.int a0, .int a1, .int x5_508]) rfl rfl (Or.inr rfl) pm_M132 rfl rfl (Nat.le_of_ble_eq_true rfl) rfl rfl ?_
        refine pm_R_lo pm_M132 (pc_q := 1) rfl rfl rfl ?_
        refine pm_R_stat pm_M132 (pc_q := 4) rfl rfl rfl ?_
        refine pm_R_lo pm_M132 (pc_q := 5) rfl rfl rfl ?_
        obtain ⟨z549, ez550⟩ : ∃ y, pm_sv6.getD (Int32.toNatClampNeg a1) 0 = y := ⟨_, rfl⟩
        have B551 : sf_B 0 1110 z549 := ez550 ▸ cl_tab (l := pm_sv6) (a := 0) (b := 1110) Ba1 (by decide) (by decide)
        refine pm_R_iald pm_M132 (pc_q := 6) (v := z549) rfl ((T_508.old (by decide)).trans G.tb6) (T_508.lt (by decide)) (sf_in Ba1 (by decide) (by decide)) ez550 rfl ?_
        refine sf_R_isub pm_M132 (pc_q := 7) rfl rfl Ba0 B551 (by decide) (by decide) (fun z552 e553 B554 => ?_)
        have B555 : sf_B 0 11109 z552 := sf_subP e553 (ez550 ▸ R) B554
        refine pm_R_stat pm_M132 (pc_q := 10) rfl rfl rfl ?_
        refine pm_R_lo pm_M132 (pc_q := 11) rfl rfl rfl ?_
        refine pm_R_op pm_M132 (pc_q := 12) (st_q := [.int 1, .int a1, .ref 5, .int z552]) rfl rfl rfl ?_
        refine sf_R_isub pm_M132 (pc_q := 13) rfl rfl Ba1 sf_k1 (by decide) (by decide) (fun z556 e557 B558 => ?_)
        refine pm_R_lo pm_M132 (pc_q := 14) rfl rfl rfl ?_
        refine sf_R_isub pm_M132 (pc_q := 15) rfl rfl B558 B514 (by decide) (by decide) (fun z559 e560 B561 => ?_)
        have B565 : sf_B 0 3 z559 := ⟨(cl_aux20 _ _ _ _ e557 e560 (Int32.lt_iff_toInt_lt.mp (Int32.not_le.mp c512))), B561.2⟩
        obtain ⟨z562, ez563⟩ : ∃ y, pm_sv5.getD (Int32.toNatClampNeg z559) 0 = y := ⟨_, rfl⟩
        have B564 : sf_B 1 1000 z562 := ez563 ▸ cl_tab (l := pm_sv5) (a := 1) (b := 1000) B565 (by decide) (by decide)
        refine pm_R_iald pm_M132 (pc_q := 16) (v := z562) rfl ((T_508.old (by decide)).trans G.tb5) (T_508.lt (by decide)) (sf_in B565 (by decide) (by decide)) ez563 rfl ?_
        refine sf_R_idiv pm_M132 (pc_q := 17) rfl rfl B555 B564 (by decide) (by decide) (fun z566 e567 B568 => ?_)
        refine pm_R_op pm_M132 (pc_q := 19) (st_q := [.int 10, .int z566]) rfl rfl rfl ?_
        refine sf_R_irem pm_M132 (pc_q := 20) rfl rfl B568 sf_k10 (by decide) (by decide) (fun z569 e570 B571 => ?_)
        refine pm_R_ret pm_M132 (r := some (.int z569)) rfl (pm_ret_i _) ?_
        show pm_R _ 131 31 [.ref b, .int a0, .int a1, .int a2, .ref 38, .int x5_508] [.int z569, .int z546, .ref (lo515 + 2), .int x5_508, .ref 38] _ _
        refine sf_R_iadd pm_M131 (pc_q := 32) rfl rfl B548 B571 (by decide) (by decide) (fun z572 e573 B574 => ?_)
        obtain ⟨z575, ez576⟩ : ∃ y, fw529 (Int32.toNatClampNeg z572) = y := ⟨_, rfl⟩
        refine pm_R_iald pm_M131 (pc_q := 33) (v := z575) rfl (T_508.im kq545.2.1 (by decide) (by decide) eE538) (T_508.al kq545.2.1 (by decide)) (sf_in B574 (by decide) (by decide)) ez576 rfl ?_
        obtain ⟨f578, e579⟩ := T_508.C 38 (by decide) (by decide)
        refine cl_R_ist G pm_M131 T_508 (pc_q := 34) rfl e579 (by decide) ⟨_, rfl⟩ (sf_in B514 (by decide) (by decide)) rfl (fun h581 T582 F583 e584 => ?_)
        have F585 := F583.cl (ck := ck) T_508.1
        have F586 := F_508.trans (N := 0) (S := 0) F585 (by decide) (by decide) (by decide)
        have U587 := rf_G.NT G F583 (by decide)
        have nn588 := cl_NT.same U587 _ hk nn524
        have eS589 := (U587 _ hk).trans eS523
        have NT590 := X_508.trans (cl_NT.same U587)
        refine sf_R_iinc pm_M131 (pc_q := 37) (ls_q := fun z => [.ref b, .int a0, .int a1, .int a2, .ref 38, .int z]) rfl B514 rfl (by decide) (by decide) (by decide) (fun _ => rfl) rfl (fun z591 e592 B593 => ?_)
        show pm_R _ 131 37 [.ref b, .int a0, .int a1, .int a2, .ref 38, .int z591] [] _ _
        refine pm_R_br pm_M131 (pc_q := 3) rfl rfl ?_
        exact ih_508 _ (sf_up hN_508 e592 B514 (by decide) (by decide)) h581 m_508 z591 T582 F586 W_508 (sf_weak B593 (by decide) (by decide)) NT590 rfl
  exact L_508 _ h m 0 T (cl_F.refl (ck := ck) (A := [38]) (n := 0) (s := 0) T.1) (rf_W.refl _ _) (sf_weak sf_k0 (by decide) (by decide)) (cl_NT.refl ck h) rfl

theorem cl_aux21 (v0 v1 v2 : Int) (q0 : v0 = v1 + v2) (q1 : 0 ≤ v2) : v1 ≤ v0 := by omega
set_option maxRecDepth 100000 in
set_option maxHeartbeats 4000000 in
/-- SilentTable$ShortRows.briefest -/
theorem cl_c125 {d : Nat} {ck : cl_K} {E : Nat → pm_E} {m : Nat → Int32} {o : Nat → Option Nat} {h : pm_H} {Q : Option Value → pm_H → Prop} {b : Nat} {a0 : Int32} {a1 : Int32} (G : cl_G ck E) (T : cl_T ck E m o h) (hk : ck b = 24) (Ba0 : sf_B 0 49 a0) (Ba1 : sf_B (-1) 9 a1) (nn : cl_NN ck h b) (K : ∀ (r : Int32) (m_q : Nat → Int32) (h_q : pm_H), cl_T ck E m_q o h_q → cl_F ck [32, 38] 0 0 h h_q → rf_W [] m m_q → cl_NT ck h h_q → sf_B (-1) 11109 r → Q (some (.int r)) h_q) : pm_R (d + 5) 125 0 [.ref b, .int a0, .int a1, .ref 31, .ref 38, pm_no, pm_no, pm_no] [] h Q := by
  refine pm_R_lo pm_M125 (pc_q := 1) rfl rfl rfl ?_
  obtain ⟨lo1, fi2, av3, ah4, an5, kl6, B7, B8, eS9⟩ := id nn
  have nn10 : cl_NN ck h b := ⟨lo1, fi2, av3, ah4, an5, kl6, B7, B8, eS9⟩
  refine pm_R_get pm_M125 (pc_q := 4) (v := .int av3) rfl rfl eS9 (G.ge hk (by decide)) (T.al hk (by decide)) rfl rfl ?_
  refine pm_R_lo pm_M125 (pc_q := 5) rfl rfl rfl ?_
  refine pm_R_icmp pm_M125 (t := 21) (pc_q := 8) rfl rfl rfl (fun c11 => ?_) (fun c11 => ?_)
  · skip
    refine pm_R_lo pm_M125 (pc_q := 22) rfl rfl rfl ?_
    refine pm_R_lo pm_M125 (pc_q := 23) rfl rfl rfl ?_
    refine cl_R_sput (lo := lo1) (fi' := fi2) (av' := a0) (ah' := ah4) (an' := an5) G pm_M125 T (pc_q := 26) rfl rfl rfl (by decide) rfl rfl hk eS9 kl6 B7 B8 rfl rfl (fun h12 T13 F14 e15 NT16 => ?_)
    have F17 := (cl_F.refl (ck := ck) (A := [32, 38]) (n := 0) (s := 0) T.1).trans (N := 0) (S := 0) F14 (by decide) (by decide) (by decide)
    have nn18 := NT16 _ hk nn10
    have NT19 := (cl_NT.refl ck h).trans NT16
    refine pm_R_lo pm_M125 (pc_q := 27) rfl rfl rfl ?_
    refine pm_R_lo pm_M125 (pc_q := 28) rfl rfl rfl ?_
    refine cl_R_sput (lo := lo1) (fi' := fi2) (av' := a0) (ah' := a1) (an' := an5) G pm_M125 T13 (pc_q := 31) rfl rfl rfl (by decide) rfl rfl hk e15 kl6 B7 B8 rfl rfl (fun h20 T21 F22 e23 NT24 => ?_)
    have F25 := F17.trans (N := 0) (S := 0) F22 (by decide) (by decide) (by decide)
    have nn26 := NT24 _ hk nn18
    have NT27 := NT19.trans NT24
    refine pm_R_lo pm_M125 (pc_q := 32) rfl rfl rfl ?_
    refine pm_R_op pm_M125 (pc_q := 33) (st_q := [.int (-1), .ref b]) rfl rfl rfl ?_
    refine cl_R_sput (lo := lo1) (fi' := fi2) (av' := a0) (ah' := a1) (an' := (-1)) G pm_M125 T21 (pc_q := 36) rfl rfl rfl (by decide) rfl rfl hk e23 kl6 B7 (sf_weak sf_kn1 (by decide) (by decide)) rfl rfl (fun h28 T29 F30 e31 NT32 => ?_)
    have F33 := F25.trans (N := 0) (S := 0) F30 (by decide) (by decide) (by decide)
    have nn34 := NT32 _ hk nn26
    have NT35 := NT27.trans NT32
    refine pm_R_op pm_M125 (pc_q := 37) (st_q := [.int 1]) rfl rfl rfl ?_
    refine pm_R_lo pm_M125 (pc_q := 39) (ls_q := [.ref b, .int a0, .int a1, .ref 31, .ref 38, .int 1, pm_no, pm_no]) (st_q := []) rfl rfl rfl ?_
    have L_5196 : ∀ (N : Nat) (h_5196 : pm_H) (m_5196 : Nat → Int32) (x5_5196 : Int32) (g6_5196 : Value) (g7_5196 : Value), cl_T ck E m_5196 o h_5196 → cl_F ck [32, 38] 0 0 h h_5196 → rf_W [] m m_5196 → sf_B 1 5 x5_5196 → g6_5196.category = 1 → g7_5196.category = 1 → cl_NT ck h h_5196 → (5 - x5_5196.toInt).toNat = N → pm_R (d + 5) 125 39 [.ref b, .int a0, .int a1, .ref 31, .ref 38, .int x5_5196, g6_5196, g7_5196] [] h_5196 Q := by
      intro N
      induction N using Nat.strongRecOn with
      | ind N ih_5196 =>
        intro h_5196 m_5196 x5_5196 g6_5196 g7_5196 T_5196 F_5196 W_5196 Bx5_5196 Cg6_5196 Cg7_5196 X_5196 hN_5196
        have W5199 : rf_W [] m m_5196 := (rf_W.refl [] m).trans W_5196 (by decide)
        refine pm_R_lo pm_M125 (pc_q := 41) rfl rfl rfl ?_
        refine pm_R_op pm_M125 (pc_q := 42) (st_q := [.int 4, .int x5_5196]) rfl rfl rfl ?_
        refine pm_R_icmp pm_M125 (t := 159) (pc_q := 45) rfl rfl rfl (fun c5200 => ?_) (fun c5200 => ?_)
        · have B5201 : sf_B 5 5 x5_5196 := sf_ltR c5200 sf_k4 Bx5_5196
          refine pm_R_lo pm_M125 (pc_q := 160) (pm_q125_1 (Nat.le_of_ble_eq_true rfl)) rfl rfl ?_
          obtain ⟨lo5202, fi5203, av5204, ah5205, an5206, kl5207, B5208, B5209, eS5210⟩ := id (X_5196 _ hk nn)
          have nn5211 : cl_NN ck h_5196 b := ⟨lo5202, fi5203, av5204, ah5205, an5206, kl5207, B5208, B5209, eS5210⟩
          refine pm_R_get pm_M125 (pc_q := 163) (v := .int an5206) (pm_q125_1 (Nat.le_of_ble_eq_true rfl)) rfl eS5210 (G.ge hk (by decide)) (T_5196.al hk (by decide)) rfl rfl ?_
          exact pm_R_ret pm_M125 (r := some (.int an5206)) (pm_q125_1 (Nat.le_of_ble_eq_true rfl)) (pm_ret_i _) (K an5206 m_5196 h_5196 T_5196 F_5196 W5199 X_5196 B5209)
        · have B5212 : sf_B 1 4 x5_5196 := sf_leL (Int32.not_lt.mp c5200) Bx5_5196 sf_k4
          refine pm_R_lo pm_M125 (pc_q := 46) rfl rfl rfl ?_
          obtain ⟨lo5213, fi5214, av5215, ah5216, an5217, kl5218, B5219, B5220, eS5221⟩ := id (X_5196 _ hk nn)
          have nn5222 : cl_NN ck h_5196 b := ⟨lo5213, fi5214, av5215, ah5216, an5217, kl5218, B5219, B5220, eS5221⟩
          refine pm_R_get pm_M125 (pc_q := 49) (v := .int an5217) rfl rfl eS5221 (G.ge hk (by decide)) (T_5196.al hk (by decide)) rfl rfl ?_
          refine pm_R_op pm_M125 (pc_q := 50) (st_q := [.int (-1), .int an5217]) rfl rfl rfl ?_
          refine pm_R_icmp pm_M125 (t := 159) (pc_q := 53) rfl rfl rfl (fun c5223 => ?_) (fun c5223 => ?_)
          · have B5224 : sf_B 0 11109 an5217 := sf_neL0 c5223 sf_kn1 B5220
            refine pm_R_lo pm_M125 (pc_q := 160) (pm_q125_1 (Nat.le_of_ble_eq_true rfl)) rfl rfl ?_
            refine pm_R_get pm_M125 (pc_q := 163) (v := .int an5217) (pm_q125_1 (Nat.le_of_ble_eq_true rfl)) rfl eS5221 (G.ge hk (by decide)) (T_5196.al hk (by decide)) rfl rfl ?_
            exact pm_R_ret pm_M125 (r := some (.int an5217)) (pm_q125_1 (Nat.le_of_ble_eq_true rfl)) (pm_ret_i _) (K an5217 m_5196 h_5196 T_5196 F_5196 W5199 X_5196 B5220)
          · have B5225 : sf_B (-1) (-1) an5217 := sf_eqL (Classical.not_not.mp c5223) sf_kn1
            refine pm_R_lo pm_M125 (pc_q := 54) rfl rfl rfl ?_
            refine pm_R_lo pm_M125 (pc_q := 56) rfl rfl rfl ?_
            refine pm_R_cv pm_M125 (pc_q := 59) (a := b) (ra := [.int x5_5196]) (rest := []) (ls_q := [.ref b, .int x5_5196, pm_no]) rfl rfl (Or.inl rfl) pm_M126 eS5221 rfl (G.ge hk (by decide)) (T_5196.al hk (by decide)) rfl rfl (Nat.le_of_ble_eq_true rfl) rfl rfl ?_
            refine cl_c126 (d := d + 0) G T_5196 hk B5212 nn5222 (fun m5228 h5229 T5230 F5231 W5232 X5233 => ?_)
            have F5234 := F_5196.trans (N := 0) (S := 0) F5231 (by decide) (by decide) (by decide)
            have W5235 : rf_W [] m m5228 := W5199.trans W5232 (by decide)
            have W5236 : rf_W [] m m5228 := W_5196.trans W5232 (by decide)
            show pm_R _ 125 59 [.ref b, .int a0, .int a1, .ref 31, .ref 38, .int x5_5196, g6_5196, g7_5196] [] _ _
            have nn5237 := X5233 _ hk nn5222
            have NT5238 := X_5196.trans X5233
            refine pm_R_op pm_M125 (pc_q := 60) (st_q := [.int 0]) rfl rfl rfl ?_
            refine pm_R_lo pm_M125 (pc_q := 62) (ls_q := [.ref b, .int a0, .int a1, .ref 31, .ref 38, .int x5_5196, .int 0, g7_5196]) (st_q := []) rfl rfl rfl ?_
            have L_6136 : ∀ (N : Nat) (h_6136 : pm_H) (m_6136 : Nat → Int32) (x6_6136 : Int32) (g7_6136 : Value), cl_T ck E m_6136 o h_6136 → cl_F ck [32, 38] 0 0 h h_6136 → rf_W [] m5228 m_6136 → sf_B 0 10000 x6_6136 → g7_6136.category = 1 → cl_NT ck h h_6136 → (10000 - x6_6136.toInt).toNat = N → pm_R (d + 5) 125 62 [.ref b, .int a0, .int a1, .ref 31, .ref 38, .int x5_5196, .int x6_6136, g7_6136] [] h_6136 Q := by
              intro N
              induction N using Nat.strongRecOn with
              | ind N ih_6136 =>
                intro h_6136 m_6136 x6_6136 g7_6136 T_6136 F_6136 W_6136 Bx6_6136 Cg7_6136 X_6136 hN_6136
                have W6139 : rf_W [] m m_6136 := W5235.trans W_6136 (by decide)
                have W6140 : rf_W [] m m_6136 := W5236.trans W_6136 (by decide)
                refine pm_R_lo pm_M125 (pc_q := 64) rfl rfl rfl ?_
                refine pm_R_stat pm_M125 (pc_q := 67) rfl rfl rfl ?_
                refine pm_R_lo pm_M125 (pc_q := 69) rfl rfl rfl ?_
                obtain ⟨z6141, ez6142⟩ : ∃ y, pm_sv5.getD (Int32.toNatClampNeg x5_5196) 0 = y := ⟨_, rfl⟩
                have B6143 : sf_B 10 10000 z6141 := ez6142 ▸ cl_tab (l := pm_sv5) (a := 10) (b := 10000) B5212 (by decide) (by decide)
                refine pm_R_iald pm_M125 (pc_q := 70) (v := z6141) rfl ((T_6136.old (by decide)).trans G.tb5) (T_6136.lt (by decide)) (sf_in B5212 (by decide) (by decide)) ez6142 rfl ?_
                refine pm_R_icmp pm_M125 (t := 153) (pc_q := 73) rfl rfl rfl (fun c6144 => ?_) (fun c6144 => ?_)
                · have B6145 : sf_B 10 10000 x6_6136 := sf_leR c6144 B6143 Bx6_6136
                  refine sf_R_iinc pm_M125 (pc_q := 156) (ls_q := fun z => [.ref b, .int a0, .int a1, .ref 31, .ref 38, .int z, .int x6_6136, g7_6136]) (pm_q125_1 (Nat.le_of_ble_eq_true rfl)) B5212 rfl (by decide) (by decide) (by decide) (fun _ => rfl) rfl (fun z6146 e6147 B6148 => ?_)
                  show pm_R _ 125 156 [.ref b, .int a0, .int a1, .ref 31, .ref 38, .int z6146, .int x6_6136, g7_6136] [] _ _
                  refine pm_R_br pm_M125 (pc_q := 39) (pm_q125_1 (Nat.le_of_ble_eq_true rfl)) rfl ?_
                  exact ih_5196 _ (sf_up hN_5196 e6147 B5212 (by decide) (by decide)) h_6136 m_6136 z6146 (.int x6_6136) (g7_6136) T_6136 F_6136 W6140 (sf_weak B6148 (by decide) (by decide)) rfl Cg7_6136 X_6136 rfl
                · have B6149 : sf_B 0 9999 x6_6136 := sf_ltL (Int32.not_le.mp c6144) Bx6_6136 B6143
                  refine pm_R_lo pm_M125 (pc_q := 74) rfl rfl rfl ?_
                  obtain ⟨lo6150, fi6151, av6152, ah6153, an6154, kl6155, B6156, B6157, eS6158⟩ := id (X_6136 _ hk nn)
                  have nn6159 : cl_NN ck h_6136 b := ⟨lo6150, fi6151, av6152, ah6153, an6154, kl6155, B6156, B6157, eS6158⟩
                  refine pm_R_get pm_M125 (pc_q := 77) (v := .int an6154) rfl rfl eS6158 (G.ge hk (by decide)) (T_6136.al hk (by decide)) rfl rfl ?_
                  refine pm_R_op pm_M125 (pc_q := 78) (st_q := [.int (-1), .int an6154]) rfl rfl rfl ?_
                  refine pm_R_icmp pm_M125 (t := 153) (pc_q := 81) rfl rfl rfl (fun c6160 => ?_) (fun c6160 => ?_)
                  · have B6161 : sf_B 0 11109 an6154 := sf_neL0 c6160 sf_kn1 B6157
                    refine sf_R_iinc pm_M125 (pc_q := 156) (ls_q := fun z => [.ref b, .int a0, .int a1, .ref 31, .ref 38, .int z, .int x6_6136, g7_6136]) (pm_q125_1 (Nat.le_of_ble_eq_true rfl)) B5212 rfl (by decide) (by decide) (by decide) (fun _ => rfl) rfl (fun z6162 e6163 B6164 => ?_)
                    show pm_R _ 125 156 [.ref b, .int a0, .int a1, .ref 31, .ref 38, .int z6162, .int x6_6136, g7_6136] [] _ _
                    refine pm_R_br pm_M125 (pc_q := 39) (pm_q125_1 (Nat.le_of_ble_eq_true rfl)) rfl ?_
                    exact ih_5196 _ (sf_up hN_5196 e6163 B5212 (by decide) (by decide)) h_6136 m_6136 z6162 (.int x6_6136) (g7_6136) T_6136 F_6136 W6140 (sf_weak B6164 (by decide) (by decide)) rfl Cg7_6136 X_6136 rfl
                  · have B6165 : sf_B (-1) (-1) an6154 := sf_eqL (Classical.not_not.mp c6160) sf_kn1
                    refine pm_R_stat pm_M125 (pc_q := 84) rfl rfl rfl ?_
                    refine pm_R_lo pm_M125 (pc_q := 86) rfl rfl rfl ?_
                    obtain ⟨z6166, ez6167⟩ : ∃ y, pm_sv6.getD (Int32.toNatClampNeg x5_5196) 0 = y := ⟨_, rfl⟩
                    have B6168 : sf_B 0 1110 z6166 := ez6167 ▸ cl_tab (l := pm_sv6) (a := 0) (b := 1110) B5212 (by decide) (by decide)
                    refine pm_R_iald pm_M125 (pc_q := 87) (v := z6166) rfl ((T_6136.old (by decide)).trans G.tb6) (T_6136.lt (by decide)) (sf_in B5212 (by decide) (by decide)) ez6167 rfl ?_
                    refine pm_R_lo pm_M125 (pc_q := 89) rfl rfl rfl ?_
                    refine sf_R_iadd pm_M125 (pc_q := 90) rfl rfl B6168 B6149 (by decide) (by decide) (fun z6169 e6170 B6171 => ?_)
                    refine pm_R_lo pm_M125 (pc_q := 92) (ls_q := [.ref b, .int a0, .int a1, .ref 31, .ref 38, .int x5_5196, .int x6_6136, .int z6169]) (st_q := []) rfl rfl rfl ?_
                    refine pm_R_lo pm_M125 (pc_q := 93) rfl rfl rfl ?_
                    refine pm_R_get pm_M125 (pc_q := 96) (v := .ref (b + 4)) rfl rfl eS6158 (G.ge hk (by decide)) (T_6136.al hk (by decide)) rfl rfl ?_
                    refine pm_R_lo pm_M125 (pc_q := 98) rfl rfl rfl ?_
                    obtain ⟨f6175, e6176⟩ := T_6136.D.2.2.2.2.2.2.2 _ (G.s25 hk).2.2.2
                    obtain ⟨z6172, ez6173⟩ : ∃ y, f6175 (Int32.toNatClampNeg z6169) = y := ⟨_, rfl⟩
                    refine pm_R_bald pm_M125 (pc_q := 99) (v := z6172) rfl e6176 (Or.inl rfl) (G.ge (G.s25 hk).2.2.2 (by decide)) (T_6136.al (G.s25 hk).2.2.2 (by decide)) (sf_in B6171 (by decide) (by decide)) ez6173 rfl ?_
                    refine pm_R_lo pm_M125 (pc_q := 100) rfl rfl rfl ?_
                    refine pm_R_icmp pm_M125 (t := 147) (pc_q := 103) rfl rfl rfl (fun c6177 => ?_) (fun c6177 => ?_)
                    · skip
                      refine sf_R_iinc pm_M125 (pc_q := 150) (ls_q := fun z => [.ref b, .int a0, .int a1, .ref 31, .ref 38, .int x5_5196, .int z, .int z6169]) (pm_q125_1 (Nat.le_of_ble_eq_true rfl)) B6149 rfl (by decide) (by decide) (by decide) (fun _ => rfl) rfl (fun z6178 e6179 B6180 => ?_)
                      show pm_R _ 125 150 [.ref b, .int a0, .int a1, .ref 31, .ref 38, .int x5_5196, .int z6178, .int z6169] [] _ _
                      refine pm_R_br pm_M125 (pc_q := 62) (pm_q125_1 (Nat.le_of_ble_eq_true rfl)) rfl ?_
                      exact ih_6136 _ (sf_up hN_6136 e6179 B6149 (by decide) (by decide)) h_6136 m_6136 z6178 (.int z6169) T_6136 F_6136 W_6136 (sf_weak B6180 (by decide) (by decide)) rfl X_6136 rfl
                    · have B6181 : sf_B 0 49 z6172 := sf_eqL (Classical.not_not.mp c6177) Ba0
                      refine pm_R_lo pm_M125 (pc_q := 104) rfl rfl rfl ?_
                      refine pm_R_lo pm_M125 (pc_q := 106) rfl rfl rfl ?_
                      refine pm_R_lo pm_M125 (pc_q := 108) rfl rfl rfl ?_
                      refine pm_R_lo pm_M125 (pc_q := 109) rfl rfl rfl ?_
                      refine pm_R_op pm_M125 (pc_q := 110) (st_q := [.int 0, .int a1, .int x5_5196, .int z6169, .ref b]) rfl rfl rfl ?_
                      refine cl_R_max pm_M125 (pc_q := 113) (pm_q125_1 (Nat.le_of_ble_eq_true rfl)) rfl rfl (Nat.le_of_ble_eq_true rfl) rfl Ba1 sf_k0 (fun z6182 B6183 => ?_)
                      refine pm_R_lo pm_M125 (pc_q := 115) (pm_q125_1 (Nat.le_of_ble_eq_true rfl)) rfl rfl ?_
                      refine pm_R_cv pm_M125 (pc_q := 118) (a := b) (ra := [.ref 38, .int z6182, .int x5_5196, .int z6169]) (rest := []) (ls_q := [.ref b, .int z6169, .int x5_5196, .int z6182, .ref 38, pm_no]) (pm_q125_1 (Nat.le_of_ble_eq_true rfl)) rfl (Or.inl rfl) pm_M131 eS6158 rfl (G.ge hk (by decide)) (T_6136.al hk (by decide)) rfl rfl (Nat.le_of_ble_eq_true rfl) rfl rfl ?_
                      refine cl_c131 (d := d + 3) G T_6136 hk B6171 B5212 B6183 nn6159 (by rw [ez6167]; exact Int32.le_iff_toInt_le.mpr (cl_aux21 _ _ _ e6170 (Int.le_trans (by decide) B6149.1))) (fun m6186 h6187 T6188 F6189 W6190 X6191 => ?_)
                      have F6192 := F_6136.trans (N := 0) (S := 0) F6189 (by decide) (by decide) (by decide)
                      have W6193 : rf_W [] m m6186 := W6139.trans W6190 (by decide)
                      have W6194 : rf_W [] m m6186 := W6140.trans W6190 (by decide)
                      have W6195 : rf_W [] m5228 m6186 := W_6136.trans W6190 (by decide)
                      show pm_R _ 125 118 [.ref b, .int a0, .int a1, .ref 31, .ref 38, .int x5_5196, .int x6_6136, .int z6169] [] _ _
                      have nn6196 := X6191 _ hk nn6159
                      have NT6197 := X_6136.trans X6191
                      refine pm_R_lo pm_M125 (pc_q := 119) (pm_q125_1 (Nat.le_of_ble_eq_true rfl)) rfl rfl ?_
                      refine pm_R_lo pm_M125 (pc_q := 120) (pm_q125_1 (Nat.le_of_ble_eq_true rfl)) rfl rfl ?_
                      refine pm_R_lo pm_M125 (pc_q := 121) (pm_q125_1 (Nat.le_of_ble_eq_true rfl)) rfl rfl ?_
                      obtain ⟨lo6198, fi6199, av6200, ah6201, an6202, kl6203, B6204, B6205, eS6206⟩ := id nn6196
                      have nn6207 : cl_NN ck h6187 b := ⟨lo6198, fi6199, av6200, ah6201, an6202, kl6203, B6204, B6205, eS6206⟩
                      refine pm_R_get pm_M125 (pc_q := 124) (v := .ref lo6198) (pm_q125_1 (Nat.le_of_ble_eq_true rfl)) rfl eS6206 (G.ge hk (by decide)) (T6188.al hk (by decide)) rfl rfl ?_
                      refine pm_R_lo pm_M125 (pc_q := 126) (pm_q125_1 (Nat.le_of_ble_eq_true rfl)) rfl rfl ?_
                      refine pm_R_lo pm_M125 (pc_q := 128) (pm_q125_1 (Nat.le_of_ble_eq_true rfl)) rfl rfl ?_
                      refine pm_R_cv pm_M125 (pc_q := 131) (a := 31) (ra := [.int x5_5196, .ref 38, .ref lo6198]) (rest := [.ref b]) (ls_q := [.ref 31, .ref lo6198, .ref 38, .int x5_5196, pm_no, pm_no]) (pm_q125_1 (Nat.le_of_ble_eq_true rfl)) rfl (Or.inl rfl) pm_M100 T6188.e31 rfl (by decide) (T6188.lt (by decide)) rfl rfl (Nat.le_of_ble_eq_true rfl) rfl rfl ?_
                      refine cl_c100_g (d := d + 1) G T6188 kl6203 (fun r6208 m6210 h6211 T6212 F6213 W6214 X6215 => ?_)
                      have F6216 := F6192.trans (N := 0) (S := 0) F6213 (by decide) (by decide) (by decide)
                      have W6217 : rf_W [] m m6210 := W6193.trans W6214 (by decide)
                      have W6218 : rf_W [] m m6210 := W6194.trans W6214 (by decide)
                      have W6219 : rf_W [] m5228 m6210 := W6195.trans W6214 (by decide)
                      show pm_R _ 125 131 [.ref b, .int a0, .int a1, .ref 31, .ref 38, .int x5_5196, .int x6_6136, .int z6169] [.long r6208, .ref b] _ _
                      have U6220 := rf_G.NT G X6215 (by decide)
                      have nn6221 := cl_NT.same U6220 _ hk nn6207
                      have eS6222 := (U6220 _ hk).trans eS6206
                      have NT6223 := NT6197.trans (cl_NT.same U6220)
                      refine pm_R_op pm_M125 (pc_q := 132) (st_q := [.long 1, .long r6208, .ref b]) (pm_q125_1 (Nat.le_of_ble_eq_true rfl)) rfl rfl ?_
                      refine pm_R_lo pm_M125 (pc_q := 133) (pm_q125_1 (Nat.le_of_ble_eq_true rfl)) rfl rfl ?_
                      refine sf_R_lany pm_M125 (pc_q := 134) (st := [.long r6208, .ref b]) (pm_q125_1 (Nat.le_of_ble_eq_true rfl)) rfl rfl (fun z6224 => ?_)
                      refine sf_R_lcmp pm_M125 (pc_q := 135) (pm_q125_1 (Nat.le_of_ble_eq_true rfl)) rfl (fun z6225 e6226 => ?_)
                      refine pm_R_ifc pm_M125 (t := 143) (pc_q := 138) (pm_q125_1 (Nat.le_of_ble_eq_true rfl)) rfl rfl (fun c6227 => ?_) (fun c6227 => ?_)
                      · have k6228 := sf_lneC e6226 c6227
                        refine pm_R_op pm_M125 (pc_q := 144) (st_q := [.int (-1), .ref b]) (pm_q125_1 (Nat.le_of_ble_eq_true rfl)) rfl rfl ?_
                        refine cl_R_sput (lo := lo6198) (fi' := fi6199) (av' := av6200) (ah' := ah6201) (an' := (-1)) G pm_M125 T6212 (pc_q := 147) (pm_q125_1 (Nat.le_of_ble_eq_true rfl)) rfl rfl (by decide) rfl rfl hk eS6222 kl6203 B6204 (sf_weak sf_kn1 (by decide) (by decide)) rfl rfl (fun h6229 T6230 F6231 e6232 NT6233 => ?_)
                        have F6234 := F6216.trans (N := 0) (S := 0) F6231 (by decide) (by decide) (by decide)
                        have nn6235 := NT6233 _ hk nn6221
                        have NT6236 := NT6223.trans NT6233
                        refine sf_R_iinc pm_M125 (pc_q := 150) (ls_q := fun z => [.ref b, .int a0, .int a1, .ref 31, .ref 38, .int x5_5196, .int z, .int z6169]) (pm_q125_1 (Nat.le_of_ble_eq_true rfl)) B6149 rfl (by decide) (by decide) (by decide) (fun _ => rfl) rfl (fun z6237 e6238 B6239 => ?_)
                        show pm_R _ 125 150 [.ref b, .int a0, .int a1, .ref 31, .ref 38, .int x5_5196, .int z6237, .int z6169] [] _ _
                        refine pm_R_br pm_M125 (pc_q := 62) (pm_q125_1 (Nat.le_of_ble_eq_true rfl)) rfl ?_
                        exact ih_6136 _ (sf_up hN_6136 e6238 B6149 (by decide) (by decide)) h6229 m6210 z6237 (.int z6169) T6230 F6234 W6219 (sf_weak B6239 (by decide) (by decide)) rfl NT6236 rfl
                      · have B6240 : sf_B 0 0 z6225 := sf_eqL (Classical.not_not.mp c6227) sf_k0
                        have k6241 := lf_ge e6226 B6240 (by decide)
                        refine pm_R_lo pm_M125 (pc_q := 140) (pm_q125_1 (Nat.le_of_ble_eq_true rfl)) rfl rfl ?_
                        refine pm_R_br pm_M125 (pc_q := 144) (pm_q125_1 (Nat.le_of_ble_eq_true rfl)) rfl ?_
                        refine cl_R_sput (lo := lo6198) (fi' := fi6199) (av' := av6200) (ah' := ah6201) (an' := z6169) G pm_M125 T6212 (pc_q := 147) (pm_q125_1 (Nat.le_of_ble_eq_true rfl)) rfl rfl (by decide) rfl rfl hk eS6222 kl6203 B6204 (sf_weak B6171 (by decide) (by decide)) rfl rfl (fun h6242 T6243 F6244 e6245 NT6246 => ?_)
                        have F6247 := F6216.trans (N := 0) (S := 0) F6244 (by decide) (by decide) (by decide)
                        have nn6248 := NT6246 _ hk nn6221
                        have NT6249 := NT6223.trans NT6246
                        refine sf_R_iinc pm_M125 (pc_q := 150) (ls_q := fun z => [.ref b, .int a0, .int a1, .ref 31, .ref 38, .int x5_5196, .int z, .int z6169]) (pm_q125_1 (Nat.le_of_ble_eq_true rfl)) B6149 rfl (by decide) (by decide) (by decide) (fun _ => rfl) rfl (fun z6250 e6251 B6252 => ?_)
                        show pm_R _ 125 150 [.ref b, .int a0, .int a1, .ref 31, .ref 38, .int x5_5196, .int z6250, .int z6169] [] _ _
                        refine pm_R_br pm_M125 (pc_q := 62) (pm_q125_1 (Nat.le_of_ble_eq_true rfl)) rfl ?_
                        exact ih_6136 _ (sf_up hN_6136 e6251 B6149 (by decide) (by decide)) h6242 m6210 z6250 (.int z6169) T6243 F6247 W6219 (sf_weak B6252 (by decide) (by decide)) rfl NT6249 rfl
            exact L_6136 _ h5229 m5228 0 (g7_5196) T5230 F5234 (rf_W.refl _ _) (sf_weak sf_k0 (by decide) (by decide)) Cg7_5196 NT5238 rfl
    exact L_5196 _ h28 m 1 (pm_no) (pm_no) T29 F33 (rf_W.refl _ _) (sf_weak sf_k1 (by decide) (by decide)) rfl rfl NT35 rfl
  · have B6253 : sf_B 0 49 av3 := sf_eqL (Classical.not_not.mp c11) Ba0
    refine pm_R_lo pm_M125 (pc_q := 9) rfl rfl rfl ?_
    refine pm_R_get pm_M125 (pc_q := 12) (v := .int ah4) rfl rfl eS9 (G.ge hk (by decide)) (T.al hk (by decide)) rfl rfl ?_
    refine pm_R_lo pm_M125 (pc_q := 13) rfl rfl rfl ?_
    refine pm_R_icmp pm_M125 (t := 21) (pc_q := 16) rfl rfl rfl (fun c6254 => ?_) (fun c6254 => ?_)
    · skip
      refine pm_R_lo pm_M125 (pc_q := 22) rfl rfl rfl ?_
      refine pm_R_lo pm_M125 (pc_q := 23) rfl rfl rfl ?_
      refine cl_R_sput (lo := lo1) (fi' := fi2) (av' := a0) (ah' := ah4) (an' := an5) G pm_M125 T (pc_q := 26) rfl rfl rfl (by decide) rfl rfl hk eS9 kl6 B7 B8 rfl rfl (fun h6255 T6256 F6257 e6258 NT6259 => ?_)
      have F6260 := (cl_F.refl (ck := ck) (A := [32, 38]) (n := 0) (s := 0) T.1).trans (N := 0) (S := 0) F6257 (by decide) (by decide) (by decide)
      have nn6261 := NT6259 _ hk nn10
      have NT6262 := (cl_NT.refl ck h).trans NT6259
      refine pm_R_lo pm_M125 (pc_q := 27) rfl rfl rfl ?_
      refine pm_R_lo pm_M125 (pc_q := 28) rfl rfl rfl ?_
      refine cl_R_sput (lo := lo1) (fi' := fi2) (av' := a0) (ah' := a1) (an' := an5) G pm_M125 T6256 (pc_q := 31) rfl rfl rfl (by decide) rfl rfl hk e6258 kl6 B7 B8 rfl rfl (fun h6263 T6264 F6265 e6266 NT6267 => ?_)
      have F6268 := F6260.trans (N := 0) (S := 0) F6265 (by decide) (by decide) (by decide)
      have nn6269 := NT6267 _ hk nn6261
      have NT6270 := NT6262.trans NT6267
      refine pm_R_lo pm_M125 (pc_q := 32) rfl rfl rfl ?_
      refine pm_R_op pm_M125 (pc_q := 33) (st_q := [.int (-1), .ref b]) rfl rfl rfl ?_
      refine cl_R_sput (lo := lo1) (fi' := fi2) (av' := a0) (ah' := a1) (an' := (-1)) G pm_M125 T6264 (pc_q := 36) rfl rfl rfl (by decide) rfl rfl hk e6266 kl6 B7 (sf_weak sf_kn1 (by decide) (by decide)) rfl rfl (fun h6271 T6272 F6273 e6274 NT6275 => ?_)
      have F6276 := F6268.trans (N := 0) (S := 0) F6273 (by decide) (by decide) (by decide)
      have nn6277 := NT6275 _ hk nn6269
      have NT6278 := NT6270.trans NT6275
      refine pm_R_op pm_M125 (pc_q := 37) (st_q := [.int 1]) rfl rfl rfl ?_
      refine pm_R_lo pm_M125 (pc_q := 39) (ls_q := [.ref b, .int a0, .int a1, .ref 31, .ref 38, .int 1, pm_no, pm_no]) (st_q := []) rfl rfl rfl ?_
      have L_11439 : ∀ (N : Nat) (h_11439 : pm_H) (m_11439 : Nat → Int32) (x5_11439 : Int32) (g6_11439 : Value) (g7_11439 : Value), cl_T ck E m_11439 o h_11439 → cl_F ck [32, 38] 0 0 h h_11439 → rf_W [] m m_11439 → sf_B 1 5 x5_11439 → g6_11439.category = 1 → g7_11439.category = 1 → cl_NT ck h h_11439 → (5 - x5_11439.toInt).toNat = N → pm_R (d + 5) 125 39 [.ref b, .int a0, .int a1, .ref 31, .ref 38, .int x5_11439, g6_11439, g7_11439] [] h_11439 Q := by
        intro N
        induction N using Nat.strongRecOn with
        | ind N ih_11439 =>
          intro h_11439 m_11439 x5_11439 g6_11439 g7_11439 T_11439 F_11439 W_11439 Bx5_11439 Cg6_11439 Cg7_11439 X_11439 hN_11439
          have W11442 : rf_W [] m m_11439 := (rf_W.refl [] m).trans W_11439 (by decide)
          refine pm_R_lo pm_M125 (pc_q := 41) rfl rfl rfl ?_
          refine pm_R_op pm_M125 (pc_q := 42) (st_q := [.int 4, .int x5_11439]) rfl rfl rfl ?_
          refine pm_R_icmp pm_M125 (t := 159) (pc_q := 45) rfl rfl rfl (fun c11443 => ?_) (fun c11443 => ?_)
          · have B11444 : sf_B 5 5 x5_11439 := sf_ltR c11443 sf_k4 Bx5_11439
            refine pm_R_lo pm_M125 (pc_q := 160) (pm_q125_1 (Nat.le_of_ble_eq_true rfl)) rfl rfl ?_
            obtain ⟨lo11445, fi11446, av11447, ah11448, an11449, kl11450, B11451, B11452, eS11453⟩ := id (X_11439 _ hk nn)
            have nn11454 : cl_NN ck h_11439 b := ⟨lo11445, fi11446, av11447, ah11448, an11449, kl11450, B11451, B11452, eS11453⟩
            refine pm_R_get pm_M125 (pc_q := 163) (v := .int an11449) (pm_q125_1 (Nat.le_of_ble_eq_true rfl)) rfl eS11453 (G.ge hk (by decide)) (T_11439.al hk (by decide)) rfl rfl ?_
            exact pm_R_ret pm_M125 (r := some (.int an11449)) (pm_q125_1 (Nat.le_of_ble_eq_true rfl)) (pm_ret_i _) (K an11449 m_11439 h_11439 T_11439 F_11439 W11442 X_11439 B11452)
          · have B11455 : sf_B 1 4 x5_11439 := sf_leL (Int32.not_lt.mp c11443) Bx5_11439 sf_k4
            refine pm_R_lo pm_M125 (pc_q := 46) rfl rfl rfl ?_
            obtain ⟨lo11456, fi11457, av11458, ah11459, an11460, kl11461, B11462, B11463, eS11464⟩ := id (X_11439 _ hk nn)
            have nn11465 : cl_NN ck h_11439 b := ⟨lo11456, fi11457, av11458, ah11459, an11460, kl11461, B11462, B11463, eS11464⟩
            refine pm_R_get pm_M125 (pc_q := 49) (v := .int an11460) rfl rfl eS11464 (G.ge hk (by decide)) (T_11439.al hk (by decide)) rfl rfl ?_
            refine pm_R_op pm_M125 (pc_q := 50) (st_q := [.int (-1), .int an11460]) rfl rfl rfl ?_
            refine pm_R_icmp pm_M125 (t := 159) (pc_q := 53) rfl rfl rfl (fun c11466 => ?_) (fun c11466 => ?_)
            · have B11467 : sf_B 0 11109 an11460 := sf_neL0 c11466 sf_kn1 B11463
              refine pm_R_lo pm_M125 (pc_q := 160) (pm_q125_1 (Nat.le_of_ble_eq_true rfl)) rfl rfl ?_
              refine pm_R_get pm_M125 (pc_q := 163) (v := .int an11460) (pm_q125_1 (Nat.le_of_ble_eq_true rfl)) rfl eS11464 (G.ge hk (by decide)) (T_11439.al hk (by decide)) rfl rfl ?_
              exact pm_R_ret pm_M125 (r := some (.int an11460)) (pm_q125_1 (Nat.le_of_ble_eq_true rfl)) (pm_ret_i _) (K an11460 m_11439 h_11439 T_11439 F_11439 W11442 X_11439 B11463)
            · have B11468 : sf_B (-1) (-1) an11460 := sf_eqL (Classical.not_not.mp c11466) sf_kn1
              refine pm_R_lo pm_M125 (pc_q := 54) rfl rfl rfl ?_
              refine pm_R_lo pm_M125 (pc_q := 56) rfl rfl rfl ?_
              refine pm_R_cv pm_M125 (pc_q := 59) (a := b) (ra := [.int x5_11439]) (rest := []) (ls_q := [.ref b, .int x5_11439, pm_no]) rfl rfl (Or.inl rfl) pm_M126 eS11464 rfl (G.ge hk (by decide)) (T_11439.al hk (by decide)) rfl rfl (Nat.le_of_ble_eq_true rfl) rfl rfl ?_
              refine cl_c126 (d := d + 0) G T_11439 hk B11455 nn11465 (fun m11471 h11472 T11473 F11474 W11475 X11476 => ?_)
              have F11477 := F_11439.trans (N := 0) (S := 0) F11474 (by decide) (by decide) (by decide)
              have W11478 : rf_W [] m m11471 := W11442.trans W11475 (by decide)
              have W11479 : rf_W [] m m11471 := W_11439.trans W11475 (by decide)
              show pm_R _ 125 59 [.ref b, .int a0, .int a1, .ref 31, .ref 38, .int x5_11439, g6_11439, g7_11439] [] _ _
              have nn11480 := X11476 _ hk nn11465
              have NT11481 := X_11439.trans X11476
              refine pm_R_op pm_M125 (pc_q := 60) (st_q := [.int 0]) rfl rfl rfl ?_
              refine pm_R_lo pm_M125 (pc_q := 62) (ls_q := [.ref b, .int a0, .int a1, .ref 31, .ref 38, .int x5_11439, .int 0, g7_11439]) (st_q := []) rfl rfl rfl ?_
              have L_12379 : ∀ (N : Nat) (h_12379 : pm_H) (m_12379 : Nat → Int32) (x6_12379 : Int32) (g7_12379 : Value), cl_T ck E m_12379 o h_12379 → cl_F ck [32, 38] 0 0 h h_12379 → rf_W [] m11471 m_12379 → sf_B 0 10000 x6_12379 → g7_12379.category = 1 → cl_NT ck h h_12379 → (10000 - x6_12379.toInt).toNat = N → pm_R (d + 5) 125 62 [.ref b, .int a0, .int a1, .ref 31, .ref 38, .int x5_11439, .int x6_12379, g7_12379] [] h_12379 Q := by
                intro N
                induction N using Nat.strongRecOn with
                | ind N ih_12379 =>
                  intro h_12379 m_12379 x6_12379 g7_12379 T_12379 F_12379 W_12379 Bx6_12379 Cg7_12379 X_12379 hN_12379
                  have W12382 : rf_W [] m m_12379 := W11478.trans W_12379 (by decide)
                  have W12383 : rf_W [] m m_12379 := W11479.trans W_12379 (by decide)
                  refine pm_R_lo pm_M125 (pc_q := 64) rfl rfl rfl ?_
                  refine pm_R_stat pm_M125 (pc_q := 67) rfl rfl rfl ?_
                  refine pm_R_lo pm_M125 (pc_q := 69) rfl rfl rfl ?_
                  obtain ⟨z12384, ez12385⟩ : ∃ y, pm_sv5.getD (Int32.toNatClampNeg x5_11439) 0 = y := ⟨_, rfl⟩
                  have B12386 : sf_B 10 10000 z12384 := ez12385 ▸ cl_tab (l := pm_sv5) (a := 10) (b := 10000) B11455 (by decide) (by decide)
                  refine pm_R_iald pm_M125 (pc_q := 70) (v := z12384) rfl ((T_12379.old (by decide)).trans G.tb5) (T_12379.lt (by decide)) (sf_in B11455 (by decide) (by decide)) ez12385 rfl ?_
                  refine pm_R_icmp pm_M125 (t := 153) (pc_q := 73) rfl rfl rfl (fun c12387 => ?_) (fun c12387 => ?_)
                  · have B12388 : sf_B 10 10000 x6_12379 := sf_leR c12387 B12386 Bx6_12379
                    refine sf_R_iinc pm_M125 (pc_q := 156) (ls_q := fun z => [.ref b, .int a0, .int a1, .ref 31, .ref 38, .int z, .int x6_12379, g7_12379]) (pm_q125_1 (Nat.le_of_ble_eq_true rfl)) B11455 rfl (by decide) (by decide) (by decide) (fun _ => rfl) rfl (fun z12389 e12390 B12391 => ?_)
                    show pm_R _ 125 156 [.ref b, .int a0, .int a1, .ref 31, .ref 38, .int z12389, .int x6_12379, g7_12379] [] _ _
                    refine pm_R_br pm_M125 (pc_q := 39) (pm_q125_1 (Nat.le_of_ble_eq_true rfl)) rfl ?_
                    exact ih_11439 _ (sf_up hN_11439 e12390 B11455 (by decide) (by decide)) h_12379 m_12379 z12389 (.int x6_12379) (g7_12379) T_12379 F_12379 W12383 (sf_weak B12391 (by decide) (by decide)) rfl Cg7_12379 X_12379 rfl
                  · have B12392 : sf_B 0 9999 x6_12379 := sf_ltL (Int32.not_le.mp c12387) Bx6_12379 B12386
                    refine pm_R_lo pm_M125 (pc_q := 74) rfl rfl rfl ?_
                    obtain ⟨lo12393, fi12394, av12395, ah12396, an12397, kl12398, B12399, B12400, eS12401⟩ := id (X_12379 _ hk nn)
                    have nn12402 : cl_NN ck h_12379 b := ⟨lo12393, fi12394, av12395, ah12396, an12397, kl12398, B12399, B12400, eS12401⟩
                    refine pm_R_get pm_M125 (pc_q := 77) (v := .int an12397) rfl rfl eS12401 (G.ge hk (by decide)) (T_12379.al hk (by decide)) rfl rfl ?_
                    refine pm_R_op pm_M125 (pc_q := 78) (st_q := [.int (-1), .int an12397]) rfl rfl rfl ?_
                    refine pm_R_icmp pm_M125 (t := 153) (pc_q := 81) rfl rfl rfl (fun c12403 => ?_) (fun c12403 => ?_)
                    · have B12404 : sf_B 0 11109 an12397 := sf_neL0 c12403 sf_kn1 B12400
                      refine sf_R_iinc pm_M125 (pc_q := 156) (ls_q := fun z => [.ref b, .int a0, .int a1, .ref 31, .ref 38, .int z, .int x6_12379, g7_12379]) (pm_q125_1 (Nat.le_of_ble_eq_true rfl)) B11455 rfl (by decide) (by decide) (by decide) (fun _ => rfl) rfl (fun z12405 e12406 B12407 => ?_)
                      show pm_R _ 125 156 [.ref b, .int a0, .int a1, .ref 31, .ref 38, .int z12405, .int x6_12379, g7_12379] [] _ _
                      refine pm_R_br pm_M125 (pc_q := 39) (pm_q125_1 (Nat.le_of_ble_eq_true rfl)) rfl ?_
                      exact ih_11439 _ (sf_up hN_11439 e12406 B11455 (by decide) (by decide)) h_12379 m_12379 z12405 (.int x6_12379) (g7_12379) T_12379 F_12379 W12383 (sf_weak B12407 (by decide) (by decide)) rfl Cg7_12379 X_12379 rfl
                    · have B12408 : sf_B (-1) (-1) an12397 := sf_eqL (Classical.not_not.mp c12403) sf_kn1
                      refine pm_R_stat pm_M125 (pc_q := 84) rfl rfl rfl ?_
                      refine pm_R_lo pm_M125 (pc_q := 86) rfl rfl rfl ?_
                      obtain ⟨z12409, ez12410⟩ : ∃ y, pm_sv6.getD (Int32.toNatClampNeg x5_11439) 0 = y := ⟨_, rfl⟩
                      have B12411 : sf_B 0 1110 z12409 := ez12410 ▸ cl_tab (l := pm_sv6) (a := 0) (b := 1110) B11455 (by decide) (by decide)
                      refine pm_R_iald pm_M125 (pc_q := 87) (v := z12409) rfl ((T_12379.old (by decide)).trans G.tb6) (T_12379.lt (by decide)) (sf_in B11455 (by decide) (by decide)) ez12410 rfl ?_
                      refine pm_R_lo pm_M125 (pc_q := 89) rfl rfl rfl ?_
                      refine sf_R_iadd pm_M125 (pc_q := 90) rfl rfl B12411 B12392 (by decide) (by decide) (fun z12412 e12413 B12414 => ?_)
                      refine pm_R_lo pm_M125 (pc_q := 92) (ls_q := [.ref b, .int a0, .int a1, .ref 31, .ref 38, .int x5_11439, .int x6_12379, .int z12412]) (st_q := []) rfl rfl rfl ?_
                      refine pm_R_lo pm_M125 (pc_q := 93) rfl rfl rfl ?_
                      refine pm_R_get pm_M125 (pc_q := 96) (v := .ref (b + 4)) rfl rfl eS12401 (G.ge hk (by decide)) (T_12379.al hk (by decide)) rfl rfl ?_
                      refine pm_R_lo pm_M125 (pc_q := 98) rfl rfl rfl ?_
                      obtain ⟨f12418, e12419⟩ := T_12379.D.2.2.2.2.2.2.2 _ (G.s25 hk).2.2.2
                      obtain ⟨z12415, ez12416⟩ : ∃ y, f12418 (Int32.toNatClampNeg z12412) = y := ⟨_, rfl⟩
                      refine pm_R_bald pm_M125 (pc_q := 99) (v := z12415) rfl e12419 (Or.inl rfl) (G.ge (G.s25 hk).2.2.2 (by decide)) (T_12379.al (G.s25 hk).2.2.2 (by decide)) (sf_in B12414 (by decide) (by decide)) ez12416 rfl ?_
                      refine pm_R_lo pm_M125 (pc_q := 100) rfl rfl rfl ?_
                      refine pm_R_icmp pm_M125 (t := 147) (pc_q := 103) rfl rfl rfl (fun c12420 => ?_) (fun c12420 => ?_)
                      · skip
                        refine sf_R_iinc pm_M125 (pc_q := 150) (ls_q := fun z => [.ref b, .int a0, .int a1, .ref 31, .ref 38, .int x5_11439, .int z, .int z12412]) (pm_q125_1 (Nat.le_of_ble_eq_true rfl)) B12392 rfl (by decide) (by decide) (by decide) (fun _ => rfl) rfl (fun z12421 e12422 B12423 => ?_)
                        show pm_R _ 125 150 [.ref b, .int a0, .int a1, .ref 31, .ref 38, .int x5_11439, .int z12421, .int z12412] [] _ _
                        refine pm_R_br pm_M125 (pc_q := 62) (pm_q125_1 (Nat.le_of_ble_eq_true rfl)) rfl ?_
                        exact ih_12379 _ (sf_up hN_12379 e12422 B12392 (by decide) (by decide)) h_12379 m_12379 z12421 (.int z12412) T_12379 F_12379 W_12379 (sf_weak B12423 (by decide) (by decide)) rfl X_12379 rfl
                      · have B12424 : sf_B 0 49 z12415 := sf_eqL (Classical.not_not.mp c12420) Ba0
                        refine pm_R_lo pm_M125 (pc_q := 104) rfl rfl rfl ?_
                        refine pm_R_lo pm_M125 (pc_q := 106) rfl rfl rfl ?_
                        refine pm_R_lo pm_M125 (pc_q := 108) rfl rfl rfl ?_
                        refine pm_R_lo pm_M125 (pc_q := 109) rfl rfl rfl ?_
                        refine pm_R_op pm_M125 (pc_q := 110) (st_q := [.int 0, .int a1, .int x5_11439, .int z12412, .ref b]) rfl rfl rfl ?_
                        refine cl_R_max pm_M125 (pc_q := 113) (pm_q125_1 (Nat.le_of_ble_eq_true rfl)) rfl rfl (Nat.le_of_ble_eq_true rfl) rfl Ba1 sf_k0 (fun z12425 B12426 => ?_)
                        refine pm_R_lo pm_M125 (pc_q := 115) (pm_q125_1 (Nat.le_of_ble_eq_true rfl)) rfl rfl ?_
                        refine pm_R_cv pm_M125 (pc_q := 118) (a := b) (ra := [.ref 38, .int z12425, .int x5_11439, .int z12412]) (rest := []) (ls_q := [.ref b, .int z12412, .int x5_11439, .int z12425, .ref 38, pm_no]) (pm_q125_1 (Nat.le_of_ble_eq_true rfl)) rfl (Or.inl rfl) pm_M131 eS12401 rfl (G.ge hk (by decide)) (T_12379.al hk (by decide)) rfl rfl (Nat.le_of_ble_eq_true rfl) rfl rfl ?_
                        refine cl_c131 (d := d + 3) G T_12379 hk B12414 B11455 B12426 nn12402 (by rw [ez12410]; exact Int32.le_iff_toInt_le.mpr (cl_aux21 _ _ _ e12413 (Int.le_trans (by decide) B12392.1))) (fun m12429 h12430 T12431 F12432 W12433 X12434 => ?_)
                        have F12435 := F_12379.trans (N := 0) (S := 0) F12432 (by decide) (by decide) (by decide)
                        have W12436 : rf_W [] m m12429 := W12382.trans W12433 (by decide)
                        have W12437 : rf_W [] m m12429 := W12383.trans W12433 (by decide)
                        have W12438 : rf_W [] m11471 m12429 := W_12379.trans W12433 (by decide)
                        show pm_R _ 125 118 [.ref b, .int a0, .int a1, .ref 31, .ref 38, .int x5_11439, .int x6_12379, .int z12412] [] _ _
                        have nn12439 := X12434 _ hk nn12402
                        have NT12440 := X_12379.trans X12434
                        refine pm_R_lo pm_M125 (pc_q := 119) (pm_q125_1 (Nat.le_of_ble_eq_true rfl)) rfl rfl ?_
                        refine pm_R_lo pm_M125 (pc_q := 120) (pm_q125_1 (Nat.le_of_ble_eq_true rfl)) rfl rfl ?_
                        refine pm_R_lo pm_M125 (pc_q := 121) (pm_q125_1 (Nat.le_of_ble_eq_true rfl)) rfl rfl ?_
                        obtain ⟨lo12441, fi12442, av12443, ah12444, an12445, kl12446, B12447, B12448, eS12449⟩ := id nn12439
                        have nn12450 : cl_NN ck h12430 b := ⟨lo12441, fi12442, av12443, ah12444, an12445, kl12446, B12447, B12448, eS12449⟩
                        refine pm_R_get pm_M125 (pc_q := 124) (v := .ref lo12441) (pm_q125_1 (Nat.le_of_ble_eq_true rfl)) rfl eS12449 (G.ge hk (by decide)) (T12431.al hk (by decide)) rfl rfl ?_
                        refine pm_R_lo pm_M125 (pc_q := 126) (pm_q125_1 (Nat.le_of_ble_eq_true rfl)) rfl rfl ?_
                        refine pm_R_lo pm_M125 (pc_q := 128) (pm_q125_1 (Nat.le_of_ble_eq_true rfl)) rfl rfl ?_
                        refine pm_R_cv pm_M125 (pc_q := 131) (a := 31) (ra := [.int x5_11439, .ref 38, .ref lo12441]) (rest := [.ref b]) (ls_q := [.ref 31, .ref lo12441, .ref 38, .int x5_11439, pm_no, pm_no]) (pm_q125_1 (Nat.le_of_ble_eq_true rfl)) rfl (Or.inl rfl) pm_M100 T12431.e31 rfl (by decide) (T12431.lt (by decide)) rfl rfl (Nat.le_of_ble_eq_true rfl) rfl rfl ?_
                        refine cl_c100_g (d := d + 1) G T12431 kl12446 (fun r12451 m12453 h12454 T12455 F12456 W12457 X12458 => ?_)
                        have F12459 := F12435.trans (N := 0) (S := 0) F12456 (by decide) (by decide) (by decide)
                        have W12460 : rf_W [] m m12453 := W12436.trans W12457 (by decide)
                        have W12461 : rf_W [] m m12453 := W12437.trans W12457 (by decide)
                        have W12462 : rf_W [] m11471 m12453 := W12438.trans W12457 (by decide)
                        show pm_R _ 125 131 [.ref b, .int a0, .int a1, .ref 31, .ref 38, .int x5_11439, .int x6_12379, .int z12412] [.long r12451, .ref b] _ _
                        have U12463 := rf_G.NT G X12458 (by decide)
                        have nn12464 := cl_NT.same U12463 _ hk nn12450
                        have eS12465 := (U12463 _ hk).trans eS12449
                        have NT12466 := NT12440.trans (cl_NT.same U12463)
                        refine pm_R_op pm_M125 (pc_q := 132) (st_q := [.long 1, .long r12451, .ref b]) (pm_q125_1 (Nat.le_of_ble_eq_true rfl)) rfl rfl ?_
                        refine pm_R_lo pm_M125 (pc_q := 133) (pm_q125_1 (Nat.le_of_ble_eq_true rfl)) rfl rfl ?_
                        refine sf_R_lany pm_M125 (pc_q := 134) (st := [.long r12451, .ref b]) (pm_q125_1 (Nat.le_of_ble_eq_true rfl)) rfl rfl (fun z12467 => ?_)
                        refine sf_R_lcmp pm_M125 (pc_q := 135) (pm_q125_1 (Nat.le_of_ble_eq_true rfl)) rfl (fun z12468 e12469 => ?_)
                        refine pm_R_ifc pm_M125 (t := 143) (pc_q := 138) (pm_q125_1 (Nat.le_of_ble_eq_true rfl)) rfl rfl (fun c12470 => ?_) (fun c12470 => ?_)
                        · have k12471 := sf_lneC e12469 c12470
                          refine pm_R_op pm_M125 (pc_q := 144) (st_q := [.int (-1), .ref b]) (pm_q125_1 (Nat.le_of_ble_eq_true rfl)) rfl rfl ?_
                          refine cl_R_sput (lo := lo12441) (fi' := fi12442) (av' := av12443) (ah' := ah12444) (an' := (-1)) G pm_M125 T12455 (pc_q := 147) (pm_q125_1 (Nat.le_of_ble_eq_true rfl)) rfl rfl (by decide) rfl rfl hk eS12465 kl12446 B12447 (sf_weak sf_kn1 (by decide) (by decide)) rfl rfl (fun h12472 T12473 F12474 e12475 NT12476 => ?_)
                          have F12477 := F12459.trans (N := 0) (S := 0) F12474 (by decide) (by decide) (by decide)
                          have nn12478 := NT12476 _ hk nn12464
                          have NT12479 := NT12466.trans NT12476
                          refine sf_R_iinc pm_M125 (pc_q := 150) (ls_q := fun z => [.ref b, .int a0, .int a1, .ref 31, .ref 38, .int x5_11439, .int z, .int z12412]) (pm_q125_1 (Nat.le_of_ble_eq_true rfl)) B12392 rfl (by decide) (by decide) (by decide) (fun _ => rfl) rfl (fun z12480 e12481 B12482 => ?_)
                          show pm_R _ 125 150 [.ref b, .int a0, .int a1, .ref 31, .ref 38, .int x5_11439, .int z12480, .int z12412] [] _ _
                          refine pm_R_br pm_M125 (pc_q := 62) (pm_q125_1 (Nat.le_of_ble_eq_true rfl)) rfl ?_
                          exact ih_12379 _ (sf_up hN_12379 e12481 B12392 (by decide) (by decide)) h12472 m12453 z12480 (.int z12412) T12473 F12477 W12462 (sf_weak B12482 (by decide) (by decide)) rfl NT12479 rfl
                        · have B12483 : sf_B 0 0 z12468 := sf_eqL (Classical.not_not.mp c12470) sf_k0
                          have k12484 := lf_ge e12469 B12483 (by decide)
                          refine pm_R_lo pm_M125 (pc_q := 140) (pm_q125_1 (Nat.le_of_ble_eq_true rfl)) rfl rfl ?_
                          refine pm_R_br pm_M125 (pc_q := 144) (pm_q125_1 (Nat.le_of_ble_eq_true rfl)) rfl ?_
                          refine cl_R_sput (lo := lo12441) (fi' := fi12442) (av' := av12443) (ah' := ah12444) (an' := z12412) G pm_M125 T12455 (pc_q := 147) (pm_q125_1 (Nat.le_of_ble_eq_true rfl)) rfl rfl (by decide) rfl rfl hk eS12465 kl12446 B12447 (sf_weak B12414 (by decide) (by decide)) rfl rfl (fun h12485 T12486 F12487 e12488 NT12489 => ?_)
                          have F12490 := F12459.trans (N := 0) (S := 0) F12487 (by decide) (by decide) (by decide)
                          have nn12491 := NT12489 _ hk nn12464
                          have NT12492 := NT12466.trans NT12489
                          refine sf_R_iinc pm_M125 (pc_q := 150) (ls_q := fun z => [.ref b, .int a0, .int a1, .ref 31, .ref 38, .int x5_11439, .int z, .int z12412]) (pm_q125_1 (Nat.le_of_ble_eq_true rfl)) B12392 rfl (by decide) (by decide) (by decide) (fun _ => rfl) rfl (fun z12493 e12494 B12495 => ?_)
                          show pm_R _ 125 150 [.ref b, .int a0, .int a1, .ref 31, .ref 38, .int x5_11439, .int z12493, .int z12412] [] _ _
                          refine pm_R_br pm_M125 (pc_q := 62) (pm_q125_1 (Nat.le_of_ble_eq_true rfl)) rfl ?_
                          exact ih_12379 _ (sf_up hN_12379 e12494 B12392 (by decide) (by decide)) h12485 m12453 z12493 (.int z12412) T12486 F12490 W12462 (sf_weak B12495 (by decide) (by decide)) rfl NT12492 rfl
              exact L_12379 _ h11472 m11471 0 (g7_11439) T11473 F11477 (rf_W.refl _ _) (sf_weak sf_k0 (by decide) (by decide)) Cg7_11439 NT11481 rfl
      exact L_11439 _ h6271 m 1 (pm_no) (pm_no) T6272 F6276 (rf_W.refl _ _) (sf_weak sf_k1 (by decide) (by decide)) rfl rfl NT6278 rfl
    · have B12496 : sf_B (-1) 9 ah4 := sf_eqL (Classical.not_not.mp c6254) Ba1
      refine pm_R_lo pm_M125 (pc_q := 17) rfl rfl rfl ?_
      refine pm_R_get pm_M125 (pc_q := 20) (v := .int an5) rfl rfl eS9 (G.ge hk (by decide)) (T.al hk (by decide)) rfl rfl ?_
      exact pm_R_ret pm_M125 (r := some (.int an5)) rfl (pm_ret_i _) (K an5 m h T (cl_F.refl (ck := ck) (A := [32, 38]) (n := 0) (s := 0) T.1) (rf_W.refl [] m) (cl_NT.refl ck h) B8)

set_option maxRecDepth 100000 in
set_option maxHeartbeats 4000000 in
/-- SilentTable$ShortRows.firstUnlike -/
theorem cl_c136 {d : Nat} {ck : cl_K} {E : Nat → pm_E} {m : Nat → Int32} {o : Nat → Option Nat} {h : pm_H} {Q : Option Value → pm_H → Prop} {b : Nat} {a0 : Nat} (G : cl_G ck E) (T : cl_T ck E m o h) (hk : ck b = 24) (hk0 : ck a0 = 24) (nn : cl_NN ck h b) (nn0 : cl_NN ck h a0) (K : ∀ (r : Int32) (m_q : Nat → Int32) (h_q : pm_H), cl_T ck E m_q o h_q → cl_F ck [] 0 0 h h_q → rf_W [] m m_q → cl_NT ck h h_q → sf_B (-1) 1109 r → Q (some (.int r)) h_q) : pm_R (d + 5) 136 0 [.ref b, .ref a0, pm_no, pm_no, pm_no] [] h Q := by
  refine pm_R_op pm_M136 (pc_q := 1) (st_q := [.int 1]) rfl rfl rfl ?_
  refine pm_R_lo pm_M136 (pc_q := 2) (ls_q := [.ref b, .ref a0, .int 1, pm_no, pm_no]) (st_q := []) rfl rfl rfl ?_
  have L_2447 : ∀ (N : Nat) (h_2447 : pm_H) (m_2447 : Nat → Int32) (x2_2447 : Int32) (g3_2447 : Value) (g4_2447 : Value), cl_T ck E m_2447 o h_2447 → cl_F ck [] 0 0 h h_2447 → rf_W [] m m_2447 → sf_B 1 4 x2_2447 → g3_2447.category = 1 → g4_2447.category = 1 → cl_NT ck h h_2447 → (4 - x2_2447.toInt).toNat = N → pm_R (d + 5) 136 2 [.ref b, .ref a0, .int x2_2447, g3_2447, g4_2447] [] h_2447 Q := by
    intro N
    induction N using Nat.strongRecOn with
    | ind N ih_2447 =>
      intro h_2447 m_2447 x2_2447 g3_2447 g4_2447 T_2447 F_2447 W_2447 Bx2_2447 Cg3_2447 Cg4_2447 X_2447 hN_2447
      have W2450 : rf_W [] m m_2447 := (rf_W.refl [] m).trans W_2447 (by decide)
      refine pm_R_lo pm_M136 (pc_q := 3) rfl rfl rfl ?_
      refine pm_R_op pm_M136 (pc_q := 4) (st_q := [.int 3, .int x2_2447]) rfl rfl rfl ?_
      refine pm_R_icmp pm_M136 (t := 76) (pc_q := 7) rfl rfl rfl (fun c2451 => ?_) (fun c2451 => ?_)
      · have B2452 : sf_B 4 4 x2_2447 := sf_ltR c2451 sf_k3 Bx2_2447
        refine pm_R_op pm_M136 (pc_q := 77) (st_q := [.int (-1)]) rfl rfl rfl ?_
        exact pm_R_ret pm_M136 (r := some (.int (-1))) rfl rfl (K (-1) m_2447 h_2447 T_2447 F_2447 W2450 X_2447 (sf_weak sf_kn1 (by decide) (by decide)))
      · have B2453 : sf_B 1 3 x2_2447 := sf_leL (Int32.not_lt.mp c2451) Bx2_2447 sf_k3
        refine pm_R_lo pm_M136 (pc_q := 8) rfl rfl rfl ?_
        refine pm_R_lo pm_M136 (pc_q := 9) rfl rfl rfl ?_
        obtain ⟨lo2454, fi2455, av2456, ah2457, an2458, kl2459, B2460, B2461, eS2462⟩ := id (X_2447 _ hk nn)
        have nn2463 : cl_NN ck h_2447 b := ⟨lo2454, fi2455, av2456, ah2457, an2458, kl2459, B2460, B2461, eS2462⟩
        refine pm_R_cv pm_M136 (pc_q := 12) (a := b) (ra := [.int x2_2447]) (rest := []) (ls_q := [.ref b, .int x2_2447, pm_no]) rfl rfl (Or.inl rfl) pm_M126 eS2462 rfl (G.ge hk (by decide)) (T_2447.al hk (by decide)) rfl rfl (Nat.le_of_ble_eq_true rfl) rfl rfl ?_
        refine cl_c126 (d := d + 0) G T_2447 hk (sf_weak B2453 (by decide) (by decide)) nn2463 (fun m2466 h2467 T2468 F2469 W2470 X2471 => ?_)
        have F2472 := F_2447.trans (N := 0) (S := 0) F2469 (by decide) (by decide) (by decide)
        have W2473 : rf_W [] m m2466 := W2450.trans W2470 (by decide)
        have W2474 : rf_W [] m m2466 := W_2447.trans W2470 (by decide)
        show pm_R _ 136 12 [.ref b, .ref a0, .int x2_2447, g3_2447, g4_2447] [] _ _
        have nn2475 := X2471 _ hk nn2463
        have nn2476 := X2471 _ hk0 (X_2447 _ hk0 nn0)
        have NT2477 := X_2447.trans X2471
        refine pm_R_lo pm_M136 (pc_q := 13) rfl rfl rfl ?_
        refine pm_R_lo pm_M136 (pc_q := 14) rfl rfl rfl ?_
        obtain ⟨lo2478, fi2479, av2480, ah2481, an2482, kl2483, B2484, B2485, eS2486⟩ := id nn2476
        have nn2487 : cl_NN ck h2467 a0 := ⟨lo2478, fi2479, av2480, ah2481, an2482, kl2483, B2484, B2485, eS2486⟩
        refine pm_R_cv pm_M136 (pc_q := 17) (a := a0) (ra := [.int x2_2447]) (rest := []) (ls_q := [.ref a0, .int x2_2447, pm_no]) rfl rfl (Or.inl rfl) pm_M126 eS2486 rfl (G.ge hk0 (by decide)) (T2468.al hk0 (by decide)) rfl rfl (Nat.le_of_ble_eq_true rfl) rfl rfl ?_
        refine cl_c126 (d := d + 0) G T2468 hk0 (sf_weak B2453 (by decide) (by decide)) nn2487 (fun m2490 h2491 T2492 F2493 W2494 X2495 => ?_)
        have F2496 := F2472.trans (N := 0) (S := 0) F2493 (by decide) (by decide) (by decide)
        have W2497 : rf_W [] m m2490 := W2473.trans W2494 (by decide)
        have W2498 : rf_W [] m m2490 := W2474.trans W2494 (by decide)
        show pm_R _ 136 17 [.ref b, .ref a0, .int x2_2447, g3_2447, g4_2447] [] _ _
        have nn2499 := X2495 _ hk nn2475
        have nn2500 := X2495 _ hk0 nn2487
        have NT2501 := NT2477.trans X2495
        refine pm_R_op pm_M136 (pc_q := 18) (st_q := [.int 0]) rfl rfl rfl ?_
        refine pm_R_lo pm_M136 (pc_q := 19) (ls_q := [.ref b, .ref a0, .int x2_2447, .int 0, g4_2447]) (st_q := []) rfl rfl rfl ?_
        have L_2975 : ∀ (N : Nat) (h_2975 : pm_H) (m_2975 : Nat → Int32) (x3_2975 : Int32) (g4_2975 : Value), cl_T ck E m_2975 o h_2975 → cl_F ck [] 0 0 h h_2975 → rf_W [] m2490 m_2975 → sf_B 0 1000 x3_2975 → g4_2975.category = 1 → cl_NT ck h h_2975 → (1000 - x3_2975.toInt).toNat = N → pm_R (d + 5) 136 19 [.ref b, .ref a0, .int x2_2447, .int x3_2975, g4_2975] [] h_2975 Q := by
          intro N
          induction N using Nat.strongRecOn with
          | ind N ih_2975 =>
            intro h_2975 m_2975 x3_2975 g4_2975 T_2975 F_2975 W_2975 Bx3_2975 Cg4_2975 X_2975 hN_2975
            have W2978 : rf_W [] m m_2975 := W2497.trans W_2975 (by decide)
            have W2979 : rf_W [] m m_2975 := W2498.trans W_2975 (by decide)
            refine pm_R_lo pm_M136 (pc_q := 20) rfl rfl rfl ?_
            refine pm_R_stat pm_M136 (pc_q := 23) rfl rfl rfl ?_
            refine pm_R_lo pm_M136 (pc_q := 24) rfl rfl rfl ?_
            obtain ⟨z2980, ez2981⟩ : ∃ y, pm_sv5.getD (Int32.toNatClampNeg x2_2447) 0 = y := ⟨_, rfl⟩
            have B2982 : sf_B 10 1000 z2980 := ez2981 ▸ cl_tab (l := pm_sv5) (a := 10) (b := 1000) B2453 (by decide) (by decide)
            refine pm_R_iald pm_M136 (pc_q := 25) (v := z2980) rfl ((T_2975.old (by decide)).trans G.tb5) (T_2975.lt (by decide)) (sf_in B2453 (by decide) (by decide)) ez2981 rfl ?_
            refine pm_R_icmp pm_M136 (t := 70) (pc_q := 28) rfl rfl rfl (fun c2983 => ?_) (fun c2983 => ?_)
            · have B2984 : sf_B 10 1000 x3_2975 := sf_leR c2983 B2982 Bx3_2975
              refine sf_R_iinc pm_M136 (pc_q := 73) (ls_q := fun z => [.ref b, .ref a0, .int z, .int x3_2975, g4_2975]) rfl B2453 rfl (by decide) (by decide) (by decide) (fun _ => rfl) rfl (fun z2985 e2986 B2987 => ?_)
              show pm_R _ 136 73 [.ref b, .ref a0, .int z2985, .int x3_2975, g4_2975] [] _ _
              refine pm_R_br pm_M136 (pc_q := 2) rfl rfl ?_
              exact ih_2447 _ (sf_up hN_2447 e2986 B2453 (by decide) (by decide)) h_2975 m_2975 z2985 (.int x3_2975) (g4_2975) T_2975 F_2975 W2979 (sf_weak B2987 (by decide) (by decide)) rfl Cg4_2975 X_2975 rfl
            · have B2988 : sf_B 0 999 x3_2975 := sf_ltL (Int32.not_le.mp c2983) Bx3_2975 B2982
              refine pm_R_stat pm_M136 (pc_q := 31) rfl rfl rfl ?_
              refine pm_R_lo pm_M136 (pc_q := 32) rfl rfl rfl ?_
              obtain ⟨z2989, ez2990⟩ : ∃ y, pm_sv6.getD (Int32.toNatClampNeg x2_2447) 0 = y := ⟨_, rfl⟩
              have B2991 : sf_B 0 110 z2989 := ez2990 ▸ cl_tab (l := pm_sv6) (a := 0) (b := 110) B2453 (by decide) (by decide)
              refine pm_R_iald pm_M136 (pc_q := 33) (v := z2989) rfl ((T_2975.old (by decide)).trans G.tb6) (T_2975.lt (by decide)) (sf_in B2453 (by decide) (by decide)) ez2990 rfl ?_
              refine pm_R_lo pm_M136 (pc_q := 34) rfl rfl rfl ?_
              refine sf_R_iadd pm_M136 (pc_q := 35) rfl rfl B2991 B2988 (by decide) (by decide) (fun z2992 e2993 B2994 => ?_)
              refine pm_R_lo pm_M136 (pc_q := 37) (ls_q := [.ref b, .ref a0, .int x2_2447, .int x3_2975, .int z2992]) (st_q := []) rfl rfl rfl ?_
              refine pm_R_lo pm_M136 (pc_q := 38) rfl rfl rfl ?_
              obtain ⟨lo2995, fi2996, av2997, ah2998, an2999, kl3000, B3001, B3002, eS3003⟩ := id (X_2975 _ hk nn)
              have nn3004 : cl_NN ck h_2975 b := ⟨lo2995, fi2996, av2997, ah2998, an2999, kl3000, B3001, B3002, eS3003⟩
              refine pm_R_get pm_M136 (pc_q := 41) (v := .ref (b + 2)) rfl rfl eS3003 (G.ge hk (by decide)) (T_2975.al hk (by decide)) rfl rfl ?_
              refine pm_R_lo pm_M136 (pc_q := 43) rfl rfl rfl ?_
              refine pm_R_op pm_M136 (pc_q := 45) (st_q := [.int 6, .int z2992, .ref (b + 2)]) rfl rfl rfl ?_
              refine sf_R_imul pm_M136 (pc_q := 46) rfl rfl B2994 sf_k6 (by decide) (by decide) (by decide) (fun z3005 e3006 B3007 => ?_)
              obtain ⟨f3011, e3012⟩ := T_2975.D.2.2.2.2.2.1 _ (G.s25 hk).2.1
              obtain ⟨z3008, ez3009⟩ : ∃ y, f3011 (Int32.toNatClampNeg z3005) = y := ⟨_, rfl⟩
              refine pm_R_lald pm_M136 (pc_q := 47) (v := z3008) rfl e3012 (G.ge (G.s25 hk).2.1 (by decide)) (T_2975.al (G.s25 hk).2.1 (by decide)) (sf_in B3007 (by decide) (by decide)) ez3009 rfl ?_
              refine pm_R_lo pm_M136 (pc_q := 48) rfl rfl rfl ?_
              obtain ⟨lo3013, fi3014, av3015, ah3016, an3017, kl3018, B3019, B3020, eS3021⟩ := id (X_2975 _ hk0 nn0)
              have nn3022 : cl_NN ck h_2975 a0 := ⟨lo3013, fi3014, av3015, ah3016, an3017, kl3018, B3019, B3020, eS3021⟩
              refine pm_R_get pm_M136 (pc_q := 51) (v := .ref (a0 + 2)) rfl rfl eS3021 (G.ge hk0 (by decide)) (T_2975.al hk0 (by decide)) rfl rfl ?_
              refine pm_R_lo pm_M136 (pc_q := 53) rfl rfl rfl ?_
              refine pm_R_op pm_M136 (pc_q := 55) (st_q := [.int 6, .int z2992, .ref (a0 + 2), .long z3008]) rfl rfl rfl ?_
              refine sf_R_imulV pm_M136 (pc_q := 56) rfl rfl B2994 sf_k6 (by decide) (by decide) (by decide) e3006 ?_
              obtain ⟨f3026, e3027⟩ := T_2975.D.2.2.2.2.2.1 _ (G.s25 hk0).2.1
              obtain ⟨z3023, ez3024⟩ : ∃ y, f3026 (Int32.toNatClampNeg z3005) = y := ⟨_, rfl⟩
              refine pm_R_lald pm_M136 (pc_q := 57) (v := z3023) rfl e3027 (G.ge (G.s25 hk0).2.1 (by decide)) (T_2975.al (G.s25 hk0).2.1 (by decide)) (sf_in B3007 (by decide) (by decide)) ez3024 rfl ?_
              refine sf_R_lcmp pm_M136 (pc_q := 58) rfl rfl (fun z3028 e3029 => ?_)
              refine pm_R_ifc pm_M136 (t := 64) (pc_q := 61) rfl rfl rfl (fun c3030 => ?_) (fun c3030 => ?_)
              · have B3031 : sf_B 0 0 z3028 := sf_eqL c3030 sf_k0
                have k3032 := lf_ge e3029 B3031 (by decide)
                refine sf_R_iinc pm_M136 (pc_q := 67) (ls_q := fun z => [.ref b, .ref a0, .int x2_2447, .int z, .int z2992]) rfl B2988 rfl (by decide) (by decide) (by decide) (fun _ => rfl) rfl (fun z3033 e3034 B3035 => ?_)
                show pm_R _ 136 67 [.ref b, .ref a0, .int x2_2447, .int z3033, .int z2992] [] _ _
                refine pm_R_br pm_M136 (pc_q := 19) rfl rfl ?_
                exact ih_2975 _ (sf_up hN_2975 e3034 B2988 (by decide) (by decide)) h_2975 m_2975 z3033 (.int z2992) T_2975 F_2975 W_2975 (sf_weak B3035 (by decide) (by decide)) rfl X_2975 rfl
              · have k3036 := sf_lneC e3029 c3030
                refine pm_R_lo pm_M136 (pc_q := 63) rfl rfl rfl ?_
                exact pm_R_ret pm_M136 (r := some (.int z2992)) rfl (pm_ret_i _) (K z2992 m_2975 h_2975 T_2975 F_2975 W2978 X_2975 (sf_weak B2994 (by decide) (by decide)))
        exact L_2975 _ h2491 m2490 0 (g4_2447) T2492 F2496 (rf_W.refl _ _) (sf_weak sf_k0 (by decide) (by decide)) Cg4_2447 NT2501 rfl
  exact L_2447 _ h m 1 (pm_no) (pm_no) T (cl_F.refl (ck := ck) (A := []) (n := 0) (s := 0) T.1) (rf_W.refl _ _) (sf_weak sf_k1 (by decide) (by decide)) rfl rfl (cl_NT.refl ck h) rfl

theorem cl_aux22 (v0 v1 v2 v3 v4 : Int) (q0 : v0 = v1 - 1) (q1 : v2 = v3 - 1) (q2 : v4 = v0 - v2) (q3 : v3 ≤ v1) : 0 ≤ v4 := by omega
set_option maxRecDepth 100000 in
set_option maxHeartbeats 4000000 in
/-- SilentTable.brief -/
theorem cl_c121 {d : Nat} {ck : cl_K} {E : Nat → pm_E} {m : Nat → Int32} {o : Nat → Option Nat} {h : pm_H} {Q : Option Value → pm_H → Prop} {a0 : Int32} {a1 : Int32} {a2 : Int32} {a3 : Int32} (G : cl_G ck E) (T : cl_T ck E m o h)  (K : ∀ (r : Int32) (m_q : Nat → Int32) (h_q : pm_H), cl_T ck E m_q o h_q → cl_F ck [32, 37, 38] 5 24466 h h_q → rf_W [] m m_q → Q (some (.int r)) h_q) (K2 : ∀ (r : Int32) (m_q : Nat → Int32) (o_q : Nat → Option Nat) (ck_q : cl_K) (h_q : pm_H), (∀ b, b < h.1 → ck_q b = ck b) → cl_G ck_q E → cl_T ck_q E m_q o_q h_q → cl_F ck [32, 37, 38] 5 24466 h h_q → rf_W [] m m_q → Q (some (.int r)) h_q) : pm_R (d + 6) 121 0 [.ref 16, .int a0, .int a1, .int a2, .int a3] [] h Q := by
  refine pm_R_lo pm_M121 (pc_q := 1) rfl rfl rfl ?_
  refine pm_R_lo pm_M121 (pc_q := 2) rfl rfl rfl ?_
  refine pm_R_cv pm_M121 (pc_q := 5) (a := 16) (ra := [.int a0]) (rest := []) (ls_q := [.ref 16, .int a0]) rfl rfl (Or.inl rfl) pm_M62 T.e16 rfl (by decide) (T.lt (by decide)) rfl rfl (Nat.le_of_ble_eq_true rfl) rfl rfl ?_
  refine pm_R_lo pm_M62 (pc_q := 1) rfl rfl rfl ?_
  refine pm_R_ifc pm_M62 (t := 17) (pc_q := 4) rfl rfl rfl (fun c1 => ?_) (fun c1 => ?_)
  · have B2 : sf_B (-2147483648) (-1) a0 := sf_ltL c1 (sf_any a0) sf_k0
    refine pm_R_op pm_M62 (pc_q := 18) (st_q := [.null]) rfl rfl rfl ?_
    refine pm_R_br pm_M62 (pc_q := 30) rfl rfl ?_
    refine pm_R_ret pm_M62 (r := some (.null)) rfl rfl ?_
    show pm_R _ 121 5 [.ref 16, .int a0, .int a1, .int a2, .int a3] [.null] _ _
    refine pm_R_br pm_M121 (pc_q := 27) rfl rfl ?_
    refine pm_R_op pm_M121 (pc_q := 28) (st_q := [.int (-1)]) rfl rfl rfl ?_
    exact pm_R_ret pm_M121 (r := some (.int (-1))) rfl rfl (K (-1) m h T ((cl_F.refl (ck := ck) (A := [32, 37, 38]) (n := 0) (s := 0) T.1).weak (by decide) (by decide)) (rf_W.refl [] m))
  · have B3 : sf_B 0 2147483647 a0 := sf_leR (Int32.not_lt.mp c1) sf_k0 (sf_any a0)
    refine pm_R_lo pm_M62 (pc_q := 5) rfl rfl rfl ?_
    refine pm_R_lo pm_M62 (pc_q := 6) rfl rfl rfl ?_
    refine pm_R_get pm_M62 (pc_q := 9) (v := .ref 17) rfl rfl T.e16 (by decide) (T.lt (by decide)) rfl rfl ?_
    refine pm_R_get pm_M62 (pc_q := 12) (v := .ref 23) rfl rfl T.e17 (by decide) (T.lt (by decide)) rfl rfl ?_
    refine pm_R_op pm_M62 (pc_q := 13) (st_q := [.int 0, .ref 23, .int a0]) rfl rfl rfl ?_
    obtain ⟨f7, e8, b9⟩ := T.C 23 (by decide) (by decide)
    obtain ⟨z4, ez5⟩ : ∃ y, f7 (Int32.toNatClampNeg 0) = y := ⟨_, rfl⟩
    have B6 : sf_B 0 2 z4 := ez5 ▸ (b9 0)
    refine pm_R_iald pm_M62 (pc_q := 14) (v := z4) rfl e8 (T.lt (by decide)) rfl ez5 rfl ?_
    refine pm_R_icmp pm_M62 (t := 21) (pc_q := 17) rfl rfl rfl (fun c10 => ?_) (fun c10 => ?_)
    · have B11 : sf_B 0 1 a0 := sf_ltL c10 B3 B6
      have B12 : sf_B 1 2 z4 := sf_ltR c10 B3 B6
      refine pm_R_lo pm_M62 (pc_q := 22) rfl rfl rfl ?_
      refine pm_R_get pm_M62 (pc_q := 25) (v := .ref 17) rfl rfl T.e16 (by decide) (T.lt (by decide)) rfl rfl ?_
      refine pm_R_get pm_M62 (pc_q := 28) (v := .ref 19) rfl rfl T.e17 (by decide) (T.lt (by decide)) rfl rfl ?_
      refine pm_R_lo pm_M62 (pc_q := 29) rfl rfl rfl ?_
      obtain ⟨f13, e14, b15⟩ := T.C 19 (by decide) (by decide)
      obtain ⟨l16, hx17⟩ := cl_there0 T e8 e14 ez5 c10 B11 (by decide)
      have hk18 := b15 _ _ hx17
      refine pm_R_aald pm_M62 (pc_q := 30) (v := .ref l16) rfl e14 (by decide) (by decide) (by decide) (T.lt (by decide)) (sf_in B11 (by decide) (by decide)) (by rw [hx17]; rfl) rfl ?_
      refine pm_R_ret pm_M62 (r := some (.ref l16)) rfl rfl ?_
      show pm_R _ 121 5 [.ref 16, .int a0, .int a1, .int a2, .int a3] [.ref l16] _ _
      refine pm_R_br pm_M121 (pc_q := 8) rfl rfl ?_
      refine pm_R_lo pm_M121 (pc_q := 9) rfl rfl rfl ?_
      refine pm_R_cs pm_M121 (pc_q := 12) (ra := [.int a1]) (rest := []) (ls_q := [.int a1]) rfl rfl (Or.inl rfl) pm_M82 rfl rfl (Nat.le_of_ble_eq_true rfl) rfl rfl ?_
      refine pm_R_lo pm_M82 (pc_q := 1) rfl rfl rfl ?_
      refine pm_R_ifc pm_M82 (t := 14) (pc_q := 4) rfl rfl rfl (fun c19 => ?_) (fun c19 => ?_)
      · have B20 : sf_B (-2147483648) (-1) a1 := sf_ltL c19 (sf_any a1) sf_k0
        refine pm_R_op pm_M82 (pc_q := 15) (st_q := [.int 0]) rfl rfl rfl ?_
        refine pm_R_ret pm_M82 (r := some (.int 0)) rfl rfl ?_
        show pm_R _ 121 12 [.ref 16, .int a0, .int a1, .int a2, .int a3] [.int 0] _ _
        refine pm_R_br pm_M121 (pc_q := 27) (st_q := []) rfl rfl ?_
        refine pm_R_op pm_M121 (pc_q := 28) (st_q := [.int (-1)]) rfl rfl rfl ?_
        exact pm_R_ret pm_M121 (r := some (.int (-1))) rfl rfl (K (-1) m h T ((cl_F.refl (ck := ck) (A := [32, 37, 38]) (n := 0) (s := 0) T.1).weak (by decide) (by decide)) (rf_W.refl [] m))
      · have B21 : sf_B 0 2147483647 a1 := sf_leR (Int32.not_lt.mp c19) sf_k0 (sf_any a1)
        refine pm_R_lo pm_M82 (pc_q := 5) rfl rfl rfl ?_
        refine pm_R_op pm_M82 (pc_q := 7) (st_q := [.int 50, .int a1]) rfl rfl rfl ?_
        refine pm_R_icmp pm_M82 (t := 14) (pc_q := 10) rfl rfl rfl (fun c22 => ?_) (fun c22 => ?_)
        · have B23 : sf_B 50 2147483647 a1 := sf_leR c22 sf_k50 B21
          refine pm_R_op pm_M82 (pc_q := 15) (st_q := [.int 0]) rfl rfl rfl ?_
          refine pm_R_ret pm_M82 (r := some (.int 0)) rfl rfl ?_
          show pm_R _ 121 12 [.ref 16, .int a0, .int a1, .int a2, .int a3] [.int 0] _ _
          refine pm_R_br pm_M121 (pc_q := 27) (st_q := []) rfl rfl ?_
          refine pm_R_op pm_M121 (pc_q := 28) (st_q := [.int (-1)]) rfl rfl rfl ?_
          exact pm_R_ret pm_M121 (r := some (.int (-1))) rfl rfl (K (-1) m h T ((cl_F.refl (ck := ck) (A := [32, 37, 38]) (n := 0) (s := 0) T.1).weak (by decide) (by decide)) (rf_W.refl [] m))
        · have B24 : sf_B 0 49 a1 := sf_ltL (Int32.not_le.mp c22) B21 sf_k50
          refine pm_R_op pm_M82 (pc_q := 11) (st_q := [.int 1]) rfl rfl rfl ?_
          refine pm_R_br pm_M82 (pc_q := 15) rfl rfl ?_
          refine pm_R_ret pm_M82 (r := some (.int 1)) rfl rfl ?_
          show pm_R _ 121 12 [.ref 16, .int a0, .int a1, .int a2, .int a3] [.int 1] _ _
          refine pm_R_br pm_M121 (pc_q := 15) (st_q := []) rfl rfl ?_
          refine pm_R_lo pm_M121 (pc_q := 16) rfl rfl rfl ?_
          refine pm_R_op pm_M121 (pc_q := 17) (st_q := [.int (-1), .int a2]) rfl rfl rfl ?_
          refine pm_R_icmp pm_M121 (t := 29) (pc_q := 20) rfl rfl rfl (fun c25 => ?_) (fun c25 => ?_)
          · have B26 : sf_B (-1) (-1) a2 := sf_eqL c25 sf_kn1
            refine pm_R_lo pm_M121 (pc_q := 30) rfl rfl rfl ?_
            refine pm_R_lo pm_M121 (pc_q := 31) rfl rfl rfl ?_
            refine pm_R_cv pm_M121 (pc_q := 34) (a := 16) (ra := [.int a0]) (rest := []) (ls_q := [.ref 16, .int a0]) rfl rfl (Or.inl rfl) pm_M122 T.e16 rfl (by decide) (T.lt (by decide)) rfl rfl (Nat.le_of_ble_eq_true rfl) rfl rfl ?_
            have F36 := (cl_F.refl (ck := ck) (A := [32, 37, 38]) (n := 0) (s := 0) T.1)
            refine cl_c122 (d := d + 4) G T (sf_in B11 (by decide) (by decide)) e14 hx17 hk18 (fun c27 ck h28 lt29 G T30 F31 kc32 nn33 lf34 low35 => ?_)
            have F37 := F36.ck (fun b hb => (lt29 b hb).symm) F36.2.1
            have F38 := F31.ck (fun b hb => (lt29 b hb).symm) (Nat.le_refl _)
            have gr39 := fun (b : Nat) (hb : b < h.1) => (lt29 b (Nat.lt_of_lt_of_le hb F36.2.1))
            have hk40 := (lt29 _ (T.al hk18 (by decide))).trans hk18
            have F41 := F37.trans (N := 5) (S := 24466) F38 (by decide) (by decide) (by decide)
            have e42 := (low35 19 (by decide) (by decide)).trans e14
            show pm_R _ 121 34 [.ref 16, .int a0, .int a1, .int a2, .int a3] [.ref c27] _ _
            refine pm_R_lo pm_M121 (pc_q := 35) rfl rfl rfl ?_
            refine pm_R_lo pm_M121 (pc_q := 36) rfl rfl rfl ?_
            refine pm_R_lo pm_M121 (pc_q := 37) rfl rfl rfl ?_
            refine pm_R_get pm_M121 (pc_q := 40) (v := .ref 31) rfl rfl T30.e16 (by decide) (T30.lt (by decide)) rfl rfl ?_
            refine pm_R_lo pm_M121 (pc_q := 41) rfl rfl rfl ?_
            refine pm_R_get pm_M121 (pc_q := 44) (v := .ref 38) rfl rfl T30.e16 (by decide) (T30.lt (by decide)) rfl rfl ?_
            obtain ⟨lo43, fi44, av45, ah46, an47, kl48, B49, B50, eS51⟩ := id nn33
            have nn52 : cl_NN ck h28 c27 := ⟨lo43, fi44, av45, ah46, an47, kl48, B49, B50, eS51⟩
            refine pm_R_cv pm_M121 (pc_q := 47) (a := c27) (ra := [.ref 38, .ref 31, .int a2, .int a1]) (rest := []) (ls_q := [.ref c27, .int a1, .int a2, .ref 31, .ref 38, pm_no, pm_no, pm_no]) rfl rfl (Or.inl rfl) pm_M125 eS51 rfl (G.ge kc32 (by decide)) (T30.al kc32 (by decide)) rfl rfl (Nat.le_of_ble_eq_true rfl) rfl rfl ?_
            refine cl_c125 (d := d + 0) G T30 kc32 B24 (sf_weak B26 (by decide) (by decide)) nn52 (fun r53 m55 h56 T57 F58 W59 X60 B54 => ?_)
            have F61 := F41.trans (N := 5) (S := 24466) F58 (by decide) (by decide) (by decide)
            have W62 : rf_W [] m m55 := (rf_W.refl [] m).trans W59 (by decide)
            show pm_R _ 121 47 [.ref 16, .int a0, .int a1, .int a2, .int a3] [.int r53] _ _
            have nn63 := X60 _ kc32 nn52
            refine pm_R_lo pm_M121 (pc_q := 49) rfl rfl rfl ?_
            refine pm_R_cs pm_M121 (pc_q := 52) (ra := [.int a3, .int r53]) (rest := []) (ls_q := [.int r53, .int a3, pm_no]) rfl rfl (Or.inl rfl) pm_M133 rfl rfl (Nat.le_of_ble_eq_true rfl) rfl rfl ?_
            refine pm_R_lo pm_M133 (pc_q := 1) rfl rfl rfl ?_
            refine pm_R_op pm_M133 (pc_q := 2) (st_q := [.int (-1), .int r53]) rfl rfl rfl ?_
            refine pm_R_icmp pm_M133 (t := 9) (pc_q := 5) rfl rfl rfl (fun c64 => ?_) (fun c64 => ?_)
            · have B65 : sf_B (-1) (-1) r53 := sf_eqL c64 sf_kn1
              refine pm_R_op pm_M133 (pc_q := 10) (st_q := [.int (-1)]) rfl rfl rfl ?_
              refine pm_R_ret pm_M133 (r := some (.int (-1))) rfl rfl ?_
              show pm_R _ 121 52 [.ref 16, .int a0, .int a1, .int a2, .int a3] [.int (-1)] _ _
              exact pm_R_ret pm_M121 (r := some (.int (-1))) rfl rfl (K2 (-1) m55 o ck h56 gr39 G T57 (F61.ck gr39 (Nat.le_refl _)) W62)
            · have B66 : sf_B 0 11109 r53 := sf_neL0 c64 sf_kn1 B54
              refine pm_R_lo pm_M133 (pc_q := 6) rfl rfl rfl ?_
              refine pm_R_ifc pm_M133 (t := 11) (pc_q := 9) rfl rfl rfl (fun c67 => ?_) (fun c67 => ?_)
              · have B68 : sf_B 0 2147483647 a3 := sf_leR c67 sf_k0 (sf_any a3)
                refine pm_R_lo pm_M133 (pc_q := 12) rfl rfl rfl ?_
                refine pm_R_cs pm_M133 (pc_q := 15) (ra := [.int r53]) (rest := []) (ls_q := [.int r53, pm_no]) rfl rfl (Or.inl rfl) pm_M134 rfl rfl (Nat.le_of_ble_eq_true rfl) rfl rfl ?_
                refine cl_c134 (d := d + 4) G T57 B66 (fun r69 B70 => ?_)
                show pm_R _ 133 15 [.int r53, .int a3, pm_no] [.int r69] _ _
                refine pm_R_lo pm_M133 (pc_q := 16) (ls_q := [.int r53, .int a3, .int r69]) (st_q := []) rfl rfl rfl ?_
                refine pm_R_lo pm_M133 (pc_q := 17) rfl rfl rfl ?_
                refine pm_R_ifc pm_M133 (t := 22) (pc_q := 20) rfl rfl rfl (fun c76 => ?_) (fun c76 => ?_)
                · have B77 : sf_B 1 2147483647 a3 := sf_neL0 c76 sf_k0 B68
                  refine pm_R_lo pm_M133 (pc_q := 23) rfl rfl rfl ?_
                  refine pm_R_lo pm_M133 (pc_q := 24) rfl rfl rfl ?_
                  refine pm_R_icmp pm_M133 (t := 38) (pc_q := 27) rfl rfl rfl (fun c78 => ?_) (fun c78 => ?_)
                  · have B79 : sf_B 2 2147483647 a3 := sf_ltR c78 B70 B77
                    refine pm_R_op pm_M133 (pc_q := 39) (st_q := [.int (-1)]) rfl rfl rfl ?_
                    refine pm_R_ret pm_M133 (r := some (.int (-1))) rfl rfl ?_
                    show pm_R _ 121 52 [.ref 16, .int a0, .int a1, .int a2, .int a3] [.int (-1)] _ _
                    exact pm_R_ret pm_M121 (r := some (.int (-1))) rfl rfl (K2 (-1) m55 o ck h56 gr39 G T57 (F61.ck gr39 (Nat.le_refl _)) W62)
                  · have B80 : sf_B 1 4 a3 := sf_leL (Int32.not_lt.mp c78) B77 B70
                    refine pm_R_lo pm_M133 (pc_q := 28) rfl rfl rfl ?_
                    refine pm_R_lo pm_M133 (pc_q := 29) rfl rfl rfl ?_
                    refine pm_R_lo pm_M133 (pc_q := 30) rfl rfl rfl ?_
                    refine pm_R_op pm_M133 (pc_q := 31) (st_q := [.int 1, .int a3, .int r69, .int r53]) rfl rfl rfl ?_
                    refine sf_R_isub pm_M133 (pc_q := 32) rfl rfl B80 sf_k1 (by decide) (by decide) (fun z81 e82 B83 => ?_)
                    refine pm_R_cs pm_M133 (pc_q := 35) (ra := [.int z81, .int r69, .int r53]) (rest := []) (ls_q := [.int r53, .int r69, .int z81]) rfl rfl (Or.inl rfl) pm_M132 rfl rfl (Nat.le_of_ble_eq_true rfl) rfl rfl ?_
                    refine pm_R_lo pm_M132 (pc_q := 1) rfl rfl rfl ?_
                    refine pm_R_stat pm_M132 (pc_q := 4) rfl rfl rfl ?_
                    refine pm_R_lo pm_M132 (pc_q := 5) rfl rfl rfl ?_
                    obtain ⟨z84, ez85⟩ : ∃ y, pm_sv6.getD (Int32.toNatClampNeg r69) 0 = y := ⟨_, rfl⟩
                    have B86 : sf_B 0 1110 z84 := ez85 ▸ cl_tab (l := pm_sv6) (a := 0) (b := 1110) B70 (by decide) (by decide)
                    refine pm_R_iald pm_M132 (pc_q := 6) (v := z84) rfl ((T57.old (by decide)).trans G.tb6) (T57.lt (by decide)) (sf_in B70 (by decide) (by decide)) ez85 rfl ?_
                    refine sf_R_isub pm_M132 (pc_q := 7) rfl rfl B66 B86 (by decide) (by decide) (fun z87 e88 B89 => ?_)
                    refine pm_R_stat pm_M132 (pc_q := 10) rfl rfl rfl ?_
                    refine pm_R_lo pm_M132 (pc_q := 11) rfl rfl rfl ?_
                    refine pm_R_op pm_M132 (pc_q := 12) (st_q := [.int 1, .int r69, .ref 5, .int z87]) rfl rfl rfl ?_
                    refine sf_R_isub pm_M132 (pc_q := 13) rfl rfl B70 sf_k1 (by decide) (by decide) (fun z90 e91 B92 => ?_)
                    refine pm_R_lo pm_M132 (pc_q := 14) rfl rfl rfl ?_
                    refine sf_R_isub pm_M132 (pc_q := 15) rfl rfl B92 B83 (by decide) (by decide) (fun z93 e94 B95 => ?_)
                    have B99 : sf_B 0 3 z93 := ⟨(cl_aux22 _ _ _ _ _ e91 e82 e94 (Int32.le_iff_toInt_le.mp (Int32.not_lt.mp c78))), B95.2⟩
                    obtain ⟨z96, ez97⟩ : ∃ y, pm_sv5.getD (Int32.toNatClampNeg z93) 0 = y := ⟨_, rfl⟩
                    have B98 : sf_B 1 1000 z96 := ez97 ▸ cl_tab (l := pm_sv5) (a := 1) (b := 1000) B99 (by decide) (by decide)
                    refine pm_R_iald pm_M132 (pc_q := 16) (v := z96) rfl ((T57.old (by decide)).trans G.tb5) (T57.lt (by decide)) (sf_in B99 (by decide) (by decide)) ez97 rfl ?_
                    refine sf_R_idivA pm_M132 (pc_q := 17) rfl rfl (sf_neq1 B98 sf_k0 (by decide)) (fun z100 => ?_)
                    refine pm_R_op pm_M132 (pc_q := 19) (st_q := [.int 10, .int z100]) rfl rfl rfl ?_
                    refine sf_R_iremA pm_M132 (pc_q := 20) rfl rfl (sf_neq1 sf_k10 sf_k0 (by decide)) (fun z103 => ?_)
                    refine pm_R_ret pm_M132 (r := some (.int z103)) rfl (pm_ret_i _) ?_
                    show pm_R _ 133 35 [.int r53, .int a3, .int r69] [.int z103] _ _
                    refine pm_R_br pm_M133 (pc_q := 39) rfl rfl ?_
                    refine pm_R_ret pm_M133 (r := some (.int z103)) rfl (pm_ret_i _) ?_
                    show pm_R _ 121 52 [.ref 16, .int a0, .int a1, .int a2, .int a3] [.int z103] _ _
                    exact pm_R_ret pm_M121 (r := some (.int z103)) rfl (pm_ret_i _) (K2 z103 m55 o ck h56 gr39 G T57 (F61.ck gr39 (Nat.le_refl _)) W62)
                · have B106 : sf_B 0 0 a3 := sf_eqL (Classical.not_not.mp c76) sf_k0
                  refine pm_R_lo pm_M133 (pc_q := 21) rfl rfl rfl ?_
                  refine pm_R_ret pm_M133 (r := some (.int r69)) rfl (pm_ret_i _) ?_
                  show pm_R _ 121 52 [.ref 16, .int a0, .int a1, .int a2, .int a3] [.int r69] _ _
                  exact pm_R_ret pm_M121 (r := some (.int r69)) rfl (pm_ret_i _) (K2 r69 m55 o ck h56 gr39 G T57 (F61.ck gr39 (Nat.le_refl _)) W62)
              · have B107 : sf_B (-2147483648) (-1) a3 := sf_ltL (Int32.not_le.mp c67) (sf_any a3) sf_k0
                refine pm_R_op pm_M133 (pc_q := 10) (st_q := [.int (-1)]) rfl rfl rfl ?_
                refine pm_R_ret pm_M133 (r := some (.int (-1))) rfl rfl ?_
                show pm_R _ 121 52 [.ref 16, .int a0, .int a1, .int a2, .int a3] [.int (-1)] _ _
                exact pm_R_ret pm_M121 (r := some (.int (-1))) rfl rfl (K2 (-1) m55 o ck h56 gr39 G T57 (F61.ck gr39 (Nat.le_refl _)) W62)
          · skip
            refine pm_R_lo pm_M121 (pc_q := 21) rfl rfl rfl ?_
            refine pm_R_cs pm_M121 (pc_q := 24) (ra := [.int a2]) (rest := []) (ls_q := [.int a2]) rfl rfl (Or.inl rfl) pm_M110 rfl rfl (Nat.le_of_ble_eq_true rfl) rfl rfl ?_
            refine pm_R_lo pm_M110 (pc_q := 1) rfl rfl rfl ?_
            refine pm_R_ifc pm_M110 (t := 14) (pc_q := 4) rfl rfl rfl (fun c108 => ?_) (fun c108 => ?_)
            · have B109 : sf_B (-2147483648) (-1) a2 := sf_ltL c108 (sf_any a2) sf_k0
              refine pm_R_op pm_M110 (pc_q := 15) (st_q := [.int 0]) rfl rfl rfl ?_
              refine pm_R_ret pm_M110 (r := some (.int 0)) rfl rfl ?_
              show pm_R _ 121 24 [.ref 16, .int a0, .int a1, .int a2, .int a3] [.int 0] _ _
              refine pm_R_br pm_M121 (pc_q := 27) (st_q := []) rfl rfl ?_
              refine pm_R_op pm_M121 (pc_q := 28) (st_q := [.int (-1)]) rfl rfl rfl ?_
              exact pm_R_ret pm_M121 (r := some (.int (-1))) rfl rfl (K (-1) m h T ((cl_F.refl (ck := ck) (A := [32, 37, 38]) (n := 0) (s := 0) T.1).weak (by decide) (by decide)) (rf_W.refl [] m))
            · have B110 : sf_B 0 2147483647 a2 := sf_leR (Int32.not_lt.mp c108) sf_k0 (sf_any a2)
              refine pm_R_lo pm_M110 (pc_q := 5) rfl rfl rfl ?_
              refine pm_R_op pm_M110 (pc_q := 7) (st_q := [.int 9, .int a2]) rfl rfl rfl ?_
              refine pm_R_icmp pm_M110 (t := 14) (pc_q := 10) rfl rfl rfl (fun c111 => ?_) (fun c111 => ?_)
              · have B112 : sf_B 10 2147483647 a2 := sf_ltR c111 sf_k9 B110
                refine pm_R_op pm_M110 (pc_q := 15) (st_q := [.int 0]) rfl rfl rfl ?_
                refine pm_R_ret pm_M110 (r := some (.int 0)) rfl rfl ?_
                show pm_R _ 121 24 [.ref 16, .int a0, .int a1, .int a2, .int a3] [.int 0] _ _
                refine pm_R_br pm_M121 (pc_q := 27) (st_q := []) rfl rfl ?_
                refine pm_R_op pm_M121 (pc_q := 28) (st_q := [.int (-1)]) rfl rfl rfl ?_
                exact pm_R_ret pm_M121 (r := some (.int (-1))) rfl rfl (K (-1) m h T ((cl_F.refl (ck := ck) (A := [32, 37, 38]) (n := 0) (s := 0) T.1).weak (by decide) (by decide)) (rf_W.refl [] m))
              · have B113 : sf_B 0 9 a2 := sf_leL (Int32.not_lt.mp c111) B110 sf_k9
                refine pm_R_op pm_M110 (pc_q := 11) (st_q := [.int 1]) rfl rfl rfl ?_
                refine pm_R_br pm_M110 (pc_q := 15) rfl rfl ?_
                refine pm_R_ret pm_M110 (r := some (.int 1)) rfl rfl ?_
                show pm_R _ 121 24 [.ref 16, .int a0, .int a1, .int a2, .int a3] [.int 1] _ _
                refine pm_R_br pm_M121 (pc_q := 29) (st_q := []) rfl rfl ?_
                refine pm_R_lo pm_M121 (pc_q := 30) rfl rfl rfl ?_
                refine pm_R_lo pm_M121 (pc_q := 31) rfl rfl rfl ?_
                refine pm_R_cv pm_M121 (pc_q := 34) (a := 16) (ra := [.int a0]) (rest := []) (ls_q := [.ref 16, .int a0]) rfl rfl (Or.inl rfl) pm_M122 T.e16 rfl (by decide) (T.lt (by decide)) rfl rfl (Nat.le_of_ble_eq_true rfl) rfl rfl ?_
                have F123 := (cl_F.refl (ck := ck) (A := [32, 37, 38]) (n := 0) (s := 0) T.1)
                refine cl_c122 (d := d + 4) G T (sf_in B11 (by decide) (by decide)) e14 hx17 hk18 (fun c114 ck h115 lt116 G T117 F118 kc119 nn120 lf121 low122 => ?_)
                have F124 := F123.ck (fun b hb => (lt116 b hb).symm) F123.2.1
                have F125 := F118.ck (fun b hb => (lt116 b hb).symm) (Nat.le_refl _)
                have gr126 := fun (b : Nat) (hb : b < h.1) => (lt116 b (Nat.lt_of_lt_of_le hb F123.2.1))
                have hk127 := (lt116 _ (T.al hk18 (by decide))).trans hk18
                have F128 := F124.trans (N := 5) (S := 24466) F125 (by decide) (by decide) (by decide)
                have e129 := (low122 19 (by decide) (by decide)).trans e14
                show pm_R _ 121 34 [.ref 16, .int a0, .int a1, .int a2, .int a3] [.ref c114] _ _
                refine pm_R_lo pm_M121 (pc_q := 35) rfl rfl rfl ?_
                refine pm_R_lo pm_M121 (pc_q := 36) rfl rfl rfl ?_
                refine pm_R_lo pm_M121 (pc_q := 37) rfl rfl rfl ?_
                refine pm_R_get pm_M121 (pc_q := 40) (v := .ref 31) rfl rfl T117.e16 (by decide) (T117.lt (by decide)) rfl rfl ?_
                refine pm_R_lo pm_M121 (pc_q := 41) rfl rfl rfl ?_
                refine pm_R_get pm_M121 (pc_q := 44) (v := .ref 38) rfl rfl T117.e16 (by decide) (T117.lt (by decide)) rfl rfl ?_
                obtain ⟨lo130, fi131, av132, ah133, an134, kl135, B136, B137, eS138⟩ := id nn120
                have nn139 : cl_NN ck h115 c114 := ⟨lo130, fi131, av132, ah133, an134, kl135, B136, B137, eS138⟩
                refine pm_R_cv pm_M121 (pc_q := 47) (a := c114) (ra := [.ref 38, .ref 31, .int a2, .int a1]) (rest := []) (ls_q := [.ref c114, .int a1, .int a2, .ref 31, .ref 38, pm_no, pm_no, pm_no]) rfl rfl (Or.inl rfl) pm_M125 eS138 rfl (G.ge kc119 (by decide)) (T117.al kc119 (by decide)) rfl rfl (Nat.le_of_ble_eq_true rfl) rfl rfl ?_
                refine cl_c125 (d := d + 0) G T117 kc119 B24 (sf_weak B113 (by decide) (by decide)) nn139 (fun r140 m142 h143 T144 F145 W146 X147 B141 => ?_)
                have F148 := F128.trans (N := 5) (S := 24466) F145 (by decide) (by decide) (by decide)
                have W149 : rf_W [] m m142 := (rf_W.refl [] m).trans W146 (by decide)
                show pm_R _ 121 47 [.ref 16, .int a0, .int a1, .int a2, .int a3] [.int r140] _ _
                have nn150 := X147 _ kc119 nn139
                refine pm_R_lo pm_M121 (pc_q := 49) rfl rfl rfl ?_
                refine pm_R_cs pm_M121 (pc_q := 52) (ra := [.int a3, .int r140]) (rest := []) (ls_q := [.int r140, .int a3, pm_no]) rfl rfl (Or.inl rfl) pm_M133 rfl rfl (Nat.le_of_ble_eq_true rfl) rfl rfl ?_
                refine pm_R_lo pm_M133 (pc_q := 1) rfl rfl rfl ?_
                refine pm_R_op pm_M133 (pc_q := 2) (st_q := [.int (-1), .int r140]) rfl rfl rfl ?_
                refine pm_R_icmp pm_M133 (t := 9) (pc_q := 5) rfl rfl rfl (fun c151 => ?_) (fun c151 => ?_)
                · have B152 : sf_B (-1) (-1) r140 := sf_eqL c151 sf_kn1
                  refine pm_R_op pm_M133 (pc_q := 10) (st_q := [.int (-1)]) rfl rfl rfl ?_
                  refine pm_R_ret pm_M133 (r := some (.int (-1))) rfl rfl ?_
                  show pm_R _ 121 52 [.ref 16, .int a0, .int a1, .int a2, .int a3] [.int (-1)] _ _
                  exact pm_R_ret pm_M121 (r := some (.int (-1))) rfl rfl (K2 (-1) m142 o ck h143 gr126 G T144 (F148.ck gr126 (Nat.le_refl _)) W149)
                · have B153 : sf_B 0 11109 r140 := sf_neL0 c151 sf_kn1 B141
                  refine pm_R_lo pm_M133 (pc_q := 6) rfl rfl rfl ?_
                  refine pm_R_ifc pm_M133 (t := 11) (pc_q := 9) rfl rfl rfl (fun c154 => ?_) (fun c154 => ?_)
                  · have B155 : sf_B 0 2147483647 a3 := sf_leR c154 sf_k0 (sf_any a3)
                    refine pm_R_lo pm_M133 (pc_q := 12) rfl rfl rfl ?_
                    refine pm_R_cs pm_M133 (pc_q := 15) (ra := [.int r140]) (rest := []) (ls_q := [.int r140, pm_no]) rfl rfl (Or.inl rfl) pm_M134 rfl rfl (Nat.le_of_ble_eq_true rfl) rfl rfl ?_
                    refine cl_c134 (d := d + 4) G T144 B153 (fun r156 B157 => ?_)
                    show pm_R _ 133 15 [.int r140, .int a3, pm_no] [.int r156] _ _
                    refine pm_R_lo pm_M133 (pc_q := 16) (ls_q := [.int r140, .int a3, .int r156]) (st_q := []) rfl rfl rfl ?_
                    refine pm_R_lo pm_M133 (pc_q := 17) rfl rfl rfl ?_
                    refine pm_R_ifc pm_M133 (t := 22) (pc_q := 20) rfl rfl rfl (fun c163 => ?_) (fun c163 => ?_)
                    · have B164 : sf_B 1 2147483647 a3 := sf_neL0 c163 sf_k0 B155
                      refine pm_R_lo pm_M133 (pc_q := 23) rfl rfl rfl ?_
                      refine pm_R_lo pm_M133 (pc_q := 24) rfl rfl rfl ?_
                      refine pm_R_icmp pm_M133 (t := 38) (pc_q := 27) rfl rfl rfl (fun c165 => ?_) (fun c165 => ?_)
                      · have B166 : sf_B 2 2147483647 a3 := sf_ltR c165 B157 B164
                        refine pm_R_op pm_M133 (pc_q := 39) (st_q := [.int (-1)]) rfl rfl rfl ?_
                        refine pm_R_ret pm_M133 (r := some (.int (-1))) rfl rfl ?_
                        show pm_R _ 121 52 [.ref 16, .int a0, .int a1, .int a2, .int a3] [.int (-1)] _ _
                        exact pm_R_ret pm_M121 (r := some (.int (-1))) rfl rfl (K2 (-1) m142 o ck h143 gr126 G T144 (F148.ck gr126 (Nat.le_refl _)) W149)
                      · have B167 : sf_B 1 4 a3 := sf_leL (Int32.not_lt.mp c165) B164 B157
                        refine pm_R_lo pm_M133 (pc_q := 28) rfl rfl rfl ?_
                        refine pm_R_lo pm_M133 (pc_q := 29) rfl rfl rfl ?_
                        refine pm_R_lo pm_M133 (pc_q := 30) rfl rfl rfl ?_
                        refine pm_R_op pm_M133 (pc_q := 31) (st_q := [.int 1, .int a3, .int r156, .int r140]) rfl rfl rfl ?_
                        refine sf_R_isub pm_M133 (pc_q := 32) rfl rfl B167 sf_k1 (by decide) (by decide) (fun z168 e169 B170 => ?_)
                        refine pm_R_cs pm_M133 (pc_q := 35) (ra := [.int z168, .int r156, .int r140]) (rest := []) (ls_q := [.int r140, .int r156, .int z168]) rfl rfl (Or.inl rfl) pm_M132 rfl rfl (Nat.le_of_ble_eq_true rfl) rfl rfl ?_
                        refine pm_R_lo pm_M132 (pc_q := 1) rfl rfl rfl ?_
                        refine pm_R_stat pm_M132 (pc_q := 4) rfl rfl rfl ?_
                        refine pm_R_lo pm_M132 (pc_q := 5) rfl rfl rfl ?_
                        obtain ⟨z171, ez172⟩ : ∃ y, pm_sv6.getD (Int32.toNatClampNeg r156) 0 = y := ⟨_, rfl⟩
                        have B173 : sf_B 0 1110 z171 := ez172 ▸ cl_tab (l := pm_sv6) (a := 0) (b := 1110) B157 (by decide) (by decide)
                        refine pm_R_iald pm_M132 (pc_q := 6) (v := z171) rfl ((T144.old (by decide)).trans G.tb6) (T144.lt (by decide)) (sf_in B157 (by decide) (by decide)) ez172 rfl ?_
                        refine sf_R_isub pm_M132 (pc_q := 7) rfl rfl B153 B173 (by decide) (by decide) (fun z174 e175 B176 => ?_)
                        refine pm_R_stat pm_M132 (pc_q := 10) rfl rfl rfl ?_
                        refine pm_R_lo pm_M132 (pc_q := 11) rfl rfl rfl ?_
                        refine pm_R_op pm_M132 (pc_q := 12) (st_q := [.int 1, .int r156, .ref 5, .int z174]) rfl rfl rfl ?_
                        refine sf_R_isub pm_M132 (pc_q := 13) rfl rfl B157 sf_k1 (by decide) (by decide) (fun z177 e178 B179 => ?_)
                        refine pm_R_lo pm_M132 (pc_q := 14) rfl rfl rfl ?_
                        refine sf_R_isub pm_M132 (pc_q := 15) rfl rfl B179 B170 (by decide) (by decide) (fun z180 e181 B182 => ?_)
                        have B186 : sf_B 0 3 z180 := ⟨(cl_aux22 _ _ _ _ _ e178 e169 e181 (Int32.le_iff_toInt_le.mp (Int32.not_lt.mp c165))), B182.2⟩
                        obtain ⟨z183, ez184⟩ : ∃ y, pm_sv5.getD (Int32.toNatClampNeg z180) 0 = y := ⟨_, rfl⟩
                        have B185 : sf_B 1 1000 z183 := ez184 ▸ cl_tab (l := pm_sv5) (a := 1) (b := 1000) B186 (by decide) (by decide)
                        refine pm_R_iald pm_M132 (pc_q := 16) (v := z183) rfl ((T144.old (by decide)).trans G.tb5) (T144.lt (by decide)) (sf_in B186 (by decide) (by decide)) ez184 rfl ?_
                        refine sf_R_idivA pm_M132 (pc_q := 17) rfl rfl (sf_neq1 B185 sf_k0 (by decide)) (fun z187 => ?_)
                        refine pm_R_op pm_M132 (pc_q := 19) (st_q := [.int 10, .int z187]) rfl rfl rfl ?_
                        refine sf_R_iremA pm_M132 (pc_q := 20) rfl rfl (sf_neq1 sf_k10 sf_k0 (by decide)) (fun z190 => ?_)
                        refine pm_R_ret pm_M132 (r := some (.int z190)) rfl (pm_ret_i _) ?_
                        show pm_R _ 133 35 [.int r140, .int a3, .int r156] [.int z190] _ _
                        refine pm_R_br pm_M133 (pc_q := 39) rfl rfl ?_
                        refine pm_R_ret pm_M133 (r := some (.int z190)) rfl (pm_ret_i _) ?_
                        show pm_R _ 121 52 [.ref 16, .int a0, .int a1, .int a2, .int a3] [.int z190] _ _
                        exact pm_R_ret pm_M121 (r := some (.int z190)) rfl (pm_ret_i _) (K2 z190 m142 o ck h143 gr126 G T144 (F148.ck gr126 (Nat.le_refl _)) W149)
                    · have B193 : sf_B 0 0 a3 := sf_eqL (Classical.not_not.mp c163) sf_k0
                      refine pm_R_lo pm_M133 (pc_q := 21) rfl rfl rfl ?_
                      refine pm_R_ret pm_M133 (r := some (.int r156)) rfl (pm_ret_i _) ?_
                      show pm_R _ 121 52 [.ref 16, .int a0, .int a1, .int a2, .int a3] [.int r156] _ _
                      exact pm_R_ret pm_M121 (r := some (.int r156)) rfl (pm_ret_i _) (K2 r156 m142 o ck h143 gr126 G T144 (F148.ck gr126 (Nat.le_refl _)) W149)
                  · have B194 : sf_B (-2147483648) (-1) a3 := sf_ltL (Int32.not_le.mp c154) (sf_any a3) sf_k0
                    refine pm_R_op pm_M133 (pc_q := 10) (st_q := [.int (-1)]) rfl rfl rfl ?_
                    refine pm_R_ret pm_M133 (r := some (.int (-1))) rfl rfl ?_
                    show pm_R _ 121 52 [.ref 16, .int a0, .int a1, .int a2, .int a3] [.int (-1)] _ _
                    exact pm_R_ret pm_M121 (r := some (.int (-1))) rfl rfl (K2 (-1) m142 o ck h143 gr126 G T144 (F148.ck gr126 (Nat.le_refl _)) W149)
    · skip
      refine pm_R_op pm_M62 (pc_q := 18) (st_q := [.null]) rfl rfl rfl ?_
      refine pm_R_br pm_M62 (pc_q := 30) rfl rfl ?_
      refine pm_R_ret pm_M62 (r := some (.null)) rfl rfl ?_
      show pm_R _ 121 5 [.ref 16, .int a0, .int a1, .int a2, .int a3] [.null] _ _
      refine pm_R_br pm_M121 (pc_q := 27) rfl rfl ?_
      refine pm_R_op pm_M121 (pc_q := 28) (st_q := [.int (-1)]) rfl rfl rfl ?_
      exact pm_R_ret pm_M121 (r := some (.int (-1))) rfl rfl (K (-1) m h T ((cl_F.refl (ck := ck) (A := [32, 37, 38]) (n := 0) (s := 0) T.1).weak (by decide) (by decide)) (rf_W.refl [] m))

set_option maxRecDepth 100000 in
set_option maxHeartbeats 4000000 in
/-- SilentTable.apart -/
theorem cl_c135 {d : Nat} {ck : cl_K} {E : Nat → pm_E} {m : Nat → Int32} {o : Nat → Option Nat} {h : pm_H} {Q : Option Value → pm_H → Prop} {a0 : Int32} {a1 : Int32} {a2 : Int32} (G : cl_G ck E) (T : cl_T ck E m o h)  (K : ∀ (r : Int32) (m_q : Nat → Int32) (h_q : pm_H), cl_T ck E m_q o h_q → cl_F ck [37] 10 48932 h h_q → rf_W [] m m_q → Q (some (.int r)) h_q) (K2 : ∀ (r : Int32) (m_q : Nat → Int32) (o_q : Nat → Option Nat) (ck_q : cl_K) (h_q : pm_H), (∀ b, b < h.1 → ck_q b = ck b) → cl_G ck_q E → cl_T ck_q E m_q o_q h_q → cl_F ck [37] 10 48932 h h_q → rf_W [] m m_q → Q (some (.int r)) h_q) : pm_R (d + 6) 135 0 [.ref 16, .int a0, .int a1, .int a2] [] h Q := by
  refine pm_R_lo pm_M135 (pc_q := 1) rfl rfl rfl ?_
  refine pm_R_lo pm_M135 (pc_q := 2) rfl rfl rfl ?_
  refine pm_R_cv pm_M135 (pc_q := 5) (a := 16) (ra := [.int a0]) (rest := []) (ls_q := [.ref 16, .int a0]) rfl rfl (Or.inl rfl) pm_M62 T.e16 rfl (by decide) (T.lt (by decide)) rfl rfl (Nat.le_of_ble_eq_true rfl) rfl rfl ?_
  refine pm_R_lo pm_M62 (pc_q := 1) rfl rfl rfl ?_
  refine pm_R_ifc pm_M62 (t := 17) (pc_q := 4) rfl rfl rfl (fun c1 => ?_) (fun c1 => ?_)
  · have B2 : sf_B (-2147483648) (-1) a0 := sf_ltL c1 (sf_any a0) sf_k0
    refine pm_R_op pm_M62 (pc_q := 18) (st_q := [.null]) rfl rfl rfl ?_
    refine pm_R_br pm_M62 (pc_q := 30) rfl rfl ?_
    refine pm_R_ret pm_M62 (r := some (.null)) rfl rfl ?_
    show pm_R _ 135 5 [.ref 16, .int a0, .int a1, .int a2] [.null] _ _
    refine pm_R_br pm_M135 (pc_q := 16) rfl rfl ?_
    refine pm_R_op pm_M135 (pc_q := 17) (st_q := [.int (-1)]) rfl rfl rfl ?_
    exact pm_R_ret pm_M135 (r := some (.int (-1))) rfl rfl (K (-1) m h T ((cl_F.refl (ck := ck) (A := [37]) (n := 0) (s := 0) T.1).weak (by decide) (by decide)) (rf_W.refl [] m))
  · have B3 : sf_B 0 2147483647 a0 := sf_leR (Int32.not_lt.mp c1) sf_k0 (sf_any a0)
    refine pm_R_lo pm_M62 (pc_q := 5) rfl rfl rfl ?_
    refine pm_R_lo pm_M62 (pc_q := 6) rfl rfl rfl ?_
    refine pm_R_get pm_M62 (pc_q := 9) (v := .ref 17) rfl rfl T.e16 (by decide) (T.lt (by decide)) rfl rfl ?_
    refine pm_R_get pm_M62 (pc_q := 12) (v := .ref 23) rfl rfl T.e17 (by decide) (T.lt (by decide)) rfl rfl ?_
    refine pm_R_op pm_M62 (pc_q := 13) (st_q := [.int 0, .ref 23, .int a0]) rfl rfl rfl ?_
    obtain ⟨f7, e8, b9⟩ := T.C 23 (by decide) (by decide)
    obtain ⟨z4, ez5⟩ : ∃ y, f7 (Int32.toNatClampNeg 0) = y := ⟨_, rfl⟩
    have B6 : sf_B 0 2 z4 := ez5 ▸ (b9 0)
    refine pm_R_iald pm_M62 (pc_q := 14) (v := z4) rfl e8 (T.lt (by decide)) rfl ez5 rfl ?_
    refine pm_R_icmp pm_M62 (t := 21) (pc_q := 17) rfl rfl rfl (fun c10 => ?_) (fun c10 => ?_)
    · have B11 : sf_B 0 1 a0 := sf_ltL c10 B3 B6
      have B12 : sf_B 1 2 z4 := sf_ltR c10 B3 B6
      refine pm_R_lo pm_M62 (pc_q := 22) rfl rfl rfl ?_
      refine pm_R_get pm_M62 (pc_q := 25) (v := .ref 17) rfl rfl T.e16 (by decide) (T.lt (by decide)) rfl rfl ?_
      refine pm_R_get pm_M62 (pc_q := 28) (v := .ref 19) rfl rfl T.e17 (by decide) (T.lt (by decide)) rfl rfl ?_
      refine pm_R_lo pm_M62 (pc_q := 29) rfl rfl rfl ?_
      obtain ⟨f13, e14, b15⟩ := T.C 19 (by decide) (by decide)
      obtain ⟨l16, hx17⟩ := cl_there0 T e8 e14 ez5 c10 B11 (by decide)
      have hk18 := b15 _ _ hx17
      refine pm_R_aald pm_M62 (pc_q := 30) (v := .ref l16) rfl e14 (by decide) (by decide) (by decide) (T.lt (by decide)) (sf_in B11 (by decide) (by decide)) (by rw [hx17]; rfl) rfl ?_
      refine pm_R_ret pm_M62 (r := some (.ref l16)) rfl rfl ?_
      show pm_R _ 135 5 [.ref 16, .int a0, .int a1, .int a2] [.ref l16] _ _
      refine pm_R_br pm_M135 (pc_q := 8) rfl rfl ?_
      refine pm_R_lo pm_M135 (pc_q := 9) rfl rfl rfl ?_
      refine pm_R_lo pm_M135 (pc_q := 10) rfl rfl rfl ?_
      refine pm_R_cv pm_M135 (pc_q := 13) (a := 16) (ra := [.int a1]) (rest := []) (ls_q := [.ref 16, .int a1]) rfl rfl (Or.inl rfl) pm_M62 T.e16 rfl (by decide) (T.lt (by decide)) rfl rfl (Nat.le_of_ble_eq_true rfl) rfl rfl ?_
      refine pm_R_lo pm_M62 (pc_q := 1) rfl rfl rfl ?_
      refine pm_R_ifc pm_M62 (t := 17) (pc_q := 4) rfl rfl rfl (fun c19 => ?_) (fun c19 => ?_)
      · have B20 : sf_B (-2147483648) (-1) a1 := sf_ltL c19 (sf_any a1) sf_k0
        refine pm_R_op pm_M62 (pc_q := 18) (st_q := [.null]) rfl rfl rfl ?_
        refine pm_R_br pm_M62 (pc_q := 30) rfl rfl ?_
        refine pm_R_ret pm_M62 (r := some (.null)) rfl rfl ?_
        show pm_R _ 135 13 [.ref 16, .int a0, .int a1, .int a2] [.null] _ _
        refine pm_R_br pm_M135 (pc_q := 16) rfl rfl ?_
        refine pm_R_op pm_M135 (pc_q := 17) (st_q := [.int (-1)]) rfl rfl rfl ?_
        exact pm_R_ret pm_M135 (r := some (.int (-1))) rfl rfl (K (-1) m h T ((cl_F.refl (ck := ck) (A := [37]) (n := 0) (s := 0) T.1).weak (by decide) (by decide)) (rf_W.refl [] m))
      · have B21 : sf_B 0 2147483647 a1 := sf_leR (Int32.not_lt.mp c19) sf_k0 (sf_any a1)
        refine pm_R_lo pm_M62 (pc_q := 5) rfl rfl rfl ?_
        refine pm_R_lo pm_M62 (pc_q := 6) rfl rfl rfl ?_
        refine pm_R_get pm_M62 (pc_q := 9) (v := .ref 17) rfl rfl T.e16 (by decide) (T.lt (by decide)) rfl rfl ?_
        refine pm_R_get pm_M62 (pc_q := 12) (v := .ref 23) rfl rfl T.e17 (by decide) (T.lt (by decide)) rfl rfl ?_
        refine pm_R_op pm_M62 (pc_q := 13) (st_q := [.int 0, .ref 23, .int a1]) rfl rfl rfl ?_
        refine pm_R_iald pm_M62 (pc_q := 14) (v := z4) rfl e8 (T.lt (by decide)) rfl ez5 rfl ?_
        refine pm_R_icmp pm_M62 (t := 21) (pc_q := 17) rfl rfl rfl (fun c25 => ?_) (fun c25 => ?_)
        · have B26 : sf_B 0 1 a1 := sf_ltL c25 B21 B12
          refine pm_R_lo pm_M62 (pc_q := 22) rfl rfl rfl ?_
          refine pm_R_get pm_M62 (pc_q := 25) (v := .ref 17) rfl rfl T.e16 (by decide) (T.lt (by decide)) rfl rfl ?_
          refine pm_R_get pm_M62 (pc_q := 28) (v := .ref 19) rfl rfl T.e17 (by decide) (T.lt (by decide)) rfl rfl ?_
          refine pm_R_lo pm_M62 (pc_q := 29) rfl rfl rfl ?_
          obtain ⟨l27, hx28⟩ := cl_there0 T e8 e14 ez5 c25 B26 (by decide)
          have hk29 := b15 _ _ hx28
          refine pm_R_aald pm_M62 (pc_q := 30) (v := .ref l27) rfl e14 (by decide) (by decide) (by decide) (T.lt (by decide)) (sf_in B26 (by decide) (by decide)) (by rw [hx28]; rfl) rfl ?_
          refine pm_R_ret pm_M62 (r := some (.ref l27)) rfl rfl ?_
          show pm_R _ 135 13 [.ref 16, .int a0, .int a1, .int a2] [.ref l27] _ _
          refine pm_R_br pm_M135 (pc_q := 18) rfl rfl ?_
          refine pm_R_lo pm_M135 (pc_q := 19) rfl rfl rfl ?_
          refine pm_R_lo pm_M135 (pc_q := 20) rfl rfl rfl ?_
          refine pm_R_cv pm_M135 (pc_q := 23) (a := 16) (ra := [.int a0]) (rest := []) (ls_q := [.ref 16, .int a0]) rfl rfl (Or.inl rfl) pm_M122 T.e16 rfl (by decide) (T.lt (by decide)) rfl rfl (Nat.le_of_ble_eq_true rfl) rfl rfl ?_
          have F39 := (cl_F.refl (ck := ck) (A := [37]) (n := 0) (s := 0) T.1)
          refine cl_c122 (d := d + 4) G T (sf_in B11 (by decide) (by decide)) e14 hx17 hk18 (fun c30 ck h31 lt32 G T33 F34 kc35 nn36 lf37 low38 => ?_)
          have F40 := F39.ck (fun b hb => (lt32 b hb).symm) F39.2.1
          have F41 := F34.ck (fun b hb => (lt32 b hb).symm) (Nat.le_refl _)
          have gr42 := fun (b : Nat) (hb : b < h.1) => (lt32 b (Nat.lt_of_lt_of_le hb F39.2.1))
          have hk43 := (lt32 _ (T.al hk18 (by decide))).trans hk18
          have hk44 := (lt32 _ (T.al hk29 (by decide))).trans hk29
          have F45 := F40.trans (N := 5) (S := 24466) F41 (by decide) (by decide) (by decide)
          have e46 := (low38 19 (by decide) (by decide)).trans e14
          show pm_R _ 135 23 [.ref 16, .int a0, .int a1, .int a2] [.ref c30] _ _
          refine pm_R_lo pm_M135 (pc_q := 24) rfl rfl rfl ?_
          refine pm_R_lo pm_M135 (pc_q := 25) rfl rfl rfl ?_
          refine pm_R_cv pm_M135 (pc_q := 28) (a := 16) (ra := [.int a1]) (rest := [.ref c30]) (ls_q := [.ref 16, .int a1]) rfl rfl (Or.inl rfl) pm_M122 T33.e16 rfl (by decide) (T33.lt (by decide)) rfl rfl (Nat.le_of_ble_eq_true rfl) rfl rfl ?_
          have F56 := F45
          refine cl_c122 (d := d + 4) G T33 (sf_in B26 (by decide) (by decide)) e46 hx28 hk44 (fun c47 ck h48 lt49 G T50 F51 kc52 nn53 lf54 low55 => ?_)
          have F57 := F56.ck (fun b hb => (lt49 b hb).symm) F56.2.1
          have F58 := F51.ck (fun b hb => (lt49 b hb).symm) (Nat.le_refl _)
          have gr59 := fun (b : Nat) (hb : b < h.1) => (lt49 b (Nat.lt_of_lt_of_le hb F56.2.1)).trans (gr42 b hb)
          have hk60 := (lt49 _ (T33.al kc35 (by decide))).trans kc35
          have nn61 := lf54 _ kc35 nn36
          have hk62 := (lt49 _ (T33.al hk43 (by decide))).trans hk43
          have hk63 := (lt49 _ (T33.al hk44 (by decide))).trans hk44
          have F64 := F57.trans (N := 10) (S := 48932) F58 (by decide) (by decide) (by decide)
          have e65 := (low55 19 (by decide) (by decide)).trans e46
          show pm_R _ 135 28 [.ref 16, .int a0, .int a1, .int a2] [.ref c47, .ref c30] _ _
          obtain ⟨lo66, fi67, av68, ah69, an70, kl71, B72, B73, eS74⟩ := id nn61
          have nn75 : cl_NN ck h48 c30 := ⟨lo66, fi67, av68, ah69, an70, kl71, B72, B73, eS74⟩
          refine pm_R_cv pm_M135 (pc_q := 31) (a := c30) (ra := [.ref c47]) (rest := []) (ls_q := [.ref c30, .ref c47, pm_no, pm_no, pm_no]) rfl rfl (Or.inl rfl) pm_M136 eS74 rfl (G.ge hk60 (by decide)) (T50.al hk60 (by decide)) rfl rfl (Nat.le_of_ble_eq_true rfl) rfl rfl ?_
          refine cl_c136 (d := d + 0) G T50 hk60 kc52 nn75 nn53 (fun r76 m78 h79 T80 F81 W82 X83 B77 => ?_)
          have F84 := F64.trans (N := 10) (S := 48932) F81 (by decide) (by decide) (by decide)
          have W85 : rf_W [] m m78 := (rf_W.refl [] m).trans W82 (by decide)
          show pm_R _ 135 31 [.ref 16, .int a0, .int a1, .int a2] [.int r76] _ _
          have nn86 := X83 _ hk60 nn75
          have nn87 := X83 _ kc52 nn53
          refine pm_R_lo pm_M135 (pc_q := 32) rfl rfl rfl ?_
          refine pm_R_cs pm_M135 (pc_q := 35) (ra := [.int a2, .int r76]) (rest := []) (ls_q := [.int r76, .int a2, pm_no]) rfl rfl (Or.inl rfl) pm_M133 rfl rfl (Nat.le_of_ble_eq_true rfl) rfl rfl ?_
          refine pm_R_lo pm_M133 (pc_q := 1) rfl rfl rfl ?_
          refine pm_R_op pm_M133 (pc_q := 2) (st_q := [.int (-1), .int r76]) rfl rfl rfl ?_
          refine pm_R_icmp pm_M133 (t := 9) (pc_q := 5) rfl rfl rfl (fun c88 => ?_) (fun c88 => ?_)
          · have B89 : sf_B (-1) (-1) r76 := sf_eqL c88 sf_kn1
            refine pm_R_op pm_M133 (pc_q := 10) (st_q := [.int (-1)]) rfl rfl rfl ?_
            refine pm_R_ret pm_M133 (r := some (.int (-1))) rfl rfl ?_
            show pm_R _ 135 35 [.ref 16, .int a0, .int a1, .int a2] [.int (-1)] _ _
            exact pm_R_ret pm_M135 (r := some (.int (-1))) rfl rfl (K2 (-1) m78 o ck h79 gr59 G T80 (F84.ck gr59 (Nat.le_refl _)) W85)
          · have B90 : sf_B 0 1109 r76 := sf_neL0 c88 sf_kn1 B77
            refine pm_R_lo pm_M133 (pc_q := 6) rfl rfl rfl ?_
            refine pm_R_ifc pm_M133 (t := 11) (pc_q := 9) rfl rfl rfl (fun c91 => ?_) (fun c91 => ?_)
            · have B92 : sf_B 0 2147483647 a2 := sf_leR c91 sf_k0 (sf_any a2)
              refine pm_R_lo pm_M133 (pc_q := 12) rfl rfl rfl ?_
              refine pm_R_cs pm_M133 (pc_q := 15) (ra := [.int r76]) (rest := []) (ls_q := [.int r76, pm_no]) rfl rfl (Or.inl rfl) pm_M134 rfl rfl (Nat.le_of_ble_eq_true rfl) rfl rfl ?_
              refine cl_c134 (d := d + 4) G T80 (sf_weak B90 (by decide) (by decide)) (fun r93 B94 => ?_)
              show pm_R _ 133 15 [.int r76, .int a2, pm_no] [.int r93] _ _
              refine pm_R_lo pm_M133 (pc_q := 16) (ls_q := [.int r76, .int a2, .int r93]) (st_q := []) rfl rfl rfl ?_
              refine pm_R_lo pm_M133 (pc_q := 17) rfl rfl rfl ?_
              refine pm_R_ifc pm_M133 (t := 22) (pc_q := 20) rfl rfl rfl (fun c100 => ?_) (fun c100 => ?_)
              · have B101 : sf_B 1 2147483647 a2 := sf_neL0 c100 sf_k0 B92
                refine pm_R_lo pm_M133 (pc_q := 23) rfl rfl rfl ?_
                refine pm_R_lo pm_M133 (pc_q := 24) rfl rfl rfl ?_
                refine pm_R_icmp pm_M133 (t := 38) (pc_q := 27) rfl rfl rfl (fun c102 => ?_) (fun c102 => ?_)
                · have B103 : sf_B 2 2147483647 a2 := sf_ltR c102 B94 B101
                  refine pm_R_op pm_M133 (pc_q := 39) (st_q := [.int (-1)]) rfl rfl rfl ?_
                  refine pm_R_ret pm_M133 (r := some (.int (-1))) rfl rfl ?_
                  show pm_R _ 135 35 [.ref 16, .int a0, .int a1, .int a2] [.int (-1)] _ _
                  exact pm_R_ret pm_M135 (r := some (.int (-1))) rfl rfl (K2 (-1) m78 o ck h79 gr59 G T80 (F84.ck gr59 (Nat.le_refl _)) W85)
                · have B104 : sf_B 1 4 a2 := sf_leL (Int32.not_lt.mp c102) B101 B94
                  refine pm_R_lo pm_M133 (pc_q := 28) rfl rfl rfl ?_
                  refine pm_R_lo pm_M133 (pc_q := 29) rfl rfl rfl ?_
                  refine pm_R_lo pm_M133 (pc_q := 30) rfl rfl rfl ?_
                  refine pm_R_op pm_M133 (pc_q := 31) (st_q := [.int 1, .int a2, .int r93, .int r76]) rfl rfl rfl ?_
                  refine sf_R_isub pm_M133 (pc_q := 32) rfl rfl B104 sf_k1 (by decide) (by decide) (fun z105 e106 B107 => ?_)
                  refine pm_R_cs pm_M133 (pc_q := 35) (ra := [.int z105, .int r93, .int r76]) (rest := []) (ls_q := [.int r76, .int r93, .int z105]) rfl rfl (Or.inl rfl) pm_M132 rfl rfl (Nat.le_of_ble_eq_true rfl) rfl rfl ?_
                  refine pm_R_lo pm_M132 (pc_q := 1) rfl rfl rfl ?_
                  refine pm_R_stat pm_M132 (pc_q := 4) rfl rfl rfl ?_
                  refine pm_R_lo pm_M132 (pc_q := 5) rfl rfl rfl ?_
                  obtain ⟨z108, ez109⟩ : ∃ y, pm_sv6.getD (Int32.toNatClampNeg r93) 0 = y := ⟨_, rfl⟩
                  have B110 : sf_B 0 1110 z108 := ez109 ▸ cl_tab (l := pm_sv6) (a := 0) (b := 1110) B94 (by decide) (by decide)
                  refine pm_R_iald pm_M132 (pc_q := 6) (v := z108) rfl ((T80.old (by decide)).trans G.tb6) (T80.lt (by decide)) (sf_in B94 (by decide) (by decide)) ez109 rfl ?_
                  refine sf_R_isub pm_M132 (pc_q := 7) rfl rfl B90 B110 (by decide) (by decide) (fun z111 e112 B113 => ?_)
                  refine pm_R_stat pm_M132 (pc_q := 10) rfl rfl rfl ?_
                  refine pm_R_lo pm_M132 (pc_q := 11) rfl rfl rfl ?_
                  refine pm_R_op pm_M132 (pc_q := 12) (st_q := [.int 1, .int r93, .ref 5, .int z111]) rfl rfl rfl ?_
                  refine sf_R_isub pm_M132 (pc_q := 13) rfl rfl B94 sf_k1 (by decide) (by decide) (fun z114 e115 B116 => ?_)
                  refine pm_R_lo pm_M132 (pc_q := 14) rfl rfl rfl ?_
                  refine sf_R_isub pm_M132 (pc_q := 15) rfl rfl B116 B107 (by decide) (by decide) (fun z117 e118 B119 => ?_)
                  have B123 : sf_B 0 3 z117 := ⟨(cl_aux22 _ _ _ _ _ e115 e106 e118 (Int32.le_iff_toInt_le.mp (Int32.not_lt.mp c102))), B119.2⟩
                  obtain ⟨z120, ez121⟩ : ∃ y, pm_sv5.getD (Int32.toNatClampNeg z117) 0 = y := ⟨_, rfl⟩
                  have B122 : sf_B 1 1000 z120 := ez121 ▸ cl_tab (l := pm_sv5) (a := 1) (b := 1000) B123 (by decide) (by decide)
                  refine pm_R_iald pm_M132 (pc_q := 16) (v := z120) rfl ((T80.old (by decide)).trans G.tb5) (T80.lt (by decide)) (sf_in B123 (by decide) (by decide)) ez121 rfl ?_
                  refine sf_R_idivA pm_M132 (pc_q := 17) rfl rfl (sf_neq1 B122 sf_k0 (by decide)) (fun z124 => ?_)
                  refine pm_R_op pm_M132 (pc_q := 19) (st_q := [.int 10, .int z124]) rfl rfl rfl ?_
                  refine sf_R_iremA pm_M132 (pc_q := 20) rfl rfl (sf_neq1 sf_k10 sf_k0 (by decide)) (fun z127 => ?_)
                  refine pm_R_ret pm_M132 (r := some (.int z127)) rfl (pm_ret_i _) ?_
                  show pm_R _ 133 35 [.int r76, .int a2, .int r93] [.int z127] _ _
                  refine pm_R_br pm_M133 (pc_q := 39) rfl rfl ?_
                  refine pm_R_ret pm_M133 (r := some (.int z127)) rfl (pm_ret_i _) ?_
                  show pm_R _ 135 35 [.ref 16, .int a0, .int a1, .int a2] [.int z127] _ _
                  exact pm_R_ret pm_M135 (r := some (.int z127)) rfl (pm_ret_i _) (K2 z127 m78 o ck h79 gr59 G T80 (F84.ck gr59 (Nat.le_refl _)) W85)
              · have B130 : sf_B 0 0 a2 := sf_eqL (Classical.not_not.mp c100) sf_k0
                refine pm_R_lo pm_M133 (pc_q := 21) rfl rfl rfl ?_
                refine pm_R_ret pm_M133 (r := some (.int r93)) rfl (pm_ret_i _) ?_
                show pm_R _ 135 35 [.ref 16, .int a0, .int a1, .int a2] [.int r93] _ _
                exact pm_R_ret pm_M135 (r := some (.int r93)) rfl (pm_ret_i _) (K2 r93 m78 o ck h79 gr59 G T80 (F84.ck gr59 (Nat.le_refl _)) W85)
            · have B131 : sf_B (-2147483648) (-1) a2 := sf_ltL (Int32.not_le.mp c91) (sf_any a2) sf_k0
              refine pm_R_op pm_M133 (pc_q := 10) (st_q := [.int (-1)]) rfl rfl rfl ?_
              refine pm_R_ret pm_M133 (r := some (.int (-1))) rfl rfl ?_
              show pm_R _ 135 35 [.ref 16, .int a0, .int a1, .int a2] [.int (-1)] _ _
              exact pm_R_ret pm_M135 (r := some (.int (-1))) rfl rfl (K2 (-1) m78 o ck h79 gr59 G T80 (F84.ck gr59 (Nat.le_refl _)) W85)
        · have B132 : sf_B 1 2147483647 a1 := sf_leR (Int32.not_lt.mp c25) B12 B21
          refine pm_R_op pm_M62 (pc_q := 18) (st_q := [.null]) rfl rfl rfl ?_
          refine pm_R_br pm_M62 (pc_q := 30) rfl rfl ?_
          refine pm_R_ret pm_M62 (r := some (.null)) rfl rfl ?_
          show pm_R _ 135 13 [.ref 16, .int a0, .int a1, .int a2] [.null] _ _
          refine pm_R_br pm_M135 (pc_q := 16) rfl rfl ?_
          refine pm_R_op pm_M135 (pc_q := 17) (st_q := [.int (-1)]) rfl rfl rfl ?_
          exact pm_R_ret pm_M135 (r := some (.int (-1))) rfl rfl (K (-1) m h T ((cl_F.refl (ck := ck) (A := [37]) (n := 0) (s := 0) T.1).weak (by decide) (by decide)) (rf_W.refl [] m))
    · skip
      refine pm_R_op pm_M62 (pc_q := 18) (st_q := [.null]) rfl rfl rfl ?_
      refine pm_R_br pm_M62 (pc_q := 30) rfl rfl ?_
      refine pm_R_ret pm_M62 (r := some (.null)) rfl rfl ?_
      show pm_R _ 135 5 [.ref 16, .int a0, .int a1, .int a2] [.null] _ _
      refine pm_R_br pm_M135 (pc_q := 16) rfl rfl ?_
      refine pm_R_op pm_M135 (pc_q := 17) (st_q := [.int (-1)]) rfl rfl rfl ?_
      exact pm_R_ret pm_M135 (r := some (.int (-1))) rfl rfl (K (-1) m h T ((cl_F.refl (ck := ck) (A := [37]) (n := 0) (s := 0) T.1).weak (by decide) (by decide)) (rf_W.refl [] m))

set_option maxRecDepth 100000 in
set_option maxHeartbeats 4000000 in
/-- SilentTable.all -/
theorem cl_c137 {d : Nat} {ck : cl_K} {E : Nat → pm_E} {m : Nat → Int32} {o : Nat → Option Nat} {h : pm_H} {Q : Option Value → pm_H → Prop} {a0 : Int32} {a1 : Int32} {a2 : Int32} (G : cl_G ck E) (T : cl_T ck E m o h)  (K : ∀ (r : Int64) (m_q : Nat → Int32) (h_q : pm_H), cl_T ck E m_q o h_q → cl_F ck [37] 5 24466 h h_q → rf_W [] m m_q → Q (some (.long r)) h_q) (K2 : ∀ (r : Int64) (m_q : Nat → Int32) (o_q : Nat → Option Nat) (ck_q : cl_K) (h_q : pm_H), (∀ b, b < h.1 → ck_q b = ck b) → cl_G ck_q E → cl_T ck_q E m_q o_q h_q → cl_F ck [37] 5 24466 h h_q → rf_W [] m m_q → Q (some (.long r)) h_q) : pm_R (d + 5) 137 0 [.ref 16, .int a0, .int a1, .int a2, pm_no] [] h Q := by
  refine pm_R_lo pm_M137 (pc_q := 1) rfl rfl rfl ?_
  refine pm_R_lo pm_M137 (pc_q := 2) rfl rfl rfl ?_
  refine pm_R_cv pm_M137 (pc_q := 5) (a := 16) (ra := [.int a0]) (rest := []) (ls_q := [.ref 16, .int a0]) rfl rfl (Or.inl rfl) pm_M62 T.e16 rfl (by decide) (T.lt (by decide)) rfl rfl (Nat.le_of_ble_eq_true rfl) rfl rfl ?_
  refine pm_R_lo pm_M62 (pc_q := 1) rfl rfl rfl ?_
  refine pm_R_ifc pm_M62 (t := 17) (pc_q := 4) rfl rfl rfl (fun c1 => ?_) (fun c1 => ?_)
  · have B2 : sf_B (-2147483648) (-1) a0 := sf_ltL c1 (sf_any a0) sf_k0
    refine pm_R_op pm_M62 (pc_q := 18) (st_q := [.null]) rfl rfl rfl ?_
    refine pm_R_br pm_M62 (pc_q := 30) rfl rfl ?_
    refine pm_R_ret pm_M62 (r := some (.null)) rfl rfl ?_
    show pm_R _ 137 5 [.ref 16, .int a0, .int a1, .int a2, pm_no] [.null] _ _
    refine pm_R_br pm_M137 (pc_q := 27) rfl rfl ?_
    refine pm_R_ldc2 pm_M137 (pc_q := 30) rfl rfl rfl ?_
    exact pm_R_ret pm_M137 (r := some (.long (-1))) rfl rfl (K (-1) m h T ((cl_F.refl (ck := ck) (A := [37]) (n := 0) (s := 0) T.1).weak (by decide) (by decide)) (rf_W.refl [] m))
  · have B3 : sf_B 0 2147483647 a0 := sf_leR (Int32.not_lt.mp c1) sf_k0 (sf_any a0)
    refine pm_R_lo pm_M62 (pc_q := 5) rfl rfl rfl ?_
    refine pm_R_lo pm_M62 (pc_q := 6) rfl rfl rfl ?_
    refine pm_R_get pm_M62 (pc_q := 9) (v := .ref 17) rfl rfl T.e16 (by decide) (T.lt (by decide)) rfl rfl ?_
    refine pm_R_get pm_M62 (pc_q := 12) (v := .ref 23) rfl rfl T.e17 (by decide) (T.lt (by decide)) rfl rfl ?_
    refine pm_R_op pm_M62 (pc_q := 13) (st_q := [.int 0, .ref 23, .int a0]) rfl rfl rfl ?_
    obtain ⟨f7, e8, b9⟩ := T.C 23 (by decide) (by decide)
    obtain ⟨z4, ez5⟩ : ∃ y, f7 (Int32.toNatClampNeg 0) = y := ⟨_, rfl⟩
    have B6 : sf_B 0 2 z4 := ez5 ▸ (b9 0)
    refine pm_R_iald pm_M62 (pc_q := 14) (v := z4) rfl e8 (T.lt (by decide)) rfl ez5 rfl ?_
    refine pm_R_icmp pm_M62 (t := 21) (pc_q := 17) rfl rfl rfl (fun c10 => ?_) (fun c10 => ?_)
    · have B11 : sf_B 0 1 a0 := sf_ltL c10 B3 B6
      have B12 : sf_B 1 2 z4 := sf_ltR c10 B3 B6
      refine pm_R_lo pm_M62 (pc_q := 22) rfl rfl rfl ?_
      refine pm_R_get pm_M62 (pc_q := 25) (v := .ref 17) rfl rfl T.e16 (by decide) (T.lt (by decide)) rfl rfl ?_
      refine pm_R_get pm_M62 (pc_q := 28) (v := .ref 19) rfl rfl T.e17 (by decide) (T.lt (by decide)) rfl rfl ?_
      refine pm_R_lo pm_M62 (pc_q := 29) rfl rfl rfl ?_
      obtain ⟨f13, e14, b15⟩ := T.C 19 (by decide) (by decide)
      obtain ⟨l16, hx17⟩ := cl_there0 T e8 e14 ez5 c10 B11 (by decide)
      have hk18 := b15 _ _ hx17
      refine pm_R_aald pm_M62 (pc_q := 30) (v := .ref l16) rfl e14 (by decide) (by decide) (by decide) (T.lt (by decide)) (sf_in B11 (by decide) (by decide)) (by rw [hx17]; rfl) rfl ?_
      refine pm_R_ret pm_M62 (r := some (.ref l16)) rfl rfl ?_
      show pm_R _ 137 5 [.ref 16, .int a0, .int a1, .int a2, pm_no] [.ref l16] _ _
      refine pm_R_br pm_M137 (pc_q := 8) rfl rfl ?_
      refine pm_R_lo pm_M137 (pc_q := 9) rfl rfl rfl ?_
      refine pm_R_op pm_M137 (pc_q := 10) (st_q := [.int 1, .int a1]) rfl rfl rfl ?_
      refine pm_R_icmp pm_M137 (t := 27) (pc_q := 13) rfl rfl rfl (fun c19 => ?_) (fun c19 => ?_)
      · have B20 : sf_B (-2147483648) 0 a1 := sf_ltL c19 (sf_any a1) sf_k1
        refine pm_R_ldc2 pm_M137 (pc_q := 30) rfl rfl rfl ?_
        exact pm_R_ret pm_M137 (r := some (.long (-1))) rfl rfl (K (-1) m h T ((cl_F.refl (ck := ck) (A := [37]) (n := 0) (s := 0) T.1).weak (by decide) (by decide)) (rf_W.refl [] m))
      · have B21 : sf_B 1 2147483647 a1 := sf_leR (Int32.not_lt.mp c19) sf_k1 (sf_any a1)
        refine pm_R_lo pm_M137 (pc_q := 14) rfl rfl rfl ?_
        refine pm_R_op pm_M137 (pc_q := 15) (st_q := [.int 4, .int a1]) rfl rfl rfl ?_
        refine pm_R_icmp pm_M137 (t := 27) (pc_q := 18) rfl rfl rfl (fun c22 => ?_) (fun c22 => ?_)
        · have B23 : sf_B 5 2147483647 a1 := sf_ltR c22 sf_k4 B21
          refine pm_R_ldc2 pm_M137 (pc_q := 30) rfl rfl rfl ?_
          exact pm_R_ret pm_M137 (r := some (.long (-1))) rfl rfl (K (-1) m h T ((cl_F.refl (ck := ck) (A := [37]) (n := 0) (s := 0) T.1).weak (by decide) (by decide)) (rf_W.refl [] m))
        · have B24 : sf_B 1 4 a1 := sf_leL (Int32.not_lt.mp c22) B21 sf_k4
          refine pm_R_lo pm_M137 (pc_q := 19) rfl rfl rfl ?_
          refine pm_R_ifc pm_M137 (t := 27) (pc_q := 22) rfl rfl rfl (fun c25 => ?_) (fun c25 => ?_)
          · have B26 : sf_B (-2147483648) (-1) a2 := sf_ltL c25 (sf_any a2) sf_k0
            refine pm_R_ldc2 pm_M137 (pc_q := 30) rfl rfl rfl ?_
            exact pm_R_ret pm_M137 (r := some (.long (-1))) rfl rfl (K (-1) m h T ((cl_F.refl (ck := ck) (A := [37]) (n := 0) (s := 0) T.1).weak (by decide) (by decide)) (rf_W.refl [] m))
          · have B27 : sf_B 0 2147483647 a2 := sf_leR (Int32.not_lt.mp c25) sf_k0 (sf_any a2)
            refine pm_R_lo pm_M137 (pc_q := 23) rfl rfl rfl ?_
            refine pm_R_op pm_M137 (pc_q := 24) (st_q := [.int 2, .int a2]) rfl rfl rfl ?_
            refine pm_R_icmp pm_M137 (t := 31) (pc_q := 27) rfl rfl rfl (fun c28 => ?_) (fun c28 => ?_)
            · have B29 : sf_B 0 2 a2 := sf_leL c28 B27 sf_k2
              refine pm_R_lo pm_M137 (pc_q := 32) rfl rfl rfl ?_
              refine pm_R_lo pm_M137 (pc_q := 33) rfl rfl rfl ?_
              refine pm_R_cv pm_M137 (pc_q := 36) (a := 16) (ra := [.int a0]) (rest := []) (ls_q := [.ref 16, .int a0]) rfl rfl (Or.inl rfl) pm_M122 T.e16 rfl (by decide) (T.lt (by decide)) rfl rfl (Nat.le_of_ble_eq_true rfl) rfl rfl ?_
              have F39 := (cl_F.refl (ck := ck) (A := [37]) (n := 0) (s := 0) T.1)
              refine cl_c122 (d := d + 3) G T (sf_in B11 (by decide) (by decide)) e14 hx17 hk18 (fun c30 ck h31 lt32 G T33 F34 kc35 nn36 lf37 low38 => ?_)
              have F40 := F39.ck (fun b hb => (lt32 b hb).symm) F39.2.1
              have F41 := F34.ck (fun b hb => (lt32 b hb).symm) (Nat.le_refl _)
              have gr42 := fun (b : Nat) (hb : b < h.1) => (lt32 b (Nat.lt_of_lt_of_le hb F39.2.1))
              have hk43 := (lt32 _ (T.al hk18 (by decide))).trans hk18
              have F44 := F40.trans (N := 5) (S := 24466) F41 (by decide) (by decide) (by decide)
              have e45 := (low38 19 (by decide) (by decide)).trans e14
              show pm_R _ 137 36 [.ref 16, .int a0, .int a1, .int a2, pm_no] [.ref c30] _ _
              refine pm_R_lo pm_M137 (pc_q := 38) (ls_q := [.ref 16, .int a0, .int a1, .int a2, .ref c30]) (st_q := []) rfl rfl rfl ?_
              refine pm_R_lo pm_M137 (pc_q := 40) rfl rfl rfl ?_
              refine pm_R_lo pm_M137 (pc_q := 41) rfl rfl rfl ?_
              obtain ⟨lo46, fi47, av48, ah49, an50, kl51, B52, B53, eS54⟩ := id nn36
              have nn55 : cl_NN ck h31 c30 := ⟨lo46, fi47, av48, ah49, an50, kl51, B52, B53, eS54⟩
              refine pm_R_cv pm_M137 (pc_q := 44) (a := c30) (ra := [.int a1]) (rest := []) (ls_q := [.ref c30, .int a1, pm_no]) rfl rfl (Or.inl rfl) pm_M126 eS54 rfl (G.ge kc35 (by decide)) (T33.al kc35 (by decide)) rfl rfl (Nat.le_of_ble_eq_true rfl) rfl rfl ?_
              refine cl_c126 (d := d + 0) G T33 kc35 B24 nn55 (fun m58 h59 T60 F61 W62 X63 => ?_)
              have F64 := F44.trans (N := 5) (S := 24466) F61 (by decide) (by decide) (by decide)
              have W65 : rf_W [] m m58 := (rf_W.refl [] m).trans W62 (by decide)
              show pm_R _ 137 44 [.ref 16, .int a0, .int a1, .int a2, .ref c30] [] _ _
              have nn66 := X63 _ kc35 nn55
              refine pm_R_lo pm_M137 (pc_q := 46) rfl rfl rfl ?_
              obtain ⟨lo67, fi68, av69, ah70, an71, kl72, B73, B74, eS75⟩ := id nn66
              have nn76 : cl_NN ck h59 c30 := ⟨lo67, fi68, av69, ah70, an71, kl72, B73, B74, eS75⟩
              refine pm_R_get pm_M137 (pc_q := 49) (v := .ref (c30 + 1)) rfl rfl eS75 (G.ge kc35 (by decide)) (T60.al kc35 (by decide)) rfl rfl ?_
              refine pm_R_lo pm_M137 (pc_q := 50) rfl rfl rfl ?_
              refine pm_R_op pm_M137 (pc_q := 51) (st_q := [.int 3, .int a1, .ref (c30 + 1)]) rfl rfl rfl ?_
              refine sf_R_imul pm_M137 (pc_q := 52) rfl rfl B24 sf_k3 (by decide) (by decide) (by decide) (fun z77 e78 B79 => ?_)
              refine pm_R_lo pm_M137 (pc_q := 53) rfl rfl rfl ?_
              refine sf_R_iadd pm_M137 (pc_q := 54) rfl rfl B79 B29 (by decide) (by decide) (fun z80 e81 B82 => ?_)
              obtain ⟨f86, e87⟩ := T60.D.2.2.2.2.1 _ (G.s25 kc35).1
              obtain ⟨z83, ez84⟩ : ∃ y, f86 (Int32.toNatClampNeg z80) = y := ⟨_, rfl⟩
              refine pm_R_iald pm_M137 (pc_q := 55) (v := z83) rfl e87 (T60.al (G.s25 kc35).1 (by decide)) (sf_in B82 (by decide) (by decide)) ez84 rfl ?_
              refine sf_R_lany pm_M137 (pc_q := 56) (st := []) rfl rfl rfl (fun z88 => ?_)
              exact pm_R_ret pm_M137 (r := some (.long z88)) rfl rfl (K2 z88 m58 o ck h59 gr42 G T60 (F64.ck gr42 (Nat.le_refl _)) W65)
            · have B89 : sf_B 3 2147483647 a2 := sf_ltR (Int32.not_le.mp c28) sf_k2 B27
              refine pm_R_ldc2 pm_M137 (pc_q := 30) rfl rfl rfl ?_
              exact pm_R_ret pm_M137 (r := some (.long (-1))) rfl rfl (K (-1) m h T ((cl_F.refl (ck := ck) (A := [37]) (n := 0) (s := 0) T.1).weak (by decide) (by decide)) (rf_W.refl [] m))
    · skip
      refine pm_R_op pm_M62 (pc_q := 18) (st_q := [.null]) rfl rfl rfl ?_
      refine pm_R_br pm_M62 (pc_q := 30) rfl rfl ?_
      refine pm_R_ret pm_M62 (r := some (.null)) rfl rfl ?_
      show pm_R _ 137 5 [.ref 16, .int a0, .int a1, .int a2, pm_no] [.null] _ _
      refine pm_R_br pm_M137 (pc_q := 27) rfl rfl ?_
      refine pm_R_ldc2 pm_M137 (pc_q := 30) rfl rfl rfl ?_
      exact pm_R_ret pm_M137 (r := some (.long (-1))) rfl rfl (K (-1) m h T ((cl_F.refl (ck := ck) (A := [37]) (n := 0) (s := 0) T.1).weak (by decide) (by decide)) (rf_W.refl [] m))

set_option maxRecDepth 100000 in
set_option maxHeartbeats 4000000 in
/-- SilentTable.asks -/
theorem cl_c156 {d : Nat} {ck : cl_K} {E : Nat → pm_E} {m : Nat → Int32} {o : Nat → Option Nat} {h : pm_H} {Q : Option Value → pm_H → Prop} {a0 : Int32} {a1 : Int32} {a2 : Int32} {a3 : Int32} {a4 : Int32} {a5 : Int32} (G : cl_G ck E) (T : cl_T ck E m o h)  (K : ∀ (r : Int32) (m_q : Nat → Int32) (h_q : pm_H), cl_T ck E m_q o h_q → cl_F ck [32, 37, 38] 5 24466 h h_q → rf_W [] m m_q → Q (some (.int r)) h_q) (K2 : ∀ (r : Int32) (m_q : Nat → Int32) (o_q : Nat → Option Nat) (ck_q : cl_K) (h_q : pm_H), (∀ b, b < h.1 → ck_q b = ck b) → cl_G ck_q E → cl_T ck_q E m_q o_q h_q → cl_F ck [32, 37, 38] 5 24466 h h_q → rf_W [] m m_q → Q (some (.int r)) h_q) : pm_R (d + 6) 156 0 [.ref 16, .int a0, .int a1, .int a2, .int a3, .int a4, .int a5, pm_no] [] h Q := by
  refine pm_R_lo pm_M156 (pc_q := 1) rfl rfl rfl ?_
  refine pm_R_lo pm_M156 (pc_q := 2) rfl rfl rfl ?_
  refine pm_R_lo pm_M156 (pc_q := 4) rfl rfl rfl ?_
  refine pm_R_lo pm_M156 (pc_q := 6) rfl rfl rfl ?_
  refine pm_R_cv pm_M156 (pc_q := 9) (a := 16) (ra := [.int a4, .int a3, .int a2]) (rest := []) (ls_q := [.ref 16, .int a2, .int a3, .int a4, pm_no]) rfl rfl (Or.inl rfl) pm_M152 T.e16 rfl (by decide) (T.lt (by decide)) rfl rfl (Nat.le_of_ble_eq_true rfl) rfl rfl ?_
  refine pm_R_lo pm_M152 (pc_q := 1) rfl rfl rfl ?_
  refine pm_R_lo pm_M152 (pc_q := 2) rfl rfl rfl ?_
  refine pm_R_cv pm_M152 (pc_q := 5) (a := 16) (ra := [.int a2]) (rest := []) (ls_q := [.ref 16, .int a2]) rfl rfl (Or.inl rfl) pm_M139 T.e16 rfl (by decide) (T.lt (by decide)) rfl rfl (Nat.le_of_ble_eq_true rfl) rfl rfl ?_
  refine pm_R_lo pm_M139 (pc_q := 1) rfl rfl rfl ?_
  refine pm_R_ifc pm_M139 (t := 17) (pc_q := 4) rfl rfl rfl (fun c1 => ?_) (fun c1 => ?_)
  · have B2 : sf_B (-2147483648) (-1) a2 := sf_ltL c1 (sf_any a2) sf_k0
    refine pm_R_op pm_M139 (pc_q := 18) (st_q := [.null]) rfl rfl rfl ?_
    refine pm_R_br pm_M139 (pc_q := 30) rfl rfl ?_
    refine pm_R_ret pm_M139 (r := some (.null)) rfl rfl ?_
    show pm_R _ 152 5 [.ref 16, .int a2, .int a3, .int a4, pm_no] [.null] _ _
    refine pm_R_lo pm_M152 (pc_q := 7) (ls_q := [.ref 16, .int a2, .int a3, .int a4, .null]) (st_q := []) rfl rfl rfl ?_
    refine pm_R_lo pm_M152 (pc_q := 9) rfl rfl rfl ?_
    refine pm_R_br pm_M152 (pc_q := 35) rfl rfl ?_
    refine pm_R_op pm_M152 (pc_q := 36) (st_q := [.int (-1)]) rfl rfl rfl ?_
    refine pm_R_ret pm_M152 (r := some (.int (-1))) rfl rfl ?_
    show pm_R _ 156 9 [.ref 16, .int a0, .int a1, .int a2, .int a3, .int a4, .int a5, pm_no] [.int (-1)] _ _
    refine pm_R_lo pm_M156 (pc_q := 11) (ls_q := [.ref 16, .int a0, .int a1, .int a2, .int a3, .int a4, .int a5, .int (-1)]) (st_q := []) rfl rfl rfl ?_
    refine pm_R_lo pm_M156 (pc_q := 12) rfl rfl rfl ?_
    refine pm_R_lo pm_M156 (pc_q := 13) rfl rfl rfl ?_
    refine pm_R_cv pm_M156 (pc_q := 16) (a := 16) (ra := [.int a0]) (rest := []) (ls_q := [.ref 16, .int a0]) rfl rfl (Or.inl rfl) pm_M62 T.e16 rfl (by decide) (T.lt (by decide)) rfl rfl (Nat.le_of_ble_eq_true rfl) rfl rfl ?_
    refine pm_R_lo pm_M62 (pc_q := 1) rfl rfl rfl ?_
    refine pm_R_ifc pm_M62 (t := 17) (pc_q := 4) rfl rfl rfl (fun c3 => ?_) (fun c3 => ?_)
    · have B4 : sf_B (-2147483648) (-1) a0 := sf_ltL c3 (sf_any a0) sf_k0
      refine pm_R_op pm_M62 (pc_q := 18) (st_q := [.null]) rfl rfl rfl ?_
      refine pm_R_br pm_M62 (pc_q := 30) rfl rfl ?_
      refine pm_R_ret pm_M62 (r := some (.null)) rfl rfl ?_
      show pm_R _ 156 16 [.ref 16, .int a0, .int a1, .int a2, .int a3, .int a4, .int a5, .int (-1)] [.null] _ _
      refine pm_R_br pm_M156 (pc_q := 32) rfl rfl ?_
      refine pm_R_op pm_M156 (pc_q := 33) (st_q := [.int (-1)]) rfl rfl rfl ?_
      exact pm_R_ret pm_M156 (r := some (.int (-1))) rfl rfl (K (-1) m h T ((cl_F.refl (ck := ck) (A := [32, 37, 38]) (n := 0) (s := 0) T.1).weak (by decide) (by decide)) (rf_W.refl [] m))
    · have B5 : sf_B 0 2147483647 a0 := sf_leR (Int32.not_lt.mp c3) sf_k0 (sf_any a0)
      refine pm_R_lo pm_M62 (pc_q := 5) rfl rfl rfl ?_
      refine pm_R_lo pm_M62 (pc_q := 6) rfl rfl rfl ?_
      refine pm_R_get pm_M62 (pc_q := 9) (v := .ref 17) rfl rfl T.e16 (by decide) (T.lt (by decide)) rfl rfl ?_
      refine pm_R_get pm_M62 (pc_q := 12) (v := .ref 23) rfl rfl T.e17 (by decide) (T.lt (by decide)) rfl rfl ?_
      refine pm_R_op pm_M62 (pc_q := 13) (st_q := [.int 0, .ref 23, .int a0]) rfl rfl rfl ?_
      obtain ⟨f9, e10, b11⟩ := T.C 23 (by decide) (by decide)
      obtain ⟨z6, ez7⟩ : ∃ y, f9 (Int32.toNatClampNeg 0) = y := ⟨_, rfl⟩
      have B8 : sf_B 0 2 z6 := ez7 ▸ (b11 0)
      refine pm_R_iald pm_M62 (pc_q := 14) (v := z6) rfl e10 (T.lt (by decide)) rfl ez7 rfl ?_
      refine pm_R_icmp pm_M62 (t := 21) (pc_q := 17) rfl rfl rfl (fun c12 => ?_) (fun c12 => ?_)
      · have B13 : sf_B 0 1 a0 := sf_ltL c12 B5 B8
        have B14 : sf_B 1 2 z6 := sf_ltR c12 B5 B8
        refine pm_R_lo pm_M62 (pc_q := 22) rfl rfl rfl ?_
        refine pm_R_get pm_M62 (pc_q := 25) (v := .ref 17) rfl rfl T.e16 (by decide) (T.lt (by decide)) rfl rfl ?_
        refine pm_R_get pm_M62 (pc_q := 28) (v := .ref 19) rfl rfl T.e17 (by decide) (T.lt (by decide)) rfl rfl ?_
        refine pm_R_lo pm_M62 (pc_q := 29) rfl rfl rfl ?_
        obtain ⟨f15, e16, b17⟩ := T.C 19 (by decide) (by decide)
        obtain ⟨l18, hx19⟩ := cl_there0 T e10 e16 ez7 c12 B13 (by decide)
        have hk20 := b17 _ _ hx19
        refine pm_R_aald pm_M62 (pc_q := 30) (v := .ref l18) rfl e16 (by decide) (by decide) (by decide) (T.lt (by decide)) (sf_in B13 (by decide) (by decide)) (by rw [hx19]; rfl) rfl ?_
        refine pm_R_ret pm_M62 (r := some (.ref l18)) rfl rfl ?_
        show pm_R _ 156 16 [.ref 16, .int a0, .int a1, .int a2, .int a3, .int a4, .int a5, .int (-1)] [.ref l18] _ _
        refine pm_R_br pm_M156 (pc_q := 19) rfl rfl ?_
        refine pm_R_lo pm_M156 (pc_q := 20) rfl rfl rfl ?_
        refine pm_R_cs pm_M156 (pc_q := 23) (ra := [.int a1]) (rest := []) (ls_q := [.int a1]) rfl rfl (Or.inl rfl) pm_M82 rfl rfl (Nat.le_of_ble_eq_true rfl) rfl rfl ?_
        refine pm_R_lo pm_M82 (pc_q := 1) rfl rfl rfl ?_
        refine pm_R_ifc pm_M82 (t := 14) (pc_q := 4) rfl rfl rfl (fun c21 => ?_) (fun c21 => ?_)
        · have B22 : sf_B (-2147483648) (-1) a1 := sf_ltL c21 (sf_any a1) sf_k0
          refine pm_R_op pm_M82 (pc_q := 15) (st_q := [.int 0]) rfl rfl rfl ?_
          refine pm_R_ret pm_M82 (r := some (.int 0)) rfl rfl ?_
          show pm_R _ 156 23 [.ref 16, .int a0, .int a1, .int a2, .int a3, .int a4, .int a5, .int (-1)] [.int 0] _ _
          refine pm_R_br pm_M156 (pc_q := 32) (st_q := []) rfl rfl ?_
          refine pm_R_op pm_M156 (pc_q := 33) (st_q := [.int (-1)]) rfl rfl rfl ?_
          exact pm_R_ret pm_M156 (r := some (.int (-1))) rfl rfl (K (-1) m h T ((cl_F.refl (ck := ck) (A := [32, 37, 38]) (n := 0) (s := 0) T.1).weak (by decide) (by decide)) (rf_W.refl [] m))
        · have B23 : sf_B 0 2147483647 a1 := sf_leR (Int32.not_lt.mp c21) sf_k0 (sf_any a1)
          refine pm_R_lo pm_M82 (pc_q := 5) rfl rfl rfl ?_
          refine pm_R_op pm_M82 (pc_q := 7) (st_q := [.int 50, .int a1]) rfl rfl rfl ?_
          refine pm_R_icmp pm_M82 (t := 14) (pc_q := 10) rfl rfl rfl (fun c24 => ?_) (fun c24 => ?_)
          · have B25 : sf_B 50 2147483647 a1 := sf_leR c24 sf_k50 B23
            refine pm_R_op pm_M82 (pc_q := 15) (st_q := [.int 0]) rfl rfl rfl ?_
            refine pm_R_ret pm_M82 (r := some (.int 0)) rfl rfl ?_
            show pm_R _ 156 23 [.ref 16, .int a0, .int a1, .int a2, .int a3, .int a4, .int a5, .int (-1)] [.int 0] _ _
            refine pm_R_br pm_M156 (pc_q := 32) (st_q := []) rfl rfl ?_
            refine pm_R_op pm_M156 (pc_q := 33) (st_q := [.int (-1)]) rfl rfl rfl ?_
            exact pm_R_ret pm_M156 (r := some (.int (-1))) rfl rfl (K (-1) m h T ((cl_F.refl (ck := ck) (A := [32, 37, 38]) (n := 0) (s := 0) T.1).weak (by decide) (by decide)) (rf_W.refl [] m))
          · have B26 : sf_B 0 49 a1 := sf_ltL (Int32.not_le.mp c24) B23 sf_k50
            refine pm_R_op pm_M82 (pc_q := 11) (st_q := [.int 1]) rfl rfl rfl ?_
            refine pm_R_br pm_M82 (pc_q := 15) rfl rfl ?_
            refine pm_R_ret pm_M82 (r := some (.int 1)) rfl rfl ?_
            show pm_R _ 156 23 [.ref 16, .int a0, .int a1, .int a2, .int a3, .int a4, .int a5, .int (-1)] [.int 1] _ _
            refine pm_R_br pm_M156 (pc_q := 26) (st_q := []) rfl rfl ?_
            refine pm_R_lo pm_M156 (pc_q := 28) rfl rfl rfl ?_
            refine pm_R_op pm_M156 (pc_q := 29) (st_q := [.int (-1), .int (-1)]) rfl rfl rfl ?_
            refine pm_R_br pm_M156 (pc_q := 32) (st_q := []) rfl rfl ?_
            refine pm_R_op pm_M156 (pc_q := 33) (st_q := [.int (-1)]) rfl rfl rfl ?_
            exact pm_R_ret pm_M156 (r := some (.int (-1))) rfl rfl (K (-1) m h T ((cl_F.refl (ck := ck) (A := [32, 37, 38]) (n := 0) (s := 0) T.1).weak (by decide) (by decide)) (rf_W.refl [] m))
      · skip
        refine pm_R_op pm_M62 (pc_q := 18) (st_q := [.null]) rfl rfl rfl ?_
        refine pm_R_br pm_M62 (pc_q := 30) rfl rfl ?_
        refine pm_R_ret pm_M62 (r := some (.null)) rfl rfl ?_
        show pm_R _ 156 16 [.ref 16, .int a0, .int a1, .int a2, .int a3, .int a4, .int a5, .int (-1)] [.null] _ _
        refine pm_R_br pm_M156 (pc_q := 32) rfl rfl ?_
        refine pm_R_op pm_M156 (pc_q := 33) (st_q := [.int (-1)]) rfl rfl rfl ?_
        exact pm_R_ret pm_M156 (r := some (.int (-1))) rfl rfl (K (-1) m h T ((cl_F.refl (ck := ck) (A := [32, 37, 38]) (n := 0) (s := 0) T.1).weak (by decide) (by decide)) (rf_W.refl [] m))
  · have B27 : sf_B 0 2147483647 a2 := sf_leR (Int32.not_lt.mp c1) sf_k0 (sf_any a2)
    refine pm_R_lo pm_M139 (pc_q := 5) rfl rfl rfl ?_
    refine pm_R_lo pm_M139 (pc_q := 6) rfl rfl rfl ?_
    refine pm_R_get pm_M139 (pc_q := 9) (v := .ref 17) rfl rfl T.e16 (by decide) (T.lt (by decide)) rfl rfl ?_
    refine pm_R_get pm_M139 (pc_q := 12) (v := .ref 23) rfl rfl T.e17 (by decide) (T.lt (by decide)) rfl rfl ?_
    refine pm_R_op pm_M139 (pc_q := 13) (st_q := [.int 2, .ref 23, .int a2]) rfl rfl rfl ?_
    obtain ⟨f31, e32, b33⟩ := T.C 23 (by decide) (by decide)
    obtain ⟨z28, ez29⟩ : ∃ y, f31 (Int32.toNatClampNeg 2) = y := ⟨_, rfl⟩
    have B30 : sf_B 0 2 z28 := ez29 ▸ (b33 2)
    refine pm_R_iald pm_M139 (pc_q := 14) (v := z28) rfl e32 (T.lt (by decide)) rfl ez29 rfl ?_
    refine pm_R_icmp pm_M139 (t := 21) (pc_q := 17) rfl rfl rfl (fun c34 => ?_) (fun c34 => ?_)
    · have B35 : sf_B 0 1 a2 := sf_ltL c34 B27 B30
      have B36 : sf_B 1 2 z28 := sf_ltR c34 B27 B30
      refine pm_R_lo pm_M139 (pc_q := 22) rfl rfl rfl ?_
      refine pm_R_get pm_M139 (pc_q := 25) (v := .ref 17) rfl rfl T.e16 (by decide) (T.lt (by decide)) rfl rfl ?_
      refine pm_R_get pm_M139 (pc_q := 28) (v := .ref 21) rfl rfl T.e17 (by decide) (T.lt (by decide)) rfl rfl ?_
      refine pm_R_lo pm_M139 (pc_q := 29) rfl rfl rfl ?_
      obtain ⟨f37, e38, b39⟩ := T.C 21 (by decide) (by decide)
      obtain ⟨l40, hx41⟩ := cl_there2 T e32 e38 ez29 c34 B35 (by decide)
      have hk42 := b39 _ _ hx41
      refine pm_R_aald pm_M139 (pc_q := 30) (v := .ref l40) rfl e38 (by decide) (by decide) (by decide) (T.lt (by decide)) (sf_in B35 (by decide) (by decide)) (by rw [hx41]; rfl) rfl ?_
      refine pm_R_ret pm_M139 (r := some (.ref l40)) rfl rfl ?_
      show pm_R _ 152 5 [.ref 16, .int a2, .int a3, .int a4, pm_no] [.ref l40] _ _
      refine pm_R_lo pm_M152 (pc_q := 7) (ls_q := [.ref 16, .int a2, .int a3, .int a4, .ref l40]) (st_q := []) rfl rfl rfl ?_
      refine pm_R_lo pm_M152 (pc_q := 9) rfl rfl rfl ?_
      refine pm_R_br pm_M152 (pc_q := 12) rfl rfl ?_
      refine pm_R_lo pm_M152 (pc_q := 13) rfl rfl rfl ?_
      refine pm_R_lo pm_M152 (pc_q := 14) rfl rfl rfl ?_
      refine pm_R_icmp pm_M152 (t := 35) (pc_q := 17) rfl rfl rfl (fun c43 => ?_) (fun c43 => ?_)
      · refine pm_R_op pm_M152 (pc_q := 36) (st_q := [.int (-1)]) rfl rfl rfl ?_
        refine pm_R_ret pm_M152 (r := some (.int (-1))) rfl rfl ?_
        show pm_R _ 156 9 [.ref 16, .int a0, .int a1, .int a2, .int a3, .int a4, .int a5, pm_no] [.int (-1)] _ _
        refine pm_R_lo pm_M156 (pc_q := 11) (ls_q := [.ref 16, .int a0, .int a1, .int a2, .int a3, .int a4, .int a5, .int (-1)]) (st_q := []) rfl rfl rfl ?_
        refine pm_R_lo pm_M156 (pc_q := 12) rfl rfl rfl ?_
        refine pm_R_lo pm_M156 (pc_q := 13) rfl rfl rfl ?_
        refine pm_R_cv pm_M156 (pc_q := 16) (a := 16) (ra := [.int a0]) (rest := []) (ls_q := [.ref 16, .int a0]) rfl rfl (Or.inl rfl) pm_M62 T.e16 rfl (by decide) (T.lt (by decide)) rfl rfl (Nat.le_of_ble_eq_true rfl) rfl rfl ?_
        refine pm_R_lo pm_M62 (pc_q := 1) rfl rfl rfl ?_
        refine pm_R_ifc pm_M62 (t := 17) (pc_q := 4) rfl rfl rfl (fun c44 => ?_) (fun c44 => ?_)
        · have B45 : sf_B (-2147483648) (-1) a0 := sf_ltL c44 (sf_any a0) sf_k0
          refine pm_R_op pm_M62 (pc_q := 18) (st_q := [.null]) rfl rfl rfl ?_
          refine pm_R_br pm_M62 (pc_q := 30) rfl rfl ?_
          refine pm_R_ret pm_M62 (r := some (.null)) rfl rfl ?_
          show pm_R _ 156 16 [.ref 16, .int a0, .int a1, .int a2, .int a3, .int a4, .int a5, .int (-1)] [.null] _ _
          refine pm_R_br pm_M156 (pc_q := 32) rfl rfl ?_
          refine pm_R_op pm_M156 (pc_q := 33) (st_q := [.int (-1)]) rfl rfl rfl ?_
          exact pm_R_ret pm_M156 (r := some (.int (-1))) rfl rfl (K (-1) m h T ((cl_F.refl (ck := ck) (A := [32, 37, 38]) (n := 0) (s := 0) T.1).weak (by decide) (by decide)) (rf_W.refl [] m))
        · have B46 : sf_B 0 2147483647 a0 := sf_leR (Int32.not_lt.mp c44) sf_k0 (sf_any a0)
          refine pm_R_lo pm_M62 (pc_q := 5) rfl rfl rfl ?_
          refine pm_R_lo pm_M62 (pc_q := 6) rfl rfl rfl ?_
          refine pm_R_get pm_M62 (pc_q := 9) (v := .ref 17) rfl rfl T.e16 (by decide) (T.lt (by decide)) rfl rfl ?_
          refine pm_R_get pm_M62 (pc_q := 12) (v := .ref 23) rfl rfl T.e17 (by decide) (T.lt (by decide)) rfl rfl ?_
          refine pm_R_op pm_M62 (pc_q := 13) (st_q := [.int 0, .ref 23, .int a0]) rfl rfl rfl ?_
          obtain ⟨z47, ez48⟩ : ∃ y, f31 (Int32.toNatClampNeg 0) = y := ⟨_, rfl⟩
          have B49 : sf_B 0 2 z47 := ez48 ▸ (b33 0)
          refine pm_R_iald pm_M62 (pc_q := 14) (v := z47) rfl e32 (T.lt (by decide)) rfl ez48 rfl ?_
          refine pm_R_icmp pm_M62 (t := 21) (pc_q := 17) rfl rfl rfl (fun c50 => ?_) (fun c50 => ?_)
          · have B51 : sf_B 0 1 a0 := sf_ltL c50 B46 B49
            have B52 : sf_B 1 2 z47 := sf_ltR c50 B46 B49
            refine pm_R_lo pm_M62 (pc_q := 22) rfl rfl rfl ?_
            refine pm_R_get pm_M62 (pc_q := 25) (v := .ref 17) rfl rfl T.e16 (by decide) (T.lt (by decide)) rfl rfl ?_
            refine pm_R_get pm_M62 (pc_q := 28) (v := .ref 19) rfl rfl T.e17 (by decide) (T.lt (by decide)) rfl rfl ?_
            refine pm_R_lo pm_M62 (pc_q := 29) rfl rfl rfl ?_
            obtain ⟨f53, e54, b55⟩ := T.C 19 (by decide) (by decide)
            obtain ⟨l56, hx57⟩ := cl_there0 T e32 e54 ez48 c50 B51 (by decide)
            have hk58 := b55 _ _ hx57
            refine pm_R_aald pm_M62 (pc_q := 30) (v := .ref l56) rfl e54 (by decide) (by decide) (by decide) (T.lt (by decide)) (sf_in B51 (by decide) (by decide)) (by rw [hx57]; rfl) rfl ?_
            refine pm_R_ret pm_M62 (r := some (.ref l56)) rfl rfl ?_
            show pm_R _ 156 16 [.ref 16, .int a0, .int a1, .int a2, .int a3, .int a4, .int a5, .int (-1)] [.ref l56] _ _
            refine pm_R_br pm_M156 (pc_q := 19) rfl rfl ?_
            refine pm_R_lo pm_M156 (pc_q := 20) rfl rfl rfl ?_
            refine pm_R_cs pm_M156 (pc_q := 23) (ra := [.int a1]) (rest := []) (ls_q := [.int a1]) rfl rfl (Or.inl rfl) pm_M82 rfl rfl (Nat.le_of_ble_eq_true rfl) rfl rfl ?_
            refine pm_R_lo pm_M82 (pc_q := 1) rfl rfl rfl ?_
            refine pm_R_ifc pm_M82 (t := 14) (pc_q := 4) rfl rfl rfl (fun c59 => ?_) (fun c59 => ?_)
            · have B60 : sf_B (-2147483648) (-1) a1 := sf_ltL c59 (sf_any a1) sf_k0
              refine pm_R_op pm_M82 (pc_q := 15) (st_q := [.int 0]) rfl rfl rfl ?_
              refine pm_R_ret pm_M82 (r := some (.int 0)) rfl rfl ?_
              show pm_R _ 156 23 [.ref 16, .int a0, .int a1, .int a2, .int a3, .int a4, .int a5, .int (-1)] [.int 0] _ _
              refine pm_R_br pm_M156 (pc_q := 32) (st_q := []) rfl rfl ?_
              refine pm_R_op pm_M156 (pc_q := 33) (st_q := [.int (-1)]) rfl rfl rfl ?_
              exact pm_R_ret pm_M156 (r := some (.int (-1))) rfl rfl (K (-1) m h T ((cl_F.refl (ck := ck) (A := [32, 37, 38]) (n := 0) (s := 0) T.1).weak (by decide) (by decide)) (rf_W.refl [] m))
            · have B61 : sf_B 0 2147483647 a1 := sf_leR (Int32.not_lt.mp c59) sf_k0 (sf_any a1)
              refine pm_R_lo pm_M82 (pc_q := 5) rfl rfl rfl ?_
              refine pm_R_op pm_M82 (pc_q := 7) (st_q := [.int 50, .int a1]) rfl rfl rfl ?_
              refine pm_R_icmp pm_M82 (t := 14) (pc_q := 10) rfl rfl rfl (fun c62 => ?_) (fun c62 => ?_)
              · have B63 : sf_B 50 2147483647 a1 := sf_leR c62 sf_k50 B61
                refine pm_R_op pm_M82 (pc_q := 15) (st_q := [.int 0]) rfl rfl rfl ?_
                refine pm_R_ret pm_M82 (r := some (.int 0)) rfl rfl ?_
                show pm_R _ 156 23 [.ref 16, .int a0, .int a1, .int a2, .int a3, .int a4, .int a5, .int (-1)] [.int 0] _ _
                refine pm_R_br pm_M156 (pc_q := 32) (st_q := []) rfl rfl ?_
                refine pm_R_op pm_M156 (pc_q := 33) (st_q := [.int (-1)]) rfl rfl rfl ?_
                exact pm_R_ret pm_M156 (r := some (.int (-1))) rfl rfl (K (-1) m h T ((cl_F.refl (ck := ck) (A := [32, 37, 38]) (n := 0) (s := 0) T.1).weak (by decide) (by decide)) (rf_W.refl [] m))
              · have B64 : sf_B 0 49 a1 := sf_ltL (Int32.not_le.mp c62) B61 sf_k50
                refine pm_R_op pm_M82 (pc_q := 11) (st_q := [.int 1]) rfl rfl rfl ?_
                refine pm_R_br pm_M82 (pc_q := 15) rfl rfl ?_
                refine pm_R_ret pm_M82 (r := some (.int 1)) rfl rfl ?_
                show pm_R _ 156 23 [.ref 16, .int a0, .int a1, .int a2, .int a3, .int a4, .int a5, .int (-1)] [.int 1] _ _
                refine pm_R_br pm_M156 (pc_q := 26) (st_q := []) rfl rfl ?_
                refine pm_R_lo pm_M156 (pc_q := 28) rfl rfl rfl ?_
                refine pm_R_op pm_M156 (pc_q := 29) (st_q := [.int (-1), .int (-1)]) rfl rfl rfl ?_
                refine pm_R_br pm_M156 (pc_q := 32) (st_q := []) rfl rfl ?_
                refine pm_R_op pm_M156 (pc_q := 33) (st_q := [.int (-1)]) rfl rfl rfl ?_
                exact pm_R_ret pm_M156 (r := some (.int (-1))) rfl rfl (K (-1) m h T ((cl_F.refl (ck := ck) (A := [32, 37, 38]) (n := 0) (s := 0) T.1).weak (by decide) (by decide)) (rf_W.refl [] m))
          · skip
            refine pm_R_op pm_M62 (pc_q := 18) (st_q := [.null]) rfl rfl rfl ?_
            refine pm_R_br pm_M62 (pc_q := 30) rfl rfl ?_
            refine pm_R_ret pm_M62 (r := some (.null)) rfl rfl ?_
            show pm_R _ 156 16 [.ref 16, .int a0, .int a1, .int a2, .int a3, .int a4, .int a5, .int (-1)] [.null] _ _
            refine pm_R_br pm_M156 (pc_q := 32) rfl rfl ?_
            refine pm_R_op pm_M156 (pc_q := 33) (st_q := [.int (-1)]) rfl rfl rfl ?_
            exact pm_R_ret pm_M156 (r := some (.int (-1))) rfl rfl (K (-1) m h T ((cl_F.refl (ck := ck) (A := [32, 37, 38]) (n := 0) (s := 0) T.1).weak (by decide) (by decide)) (rf_W.refl [] m))
      · skip
        refine pm_R_lo pm_M152 (pc_q := 19) rfl rfl rfl ?_
        refine pm_R_lo pm_M152 (pc_q := 20) rfl rfl rfl ?_
        obtain ⟨s65, n66, fd67, fg68, fs69, h70, h71, h72, eE73, eE74, eE75, eE76, b77⟩ := (G.2.2.2.1 l40 hk42).2.2.2
        have kq78 := G.2.2.2.1 l40 hk42
        refine pm_R_cv pm_M152 (pc_q := 23) (a := l40) (ra := [.int a3]) (rest := []) (ls_q := [.ref l40, .int a3]) rfl rfl (Or.inl rfl) pm_M143 (T.im hk42 (by decide) (by decide) eE73) rfl (G.ge hk42 (by decide)) (T.al hk42 (by decide)) rfl rfl (Nat.le_of_ble_eq_true rfl) rfl rfl ?_
        refine pm_R_lo pm_M143 (pc_q := 1) rfl rfl rfl ?_
        refine pm_R_ifc pm_M143 (t := 16) (pc_q := 4) rfl rfl rfl (fun c79 => ?_) (fun c79 => ?_)
        · have B80 : sf_B (-2147483648) (-1) a3 := sf_ltL c79 (sf_any a3) sf_k0
          refine pm_R_op pm_M143 (pc_q := 17) (st_q := [.int 0]) rfl rfl rfl ?_
          refine pm_R_ret pm_M143 (r := some (.int 0)) rfl rfl ?_
          show pm_R _ 152 23 [.ref 16, .int a2, .int a3, .int a4, .ref l40] [.int 0] _ _
          refine pm_R_br pm_M152 (pc_q := 35) (st_q := []) rfl rfl ?_
          refine pm_R_op pm_M152 (pc_q := 36) (st_q := [.int (-1)]) rfl rfl rfl ?_
          refine pm_R_ret pm_M152 (r := some (.int (-1))) rfl rfl ?_
          show pm_R _ 156 9 [.ref 16, .int a0, .int a1, .int a2, .int a3, .int a4, .int a5, pm_no] [.int (-1)] _ _
          refine pm_R_lo pm_M156 (pc_q := 11) (ls_q := [.ref 16, .int a0, .int a1, .int a2, .int a3, .int a4, .int a5, .int (-1)]) (st_q := []) rfl rfl rfl ?_
          refine pm_R_lo pm_M156 (pc_q := 12) rfl rfl rfl ?_
          refine pm_R_lo pm_M156 (pc_q := 13) rfl rfl rfl ?_
          refine pm_R_cv pm_M156 (pc_q := 16) (a := 16) (ra := [.int a0]) (rest := []) (ls_q := [.ref 16, .int a0]) rfl rfl (Or.inl rfl) pm_M62 T.e16 rfl (by decide) (T.lt (by decide)) rfl rfl (Nat.le_of_ble_eq_true rfl) rfl rfl ?_
          refine pm_R_lo pm_M62 (pc_q := 1) rfl rfl rfl ?_
          refine pm_R_ifc pm_M62 (t := 17) (pc_q := 4) rfl rfl rfl (fun c81 => ?_) (fun c81 => ?_)
          · have B82 : sf_B (-2147483648) (-1) a0 := sf_ltL c81 (sf_any a0) sf_k0
            refine pm_R_op pm_M62 (pc_q := 18) (st_q := [.null]) rfl rfl rfl ?_
            refine pm_R_br pm_M62 (pc_q := 30) rfl rfl ?_
            refine pm_R_ret pm_M62 (r := some (.null)) rfl rfl ?_
            show pm_R _ 156 16 [.ref 16, .int a0, .int a1, .int a2, .int a3, .int a4, .int a5, .int (-1)] [.null] _ _
            refine pm_R_br pm_M156 (pc_q := 32) rfl rfl ?_
            refine pm_R_op pm_M156 (pc_q := 33) (st_q := [.int (-1)]) rfl rfl rfl ?_
            exact pm_R_ret pm_M156 (r := some (.int (-1))) rfl rfl (K (-1) m h T ((cl_F.refl (ck := ck) (A := [32, 37, 38]) (n := 0) (s := 0) T.1).weak (by decide) (by decide)) (rf_W.refl [] m))
          · have B83 : sf_B 0 2147483647 a0 := sf_leR (Int32.not_lt.mp c81) sf_k0 (sf_any a0)
            refine pm_R_lo pm_M62 (pc_q := 5) rfl rfl rfl ?_
            refine pm_R_lo pm_M62 (pc_q := 6) rfl rfl rfl ?_
            refine pm_R_get pm_M62 (pc_q := 9) (v := .ref 17) rfl rfl T.e16 (by decide) (T.lt (by decide)) rfl rfl ?_
            refine pm_R_get pm_M62 (pc_q := 12) (v := .ref 23) rfl rfl T.e17 (by decide) (T.lt (by decide)) rfl rfl ?_
            refine pm_R_op pm_M62 (pc_q := 13) (st_q := [.int 0, .ref 23, .int a0]) rfl rfl rfl ?_
            obtain ⟨z84, ez85⟩ : ∃ y, f31 (Int32.toNatClampNeg 0) = y := ⟨_, rfl⟩
            have B86 : sf_B 0 2 z84 := ez85 ▸ (b33 0)
            refine pm_R_iald pm_M62 (pc_q := 14) (v := z84) rfl e32 (T.lt (by decide)) rfl ez85 rfl ?_
            refine pm_R_icmp pm_M62 (t := 21) (pc_q := 17) rfl rfl rfl (fun c87 => ?_) (fun c87 => ?_)
            · have B88 : sf_B 0 1 a0 := sf_ltL c87 B83 B86
              have B89 : sf_B 1 2 z84 := sf_ltR c87 B83 B86
              refine pm_R_lo pm_M62 (pc_q := 22) rfl rfl rfl ?_
              refine pm_R_get pm_M62 (pc_q := 25) (v := .ref 17) rfl rfl T.e16 (by decide) (T.lt (by decide)) rfl rfl ?_
              refine pm_R_get pm_M62 (pc_q := 28) (v := .ref 19) rfl rfl T.e17 (by decide) (T.lt (by decide)) rfl rfl ?_
              refine pm_R_lo pm_M62 (pc_q := 29) rfl rfl rfl ?_
              obtain ⟨f90, e91, b92⟩ := T.C 19 (by decide) (by decide)
              obtain ⟨l93, hx94⟩ := cl_there0 T e32 e91 ez85 c87 B88 (by decide)
              have hk95 := b92 _ _ hx94
              refine pm_R_aald pm_M62 (pc_q := 30) (v := .ref l93) rfl e91 (by decide) (by decide) (by decide) (T.lt (by decide)) (sf_in B88 (by decide) (by decide)) (by rw [hx94]; rfl) rfl ?_
              refine pm_R_ret pm_M62 (r := some (.ref l93)) rfl rfl ?_
              show pm_R _ 156 16 [.ref 16, .int a0, .int a1, .int a2, .int a3, .int a4, .int a5, .int (-1)] [.ref l93] _ _
              refine pm_R_br pm_M156 (pc_q := 19) rfl rfl ?_
              refine pm_R_lo pm_M156 (pc_q := 20) rfl rfl rfl ?_
              refine pm_R_cs pm_M156 (pc_q := 23) (ra := [.int a1]) (rest := []) (ls_q := [.int a1]) rfl rfl (Or.inl rfl) pm_M82 rfl rfl (Nat.le_of_ble_eq_true rfl) rfl rfl ?_
              refine pm_R_lo pm_M82 (pc_q := 1) rfl rfl rfl ?_
              refine pm_R_ifc pm_M82 (t := 14) (pc_q := 4) rfl rfl rfl (fun c96 => ?_) (fun c96 => ?_)
              · have B97 : sf_B (-2147483648) (-1) a1 := sf_ltL c96 (sf_any a1) sf_k0
                refine pm_R_op pm_M82 (pc_q := 15) (st_q := [.int 0]) rfl rfl rfl ?_
                refine pm_R_ret pm_M82 (r := some (.int 0)) rfl rfl ?_
                show pm_R _ 156 23 [.ref 16, .int a0, .int a1, .int a2, .int a3, .int a4, .int a5, .int (-1)] [.int 0] _ _
                refine pm_R_br pm_M156 (pc_q := 32) (st_q := []) rfl rfl ?_
                refine pm_R_op pm_M156 (pc_q := 33) (st_q := [.int (-1)]) rfl rfl rfl ?_
                exact pm_R_ret pm_M156 (r := some (.int (-1))) rfl rfl (K (-1) m h T ((cl_F.refl (ck := ck) (A := [32, 37, 38]) (n := 0) (s := 0) T.1).weak (by decide) (by decide)) (rf_W.refl [] m))
              · have B98 : sf_B 0 2147483647 a1 := sf_leR (Int32.not_lt.mp c96) sf_k0 (sf_any a1)
                refine pm_R_lo pm_M82 (pc_q := 5) rfl rfl rfl ?_
                refine pm_R_op pm_M82 (pc_q := 7) (st_q := [.int 50, .int a1]) rfl rfl rfl ?_
                refine pm_R_icmp pm_M82 (t := 14) (pc_q := 10) rfl rfl rfl (fun c99 => ?_) (fun c99 => ?_)
                · have B100 : sf_B 50 2147483647 a1 := sf_leR c99 sf_k50 B98
                  refine pm_R_op pm_M82 (pc_q := 15) (st_q := [.int 0]) rfl rfl rfl ?_
                  refine pm_R_ret pm_M82 (r := some (.int 0)) rfl rfl ?_
                  show pm_R _ 156 23 [.ref 16, .int a0, .int a1, .int a2, .int a3, .int a4, .int a5, .int (-1)] [.int 0] _ _
                  refine pm_R_br pm_M156 (pc_q := 32) (st_q := []) rfl rfl ?_
                  refine pm_R_op pm_M156 (pc_q := 33) (st_q := [.int (-1)]) rfl rfl rfl ?_
                  exact pm_R_ret pm_M156 (r := some (.int (-1))) rfl rfl (K (-1) m h T ((cl_F.refl (ck := ck) (A := [32, 37, 38]) (n := 0) (s := 0) T.1).weak (by decide) (by decide)) (rf_W.refl [] m))
                · have B101 : sf_B 0 49 a1 := sf_ltL (Int32.not_le.mp c99) B98 sf_k50
                  refine pm_R_op pm_M82 (pc_q := 11) (st_q := [.int 1]) rfl rfl rfl ?_
                  refine pm_R_br pm_M82 (pc_q := 15) rfl rfl ?_
                  refine pm_R_ret pm_M82 (r := some (.int 1)) rfl rfl ?_
                  show pm_R _ 156 23 [.ref 16, .int a0, .int a1, .int a2, .int a3, .int a4, .int a5, .int (-1)] [.int 1] _ _
                  refine pm_R_br pm_M156 (pc_q := 26) (st_q := []) rfl rfl ?_
                  refine pm_R_lo pm_M156 (pc_q := 28) rfl rfl rfl ?_
                  refine pm_R_op pm_M156 (pc_q := 29) (st_q := [.int (-1), .int (-1)]) rfl rfl rfl ?_
                  refine pm_R_br pm_M156 (pc_q := 32) (st_q := []) rfl rfl ?_
                  refine pm_R_op pm_M156 (pc_q := 33) (st_q := [.int (-1)]) rfl rfl rfl ?_
                  exact pm_R_ret pm_M156 (r := some (.int (-1))) rfl rfl (K (-1) m h T ((cl_F.refl (ck := ck) (A := [32, 37, 38]) (n := 0) (s := 0) T.1).weak (by decide) (by decide)) (rf_W.refl [] m))
            · skip
              refine pm_R_op pm_M62 (pc_q := 18) (st_q := [.null]) rfl rfl rfl ?_
              refine pm_R_br pm_M62 (pc_q := 30) rfl rfl ?_
              refine pm_R_ret pm_M62 (r := some (.null)) rfl rfl ?_
              show pm_R _ 156 16 [.ref 16, .int a0, .int a1, .int a2, .int a3, .int a4, .int a5, .int (-1)] [.null] _ _
              refine pm_R_br pm_M156 (pc_q := 32) rfl rfl ?_
              refine pm_R_op pm_M156 (pc_q := 33) (st_q := [.int (-1)]) rfl rfl rfl ?_
              exact pm_R_ret pm_M156 (r := some (.int (-1))) rfl rfl (K (-1) m h T ((cl_F.refl (ck := ck) (A := [32, 37, 38]) (n := 0) (s := 0) T.1).weak (by decide) (by decide)) (rf_W.refl [] m))
        · have B102 : sf_B 0 2147483647 a3 := sf_leR (Int32.not_lt.mp c79) sf_k0 (sf_any a3)
          refine pm_R_lo pm_M143 (pc_q := 5) rfl rfl rfl ?_
          refine pm_R_lo pm_M143 (pc_q := 6) rfl rfl rfl ?_
          refine pm_R_get pm_M143 (pc_q := 9) (v := .int (Int32.ofNat s65)) rfl rfl (T.im hk42 (by decide) (by decide) eE73) (G.ge hk42 (by decide)) (T.al hk42 (by decide)) rfl rfl ?_
          refine pm_R_icmp pm_M143 (t := 16) (pc_q := 12) rfl rfl rfl (fun c103 => ?_) (fun c103 => ?_)
          · have B104 : sf_B 1 2147483647 a3 := sf_leR c103 (sf_ofB1 h71 h70 (by decide)) B102
            refine pm_R_op pm_M143 (pc_q := 17) (st_q := [.int 0]) rfl rfl rfl ?_
            refine pm_R_ret pm_M143 (r := some (.int 0)) rfl rfl ?_
            show pm_R _ 152 23 [.ref 16, .int a2, .int a3, .int a4, .ref l40] [.int 0] _ _
            refine pm_R_br pm_M152 (pc_q := 35) (st_q := []) rfl rfl ?_
            refine pm_R_op pm_M152 (pc_q := 36) (st_q := [.int (-1)]) rfl rfl rfl ?_
            refine pm_R_ret pm_M152 (r := some (.int (-1))) rfl rfl ?_
            show pm_R _ 156 9 [.ref 16, .int a0, .int a1, .int a2, .int a3, .int a4, .int a5, pm_no] [.int (-1)] _ _
            refine pm_R_lo pm_M156 (pc_q := 11) (ls_q := [.ref 16, .int a0, .int a1, .int a2, .int a3, .int a4, .int a5, .int (-1)]) (st_q := []) rfl rfl rfl ?_
            refine pm_R_lo pm_M156 (pc_q := 12) rfl rfl rfl ?_
            refine pm_R_lo pm_M156 (pc_q := 13) rfl rfl rfl ?_
            refine pm_R_cv pm_M156 (pc_q := 16) (a := 16) (ra := [.int a0]) (rest := []) (ls_q := [.ref 16, .int a0]) rfl rfl (Or.inl rfl) pm_M62 T.e16 rfl (by decide) (T.lt (by decide)) rfl rfl (Nat.le_of_ble_eq_true rfl) rfl rfl ?_
            refine pm_R_lo pm_M62 (pc_q := 1) rfl rfl rfl ?_
            refine pm_R_ifc pm_M62 (t := 17) (pc_q := 4) rfl rfl rfl (fun c105 => ?_) (fun c105 => ?_)
            · have B106 : sf_B (-2147483648) (-1) a0 := sf_ltL c105 (sf_any a0) sf_k0
              refine pm_R_op pm_M62 (pc_q := 18) (st_q := [.null]) rfl rfl rfl ?_
              refine pm_R_br pm_M62 (pc_q := 30) rfl rfl ?_
              refine pm_R_ret pm_M62 (r := some (.null)) rfl rfl ?_
              show pm_R _ 156 16 [.ref 16, .int a0, .int a1, .int a2, .int a3, .int a4, .int a5, .int (-1)] [.null] _ _
              refine pm_R_br pm_M156 (pc_q := 32) rfl rfl ?_
              refine pm_R_op pm_M156 (pc_q := 33) (st_q := [.int (-1)]) rfl rfl rfl ?_
              exact pm_R_ret pm_M156 (r := some (.int (-1))) rfl rfl (K (-1) m h T ((cl_F.refl (ck := ck) (A := [32, 37, 38]) (n := 0) (s := 0) T.1).weak (by decide) (by decide)) (rf_W.refl [] m))
            · have B107 : sf_B 0 2147483647 a0 := sf_leR (Int32.not_lt.mp c105) sf_k0 (sf_any a0)
              refine pm_R_lo pm_M62 (pc_q := 5) rfl rfl rfl ?_
              refine pm_R_lo pm_M62 (pc_q := 6) rfl rfl rfl ?_
              refine pm_R_get pm_M62 (pc_q := 9) (v := .ref 17) rfl rfl T.e16 (by decide) (T.lt (by decide)) rfl rfl ?_
              refine pm_R_get pm_M62 (pc_q := 12) (v := .ref 23) rfl rfl T.e17 (by decide) (T.lt (by decide)) rfl rfl ?_
              refine pm_R_op pm_M62 (pc_q := 13) (st_q := [.int 0, .ref 23, .int a0]) rfl rfl rfl ?_
              obtain ⟨z108, ez109⟩ : ∃ y, f31 (Int32.toNatClampNeg 0) = y := ⟨_, rfl⟩
              have B110 : sf_B 0 2 z108 := ez109 ▸ (b33 0)
              refine pm_R_iald pm_M62 (pc_q := 14) (v := z108) rfl e32 (T.lt (by decide)) rfl ez109 rfl ?_
              refine pm_R_icmp pm_M62 (t := 21) (pc_q := 17) rfl rfl rfl (fun c111 => ?_) (fun c111 => ?_)
              · have B112 : sf_B 0 1 a0 := sf_ltL c111 B107 B110
                have B113 : sf_B 1 2 z108 := sf_ltR c111 B107 B110
                refine pm_R_lo pm_M62 (pc_q := 22) rfl rfl rfl ?_
                refine pm_R_get pm_M62 (pc_q := 25) (v := .ref 17) rfl rfl T.e16 (by decide) (T.lt (by decide)) rfl rfl ?_
                refine pm_R_get pm_M62 (pc_q := 28) (v := .ref 19) rfl rfl T.e17 (by decide) (T.lt (by decide)) rfl rfl ?_
                refine pm_R_lo pm_M62 (pc_q := 29) rfl rfl rfl ?_
                obtain ⟨f114, e115, b116⟩ := T.C 19 (by decide) (by decide)
                obtain ⟨l117, hx118⟩ := cl_there0 T e32 e115 ez109 c111 B112 (by decide)
                have hk119 := b116 _ _ hx118
                refine pm_R_aald pm_M62 (pc_q := 30) (v := .ref l117) rfl e115 (by decide) (by decide) (by decide) (T.lt (by decide)) (sf_in B112 (by decide) (by decide)) (by rw [hx118]; rfl) rfl ?_
                refine pm_R_ret pm_M62 (r := some (.ref l117)) rfl rfl ?_
                show pm_R _ 156 16 [.ref 16, .int a0, .int a1, .int a2, .int a3, .int a4, .int a5, .int (-1)] [.ref l117] _ _
                refine pm_R_br pm_M156 (pc_q := 19) rfl rfl ?_
                refine pm_R_lo pm_M156 (pc_q := 20) rfl rfl rfl ?_
                refine pm_R_cs pm_M156 (pc_q := 23) (ra := [.int a1]) (rest := []) (ls_q := [.int a1]) rfl rfl (Or.inl rfl) pm_M82 rfl rfl (Nat.le_of_ble_eq_true rfl) rfl rfl ?_
                refine pm_R_lo pm_M82 (pc_q := 1) rfl rfl rfl ?_
                refine pm_R_ifc pm_M82 (t := 14) (pc_q := 4) rfl rfl rfl (fun c120 => ?_) (fun c120 => ?_)
                · have B121 : sf_B (-2147483648) (-1) a1 := sf_ltL c120 (sf_any a1) sf_k0
                  refine pm_R_op pm_M82 (pc_q := 15) (st_q := [.int 0]) rfl rfl rfl ?_
                  refine pm_R_ret pm_M82 (r := some (.int 0)) rfl rfl ?_
                  show pm_R _ 156 23 [.ref 16, .int a0, .int a1, .int a2, .int a3, .int a4, .int a5, .int (-1)] [.int 0] _ _
                  refine pm_R_br pm_M156 (pc_q := 32) (st_q := []) rfl rfl ?_
                  refine pm_R_op pm_M156 (pc_q := 33) (st_q := [.int (-1)]) rfl rfl rfl ?_
                  exact pm_R_ret pm_M156 (r := some (.int (-1))) rfl rfl (K (-1) m h T ((cl_F.refl (ck := ck) (A := [32, 37, 38]) (n := 0) (s := 0) T.1).weak (by decide) (by decide)) (rf_W.refl [] m))
                · have B122 : sf_B 0 2147483647 a1 := sf_leR (Int32.not_lt.mp c120) sf_k0 (sf_any a1)
                  refine pm_R_lo pm_M82 (pc_q := 5) rfl rfl rfl ?_
                  refine pm_R_op pm_M82 (pc_q := 7) (st_q := [.int 50, .int a1]) rfl rfl rfl ?_
                  refine pm_R_icmp pm_M82 (t := 14) (pc_q := 10) rfl rfl rfl (fun c123 => ?_) (fun c123 => ?_)
                  · have B124 : sf_B 50 2147483647 a1 := sf_leR c123 sf_k50 B122
                    refine pm_R_op pm_M82 (pc_q := 15) (st_q := [.int 0]) rfl rfl rfl ?_
                    refine pm_R_ret pm_M82 (r := some (.int 0)) rfl rfl ?_
                    show pm_R _ 156 23 [.ref 16, .int a0, .int a1, .int a2, .int a3, .int a4, .int a5, .int (-1)] [.int 0] _ _
                    refine pm_R_br pm_M156 (pc_q := 32) (st_q := []) rfl rfl ?_
                    refine pm_R_op pm_M156 (pc_q := 33) (st_q := [.int (-1)]) rfl rfl rfl ?_
                    exact pm_R_ret pm_M156 (r := some (.int (-1))) rfl rfl (K (-1) m h T ((cl_F.refl (ck := ck) (A := [32, 37, 38]) (n := 0) (s := 0) T.1).weak (by decide) (by decide)) (rf_W.refl [] m))
                  · have B125 : sf_B 0 49 a1 := sf_ltL (Int32.not_le.mp c123) B122 sf_k50
                    refine pm_R_op pm_M82 (pc_q := 11) (st_q := [.int 1]) rfl rfl rfl ?_
                    refine pm_R_br pm_M82 (pc_q := 15) rfl rfl ?_
                    refine pm_R_ret pm_M82 (r := some (.int 1)) rfl rfl ?_
                    show pm_R _ 156 23 [.ref 16, .int a0, .int a1, .int a2, .int a3, .int a4, .int a5, .int (-1)] [.int 1] _ _
                    refine pm_R_br pm_M156 (pc_q := 26) (st_q := []) rfl rfl ?_
                    refine pm_R_lo pm_M156 (pc_q := 28) rfl rfl rfl ?_
                    refine pm_R_op pm_M156 (pc_q := 29) (st_q := [.int (-1), .int (-1)]) rfl rfl rfl ?_
                    refine pm_R_br pm_M156 (pc_q := 32) (st_q := []) rfl rfl ?_
                    refine pm_R_op pm_M156 (pc_q := 33) (st_q := [.int (-1)]) rfl rfl rfl ?_
                    exact pm_R_ret pm_M156 (r := some (.int (-1))) rfl rfl (K (-1) m h T ((cl_F.refl (ck := ck) (A := [32, 37, 38]) (n := 0) (s := 0) T.1).weak (by decide) (by decide)) (rf_W.refl [] m))
              · skip
                refine pm_R_op pm_M62 (pc_q := 18) (st_q := [.null]) rfl rfl rfl ?_
                refine pm_R_br pm_M62 (pc_q := 30) rfl rfl ?_
                refine pm_R_ret pm_M62 (r := some (.null)) rfl rfl ?_
                show pm_R _ 156 16 [.ref 16, .int a0, .int a1, .int a2, .int a3, .int a4, .int a5, .int (-1)] [.null] _ _
                refine pm_R_br pm_M156 (pc_q := 32) rfl rfl ?_
                refine pm_R_op pm_M156 (pc_q := 33) (st_q := [.int (-1)]) rfl rfl rfl ?_
                exact pm_R_ret pm_M156 (r := some (.int (-1))) rfl rfl (K (-1) m h T ((cl_F.refl (ck := ck) (A := [32, 37, 38]) (n := 0) (s := 0) T.1).weak (by decide) (by decide)) (rf_W.refl [] m))
          · have B126 : sf_B 0 5 a3 := sf_ltL (Int32.not_le.mp c103) B102 (sf_ofB1 h71 h70 (by decide))
            refine pm_R_op pm_M143 (pc_q := 13) (st_q := [.int 1]) rfl rfl rfl ?_
            refine pm_R_br pm_M143 (pc_q := 17) rfl rfl ?_
            refine pm_R_ret pm_M143 (r := some (.int 1)) rfl rfl ?_
            show pm_R _ 152 23 [.ref 16, .int a2, .int a3, .int a4, .ref l40] [.int 1] _ _
            refine pm_R_br pm_M152 (pc_q := 26) (st_q := []) rfl rfl ?_
            refine pm_R_lo pm_M152 (pc_q := 28) rfl rfl rfl ?_
            refine pm_R_lo pm_M152 (pc_q := 29) rfl rfl rfl ?_
            refine pm_R_cv pm_M152 (pc_q := 32) (a := l40) (ra := [.int a4]) (rest := []) (ls_q := [.ref l40, .int a4]) rfl rfl (Or.inl rfl) pm_M143 (T.im hk42 (by decide) (by decide) eE73) rfl (G.ge hk42 (by decide)) (T.al hk42 (by decide)) rfl rfl (Nat.le_of_ble_eq_true rfl) rfl rfl ?_
            refine pm_R_lo pm_M143 (pc_q := 1) rfl rfl rfl ?_
            refine pm_R_ifc pm_M143 (t := 16) (pc_q := 4) rfl rfl rfl (fun c127 => ?_) (fun c127 => ?_)
            · have B128 : sf_B (-2147483648) (-1) a4 := sf_ltL c127 (sf_any a4) sf_k0
              refine pm_R_op pm_M143 (pc_q := 17) (st_q := [.int 0]) rfl rfl rfl ?_
              refine pm_R_ret pm_M143 (r := some (.int 0)) rfl rfl ?_
              show pm_R _ 152 32 [.ref 16, .int a2, .int a3, .int a4, .ref l40] [.int 0] _ _
              refine pm_R_br pm_M152 (pc_q := 35) (st_q := []) rfl rfl ?_
              refine pm_R_op pm_M152 (pc_q := 36) (st_q := [.int (-1)]) rfl rfl rfl ?_
              refine pm_R_ret pm_M152 (r := some (.int (-1))) rfl rfl ?_
              show pm_R _ 156 9 [.ref 16, .int a0, .int a1, .int a2, .int a3, .int a4, .int a5, pm_no] [.int (-1)] _ _
              refine pm_R_lo pm_M156 (pc_q := 11) (ls_q := [.ref 16, .int a0, .int a1, .int a2, .int a3, .int a4, .int a5, .int (-1)]) (st_q := []) rfl rfl rfl ?_
              refine pm_R_lo pm_M156 (pc_q := 12) rfl rfl rfl ?_
              refine pm_R_lo pm_M156 (pc_q := 13) rfl rfl rfl ?_
              refine pm_R_cv pm_M156 (pc_q := 16) (a := 16) (ra := [.int a0]) (rest := []) (ls_q := [.ref 16, .int a0]) rfl rfl (Or.inl rfl) pm_M62 T.e16 rfl (by decide) (T.lt (by decide)) rfl rfl (Nat.le_of_ble_eq_true rfl) rfl rfl ?_
              refine pm_R_lo pm_M62 (pc_q := 1) rfl rfl rfl ?_
              refine pm_R_ifc pm_M62 (t := 17) (pc_q := 4) rfl rfl rfl (fun c129 => ?_) (fun c129 => ?_)
              · have B130 : sf_B (-2147483648) (-1) a0 := sf_ltL c129 (sf_any a0) sf_k0
                refine pm_R_op pm_M62 (pc_q := 18) (st_q := [.null]) rfl rfl rfl ?_
                refine pm_R_br pm_M62 (pc_q := 30) rfl rfl ?_
                refine pm_R_ret pm_M62 (r := some (.null)) rfl rfl ?_
                show pm_R _ 156 16 [.ref 16, .int a0, .int a1, .int a2, .int a3, .int a4, .int a5, .int (-1)] [.null] _ _
                refine pm_R_br pm_M156 (pc_q := 32) rfl rfl ?_
                refine pm_R_op pm_M156 (pc_q := 33) (st_q := [.int (-1)]) rfl rfl rfl ?_
                exact pm_R_ret pm_M156 (r := some (.int (-1))) rfl rfl (K (-1) m h T ((cl_F.refl (ck := ck) (A := [32, 37, 38]) (n := 0) (s := 0) T.1).weak (by decide) (by decide)) (rf_W.refl [] m))
              · have B131 : sf_B 0 2147483647 a0 := sf_leR (Int32.not_lt.mp c129) sf_k0 (sf_any a0)
                refine pm_R_lo pm_M62 (pc_q := 5) rfl rfl rfl ?_
                refine pm_R_lo pm_M62 (pc_q := 6) rfl rfl rfl ?_
                refine pm_R_get pm_M62 (pc_q := 9) (v := .ref 17) rfl rfl T.e16 (by decide) (T.lt (by decide)) rfl rfl ?_
                refine pm_R_get pm_M62 (pc_q := 12) (v := .ref 23) rfl rfl T.e17 (by decide) (T.lt (by decide)) rfl rfl ?_
                refine pm_R_op pm_M62 (pc_q := 13) (st_q := [.int 0, .ref 23, .int a0]) rfl rfl rfl ?_
                obtain ⟨z132, ez133⟩ : ∃ y, f31 (Int32.toNatClampNeg 0) = y := ⟨_, rfl⟩
                have B134 : sf_B 0 2 z132 := ez133 ▸ (b33 0)
                refine pm_R_iald pm_M62 (pc_q := 14) (v := z132) rfl e32 (T.lt (by decide)) rfl ez133 rfl ?_
                refine pm_R_icmp pm_M62 (t := 21) (pc_q := 17) rfl rfl rfl (fun c135 => ?_) (fun c135 => ?_)
                · have B136 : sf_B 0 1 a0 := sf_ltL c135 B131 B134
                  have B137 : sf_B 1 2 z132 := sf_ltR c135 B131 B134
                  refine pm_R_lo pm_M62 (pc_q := 22) rfl rfl rfl ?_
                  refine pm_R_get pm_M62 (pc_q := 25) (v := .ref 17) rfl rfl T.e16 (by decide) (T.lt (by decide)) rfl rfl ?_
                  refine pm_R_get pm_M62 (pc_q := 28) (v := .ref 19) rfl rfl T.e17 (by decide) (T.lt (by decide)) rfl rfl ?_
                  refine pm_R_lo pm_M62 (pc_q := 29) rfl rfl rfl ?_
                  obtain ⟨f138, e139, b140⟩ := T.C 19 (by decide) (by decide)
                  obtain ⟨l141, hx142⟩ := cl_there0 T e32 e139 ez133 c135 B136 (by decide)
                  have hk143 := b140 _ _ hx142
                  refine pm_R_aald pm_M62 (pc_q := 30) (v := .ref l141) rfl e139 (by decide) (by decide) (by decide) (T.lt (by decide)) (sf_in B136 (by decide) (by decide)) (by rw [hx142]; rfl) rfl ?_
                  refine pm_R_ret pm_M62 (r := some (.ref l141)) rfl rfl ?_
                  show pm_R _ 156 16 [.ref 16, .int a0, .int a1, .int a2, .int a3, .int a4, .int a5, .int (-1)] [.ref l141] _ _
                  refine pm_R_br pm_M156 (pc_q := 19) rfl rfl ?_
                  refine pm_R_lo pm_M156 (pc_q := 20) rfl rfl rfl ?_
                  refine pm_R_cs pm_M156 (pc_q := 23) (ra := [.int a1]) (rest := []) (ls_q := [.int a1]) rfl rfl (Or.inl rfl) pm_M82 rfl rfl (Nat.le_of_ble_eq_true rfl) rfl rfl ?_
                  refine pm_R_lo pm_M82 (pc_q := 1) rfl rfl rfl ?_
                  refine pm_R_ifc pm_M82 (t := 14) (pc_q := 4) rfl rfl rfl (fun c144 => ?_) (fun c144 => ?_)
                  · have B145 : sf_B (-2147483648) (-1) a1 := sf_ltL c144 (sf_any a1) sf_k0
                    refine pm_R_op pm_M82 (pc_q := 15) (st_q := [.int 0]) rfl rfl rfl ?_
                    refine pm_R_ret pm_M82 (r := some (.int 0)) rfl rfl ?_
                    show pm_R _ 156 23 [.ref 16, .int a0, .int a1, .int a2, .int a3, .int a4, .int a5, .int (-1)] [.int 0] _ _
                    refine pm_R_br pm_M156 (pc_q := 32) (st_q := []) rfl rfl ?_
                    refine pm_R_op pm_M156 (pc_q := 33) (st_q := [.int (-1)]) rfl rfl rfl ?_
                    exact pm_R_ret pm_M156 (r := some (.int (-1))) rfl rfl (K (-1) m h T ((cl_F.refl (ck := ck) (A := [32, 37, 38]) (n := 0) (s := 0) T.1).weak (by decide) (by decide)) (rf_W.refl [] m))
                  · have B146 : sf_B 0 2147483647 a1 := sf_leR (Int32.not_lt.mp c144) sf_k0 (sf_any a1)
                    refine pm_R_lo pm_M82 (pc_q := 5) rfl rfl rfl ?_
                    refine pm_R_op pm_M82 (pc_q := 7) (st_q := [.int 50, .int a1]) rfl rfl rfl ?_
                    refine pm_R_icmp pm_M82 (t := 14) (pc_q := 10) rfl rfl rfl (fun c147 => ?_) (fun c147 => ?_)
                    · have B148 : sf_B 50 2147483647 a1 := sf_leR c147 sf_k50 B146
                      refine pm_R_op pm_M82 (pc_q := 15) (st_q := [.int 0]) rfl rfl rfl ?_
                      refine pm_R_ret pm_M82 (r := some (.int 0)) rfl rfl ?_
                      show pm_R _ 156 23 [.ref 16, .int a0, .int a1, .int a2, .int a3, .int a4, .int a5, .int (-1)] [.int 0] _ _
                      refine pm_R_br pm_M156 (pc_q := 32) (st_q := []) rfl rfl ?_
                      refine pm_R_op pm_M156 (pc_q := 33) (st_q := [.int (-1)]) rfl rfl rfl ?_
                      exact pm_R_ret pm_M156 (r := some (.int (-1))) rfl rfl (K (-1) m h T ((cl_F.refl (ck := ck) (A := [32, 37, 38]) (n := 0) (s := 0) T.1).weak (by decide) (by decide)) (rf_W.refl [] m))
                    · have B149 : sf_B 0 49 a1 := sf_ltL (Int32.not_le.mp c147) B146 sf_k50
                      refine pm_R_op pm_M82 (pc_q := 11) (st_q := [.int 1]) rfl rfl rfl ?_
                      refine pm_R_br pm_M82 (pc_q := 15) rfl rfl ?_
                      refine pm_R_ret pm_M82 (r := some (.int 1)) rfl rfl ?_
                      show pm_R _ 156 23 [.ref 16, .int a0, .int a1, .int a2, .int a3, .int a4, .int a5, .int (-1)] [.int 1] _ _
                      refine pm_R_br pm_M156 (pc_q := 26) (st_q := []) rfl rfl ?_
                      refine pm_R_lo pm_M156 (pc_q := 28) rfl rfl rfl ?_
                      refine pm_R_op pm_M156 (pc_q := 29) (st_q := [.int (-1), .int (-1)]) rfl rfl rfl ?_
                      refine pm_R_br pm_M156 (pc_q := 32) (st_q := []) rfl rfl ?_
                      refine pm_R_op pm_M156 (pc_q := 33) (st_q := [.int (-1)]) rfl rfl rfl ?_
                      exact pm_R_ret pm_M156 (r := some (.int (-1))) rfl rfl (K (-1) m h T ((cl_F.refl (ck := ck) (A := [32, 37, 38]) (n := 0) (s := 0) T.1).weak (by decide) (by decide)) (rf_W.refl [] m))
                · skip
                  refine pm_R_op pm_M62 (pc_q := 18) (st_q := [.null]) rfl rfl rfl ?_
                  refine pm_R_br pm_M62 (pc_q := 30) rfl rfl ?_
                  refine pm_R_ret pm_M62 (r := some (.null)) rfl rfl ?_
                  show pm_R _ 156 16 [.ref 16, .int a0, .int a1, .int a2, .int a3, .int a4, .int a5, .int (-1)] [.null] _ _
                  refine pm_R_br pm_M156 (pc_q := 32) rfl rfl ?_
                  refine pm_R_op pm_M156 (pc_q := 33) (st_q := [.int (-1)]) rfl rfl rfl ?_
                  exact pm_R_ret pm_M156 (r := some (.int (-1))) rfl rfl (K (-1) m h T ((cl_F.refl (ck := ck) (A := [32, 37, 38]) (n := 0) (s := 0) T.1).weak (by decide) (by decide)) (rf_W.refl [] m))
            · have B150 : sf_B 0 2147483647 a4 := sf_leR (Int32.not_lt.mp c127) sf_k0 (sf_any a4)
              refine pm_R_lo pm_M143 (pc_q := 5) rfl rfl rfl ?_
              refine pm_R_lo pm_M143 (pc_q := 6) rfl rfl rfl ?_
              refine pm_R_get pm_M143 (pc_q := 9) (v := .int (Int32.ofNat s65)) rfl rfl (T.im hk42 (by decide) (by decide) eE73) (G.ge hk42 (by decide)) (T.al hk42 (by decide)) rfl rfl ?_
              refine pm_R_icmp pm_M143 (t := 16) (pc_q := 12) rfl rfl rfl (fun c151 => ?_) (fun c151 => ?_)
              · have B152 : sf_B 1 2147483647 a4 := sf_leR c151 (sf_ofB1 h71 h70 (by decide)) B150
                refine pm_R_op pm_M143 (pc_q := 17) (st_q := [.int 0]) rfl rfl rfl ?_
                refine pm_R_ret pm_M143 (r := some (.int 0)) rfl rfl ?_
                show pm_R _ 152 32 [.ref 16, .int a2, .int a3, .int a4, .ref l40] [.int 0] _ _
                refine pm_R_br pm_M152 (pc_q := 35) (st_q := []) rfl rfl ?_
                refine pm_R_op pm_M152 (pc_q := 36) (st_q := [.int (-1)]) rfl rfl rfl ?_
                refine pm_R_ret pm_M152 (r := some (.int (-1))) rfl rfl ?_
                show pm_R _ 156 9 [.ref 16, .int a0, .int a1, .int a2, .int a3, .int a4, .int a5, pm_no] [.int (-1)] _ _
                refine pm_R_lo pm_M156 (pc_q := 11) (ls_q := [.ref 16, .int a0, .int a1, .int a2, .int a3, .int a4, .int a5, .int (-1)]) (st_q := []) rfl rfl rfl ?_
                refine pm_R_lo pm_M156 (pc_q := 12) rfl rfl rfl ?_
                refine pm_R_lo pm_M156 (pc_q := 13) rfl rfl rfl ?_
                refine pm_R_cv pm_M156 (pc_q := 16) (a := 16) (ra := [.int a0]) (rest := []) (ls_q := [.ref 16, .int a0]) rfl rfl (Or.inl rfl) pm_M62 T.e16 rfl (by decide) (T.lt (by decide)) rfl rfl (Nat.le_of_ble_eq_true rfl) rfl rfl ?_
                refine pm_R_lo pm_M62 (pc_q := 1) rfl rfl rfl ?_
                refine pm_R_ifc pm_M62 (t := 17) (pc_q := 4) rfl rfl rfl (fun c153 => ?_) (fun c153 => ?_)
                · have B154 : sf_B (-2147483648) (-1) a0 := sf_ltL c153 (sf_any a0) sf_k0
                  refine pm_R_op pm_M62 (pc_q := 18) (st_q := [.null]) rfl rfl rfl ?_
                  refine pm_R_br pm_M62 (pc_q := 30) rfl rfl ?_
                  refine pm_R_ret pm_M62 (r := some (.null)) rfl rfl ?_
                  show pm_R _ 156 16 [.ref 16, .int a0, .int a1, .int a2, .int a3, .int a4, .int a5, .int (-1)] [.null] _ _
                  refine pm_R_br pm_M156 (pc_q := 32) rfl rfl ?_
                  refine pm_R_op pm_M156 (pc_q := 33) (st_q := [.int (-1)]) rfl rfl rfl ?_
                  exact pm_R_ret pm_M156 (r := some (.int (-1))) rfl rfl (K (-1) m h T ((cl_F.refl (ck := ck) (A := [32, 37, 38]) (n := 0) (s := 0) T.1).weak (by decide) (by decide)) (rf_W.refl [] m))
                · have B155 : sf_B 0 2147483647 a0 := sf_leR (Int32.not_lt.mp c153) sf_k0 (sf_any a0)
                  refine pm_R_lo pm_M62 (pc_q := 5) rfl rfl rfl ?_
                  refine pm_R_lo pm_M62 (pc_q := 6) rfl rfl rfl ?_
                  refine pm_R_get pm_M62 (pc_q := 9) (v := .ref 17) rfl rfl T.e16 (by decide) (T.lt (by decide)) rfl rfl ?_
                  refine pm_R_get pm_M62 (pc_q := 12) (v := .ref 23) rfl rfl T.e17 (by decide) (T.lt (by decide)) rfl rfl ?_
                  refine pm_R_op pm_M62 (pc_q := 13) (st_q := [.int 0, .ref 23, .int a0]) rfl rfl rfl ?_
                  obtain ⟨z156, ez157⟩ : ∃ y, f31 (Int32.toNatClampNeg 0) = y := ⟨_, rfl⟩
                  have B158 : sf_B 0 2 z156 := ez157 ▸ (b33 0)
                  refine pm_R_iald pm_M62 (pc_q := 14) (v := z156) rfl e32 (T.lt (by decide)) rfl ez157 rfl ?_
                  refine pm_R_icmp pm_M62 (t := 21) (pc_q := 17) rfl rfl rfl (fun c159 => ?_) (fun c159 => ?_)
                  · have B160 : sf_B 0 1 a0 := sf_ltL c159 B155 B158
                    have B161 : sf_B 1 2 z156 := sf_ltR c159 B155 B158
                    refine pm_R_lo pm_M62 (pc_q := 22) rfl rfl rfl ?_
                    refine pm_R_get pm_M62 (pc_q := 25) (v := .ref 17) rfl rfl T.e16 (by decide) (T.lt (by decide)) rfl rfl ?_
                    refine pm_R_get pm_M62 (pc_q := 28) (v := .ref 19) rfl rfl T.e17 (by decide) (T.lt (by decide)) rfl rfl ?_
                    refine pm_R_lo pm_M62 (pc_q := 29) rfl rfl rfl ?_
                    obtain ⟨f162, e163, b164⟩ := T.C 19 (by decide) (by decide)
                    obtain ⟨l165, hx166⟩ := cl_there0 T e32 e163 ez157 c159 B160 (by decide)
                    have hk167 := b164 _ _ hx166
                    refine pm_R_aald pm_M62 (pc_q := 30) (v := .ref l165) rfl e163 (by decide) (by decide) (by decide) (T.lt (by decide)) (sf_in B160 (by decide) (by decide)) (by rw [hx166]; rfl) rfl ?_
                    refine pm_R_ret pm_M62 (r := some (.ref l165)) rfl rfl ?_
                    show pm_R _ 156 16 [.ref 16, .int a0, .int a1, .int a2, .int a3, .int a4, .int a5, .int (-1)] [.ref l165] _ _
                    refine pm_R_br pm_M156 (pc_q := 19) rfl rfl ?_
                    refine pm_R_lo pm_M156 (pc_q := 20) rfl rfl rfl ?_
                    refine pm_R_cs pm_M156 (pc_q := 23) (ra := [.int a1]) (rest := []) (ls_q := [.int a1]) rfl rfl (Or.inl rfl) pm_M82 rfl rfl (Nat.le_of_ble_eq_true rfl) rfl rfl ?_
                    refine pm_R_lo pm_M82 (pc_q := 1) rfl rfl rfl ?_
                    refine pm_R_ifc pm_M82 (t := 14) (pc_q := 4) rfl rfl rfl (fun c168 => ?_) (fun c168 => ?_)
                    · have B169 : sf_B (-2147483648) (-1) a1 := sf_ltL c168 (sf_any a1) sf_k0
                      refine pm_R_op pm_M82 (pc_q := 15) (st_q := [.int 0]) rfl rfl rfl ?_
                      refine pm_R_ret pm_M82 (r := some (.int 0)) rfl rfl ?_
                      show pm_R _ 156 23 [.ref 16, .int a0, .int a1, .int a2, .int a3, .int a4, .int a5, .int (-1)] [.int 0] _ _
                      refine pm_R_br pm_M156 (pc_q := 32) (st_q := []) rfl rfl ?_
                      refine pm_R_op pm_M156 (pc_q := 33) (st_q := [.int (-1)]) rfl rfl rfl ?_
                      exact pm_R_ret pm_M156 (r := some (.int (-1))) rfl rfl (K (-1) m h T ((cl_F.refl (ck := ck) (A := [32, 37, 38]) (n := 0) (s := 0) T.1).weak (by decide) (by decide)) (rf_W.refl [] m))
                    · have B170 : sf_B 0 2147483647 a1 := sf_leR (Int32.not_lt.mp c168) sf_k0 (sf_any a1)
                      refine pm_R_lo pm_M82 (pc_q := 5) rfl rfl rfl ?_
                      refine pm_R_op pm_M82 (pc_q := 7) (st_q := [.int 50, .int a1]) rfl rfl rfl ?_
                      refine pm_R_icmp pm_M82 (t := 14) (pc_q := 10) rfl rfl rfl (fun c171 => ?_) (fun c171 => ?_)
                      · have B172 : sf_B 50 2147483647 a1 := sf_leR c171 sf_k50 B170
                        refine pm_R_op pm_M82 (pc_q := 15) (st_q := [.int 0]) rfl rfl rfl ?_
                        refine pm_R_ret pm_M82 (r := some (.int 0)) rfl rfl ?_
                        show pm_R _ 156 23 [.ref 16, .int a0, .int a1, .int a2, .int a3, .int a4, .int a5, .int (-1)] [.int 0] _ _
                        refine pm_R_br pm_M156 (pc_q := 32) (st_q := []) rfl rfl ?_
                        refine pm_R_op pm_M156 (pc_q := 33) (st_q := [.int (-1)]) rfl rfl rfl ?_
                        exact pm_R_ret pm_M156 (r := some (.int (-1))) rfl rfl (K (-1) m h T ((cl_F.refl (ck := ck) (A := [32, 37, 38]) (n := 0) (s := 0) T.1).weak (by decide) (by decide)) (rf_W.refl [] m))
                      · have B173 : sf_B 0 49 a1 := sf_ltL (Int32.not_le.mp c171) B170 sf_k50
                        refine pm_R_op pm_M82 (pc_q := 11) (st_q := [.int 1]) rfl rfl rfl ?_
                        refine pm_R_br pm_M82 (pc_q := 15) rfl rfl ?_
                        refine pm_R_ret pm_M82 (r := some (.int 1)) rfl rfl ?_
                        show pm_R _ 156 23 [.ref 16, .int a0, .int a1, .int a2, .int a3, .int a4, .int a5, .int (-1)] [.int 1] _ _
                        refine pm_R_br pm_M156 (pc_q := 26) (st_q := []) rfl rfl ?_
                        refine pm_R_lo pm_M156 (pc_q := 28) rfl rfl rfl ?_
                        refine pm_R_op pm_M156 (pc_q := 29) (st_q := [.int (-1), .int (-1)]) rfl rfl rfl ?_
                        refine pm_R_br pm_M156 (pc_q := 32) (st_q := []) rfl rfl ?_
                        refine pm_R_op pm_M156 (pc_q := 33) (st_q := [.int (-1)]) rfl rfl rfl ?_
                        exact pm_R_ret pm_M156 (r := some (.int (-1))) rfl rfl (K (-1) m h T ((cl_F.refl (ck := ck) (A := [32, 37, 38]) (n := 0) (s := 0) T.1).weak (by decide) (by decide)) (rf_W.refl [] m))
                  · skip
                    refine pm_R_op pm_M62 (pc_q := 18) (st_q := [.null]) rfl rfl rfl ?_
                    refine pm_R_br pm_M62 (pc_q := 30) rfl rfl ?_
                    refine pm_R_ret pm_M62 (r := some (.null)) rfl rfl ?_
                    show pm_R _ 156 16 [.ref 16, .int a0, .int a1, .int a2, .int a3, .int a4, .int a5, .int (-1)] [.null] _ _
                    refine pm_R_br pm_M156 (pc_q := 32) rfl rfl ?_
                    refine pm_R_op pm_M156 (pc_q := 33) (st_q := [.int (-1)]) rfl rfl rfl ?_
                    exact pm_R_ret pm_M156 (r := some (.int (-1))) rfl rfl (K (-1) m h T ((cl_F.refl (ck := ck) (A := [32, 37, 38]) (n := 0) (s := 0) T.1).weak (by decide) (by decide)) (rf_W.refl [] m))
              · have B174 : sf_B 0 5 a4 := sf_ltL (Int32.not_le.mp c151) B150 (sf_ofB1 h71 h70 (by decide))
                refine pm_R_op pm_M143 (pc_q := 13) (st_q := [.int 1]) rfl rfl rfl ?_
                refine pm_R_br pm_M143 (pc_q := 17) rfl rfl ?_
                refine pm_R_ret pm_M143 (r := some (.int 1)) rfl rfl ?_
                show pm_R _ 152 32 [.ref 16, .int a2, .int a3, .int a4, .ref l40] [.int 1] _ _
                refine pm_R_br pm_M152 (pc_q := 37) (st_q := []) rfl rfl ?_
                refine pm_R_lo pm_M152 (pc_q := 39) rfl rfl rfl ?_
                refine pm_R_lo pm_M152 (pc_q := 40) rfl rfl rfl ?_
                refine pm_R_lo pm_M152 (pc_q := 41) rfl rfl rfl ?_
                refine pm_R_cv pm_M152 (pc_q := 44) (a := l40) (ra := [.int a4, .int a3]) (rest := []) (ls_q := [.ref l40, .int a3, .int a4, pm_no, pm_no]) rfl rfl (Or.inl rfl) pm_M153 (T.im hk42 (by decide) (by decide) eE73) rfl (G.ge hk42 (by decide)) (T.al hk42 (by decide)) rfl rfl (Nat.le_of_ble_eq_true rfl) rfl rfl ?_
                refine cl_c153 (d := d + 2) G T hk42 B126 B174 (fun r175 X182 B176 => ?_)
                show pm_R _ 152 44 [.ref 16, .int a2, .int a3, .int a4, .ref l40] [.int r175] _ _
                refine pm_R_ret pm_M152 (r := some (.int r175)) rfl (pm_ret_i _) ?_
                show pm_R _ 156 9 [.ref 16, .int a0, .int a1, .int a2, .int a3, .int a4, .int a5, pm_no] [.int r175] _ _
                refine pm_R_lo pm_M156 (pc_q := 11) (ls_q := [.ref 16, .int a0, .int a1, .int a2, .int a3, .int a4, .int a5, .int r175]) (st_q := []) rfl rfl rfl ?_
                refine pm_R_lo pm_M156 (pc_q := 12) rfl rfl rfl ?_
                refine pm_R_lo pm_M156 (pc_q := 13) rfl rfl rfl ?_
                refine pm_R_cv pm_M156 (pc_q := 16) (a := 16) (ra := [.int a0]) (rest := []) (ls_q := [.ref 16, .int a0]) rfl rfl (Or.inl rfl) pm_M62 T.e16 rfl (by decide) (T.lt (by decide)) rfl rfl (Nat.le_of_ble_eq_true rfl) rfl rfl ?_
                refine pm_R_lo pm_M62 (pc_q := 1) rfl rfl rfl ?_
                refine pm_R_ifc pm_M62 (t := 17) (pc_q := 4) rfl rfl rfl (fun c183 => ?_) (fun c183 => ?_)
                · have B184 : sf_B (-2147483648) (-1) a0 := sf_ltL c183 (sf_any a0) sf_k0
                  refine pm_R_op pm_M62 (pc_q := 18) (st_q := [.null]) rfl rfl rfl ?_
                  refine pm_R_br pm_M62 (pc_q := 30) rfl rfl ?_
                  refine pm_R_ret pm_M62 (r := some (.null)) rfl rfl ?_
                  show pm_R _ 156 16 [.ref 16, .int a0, .int a1, .int a2, .int a3, .int a4, .int a5, .int r175] [.null] _ _
                  refine pm_R_br pm_M156 (pc_q := 32) rfl rfl ?_
                  refine pm_R_op pm_M156 (pc_q := 33) (st_q := [.int (-1)]) rfl rfl rfl ?_
                  exact pm_R_ret pm_M156 (r := some (.int (-1))) rfl rfl (K (-1) m h T ((cl_F.refl (ck := ck) (A := [32, 37, 38]) (n := 0) (s := 0) T.1).weak (by decide) (by decide)) (rf_W.refl [] m))
                · have B185 : sf_B 0 2147483647 a0 := sf_leR (Int32.not_lt.mp c183) sf_k0 (sf_any a0)
                  refine pm_R_lo pm_M62 (pc_q := 5) rfl rfl rfl ?_
                  refine pm_R_lo pm_M62 (pc_q := 6) rfl rfl rfl ?_
                  refine pm_R_get pm_M62 (pc_q := 9) (v := .ref 17) rfl rfl T.e16 (by decide) (T.lt (by decide)) rfl rfl ?_
                  refine pm_R_get pm_M62 (pc_q := 12) (v := .ref 23) rfl rfl T.e17 (by decide) (T.lt (by decide)) rfl rfl ?_
                  refine pm_R_op pm_M62 (pc_q := 13) (st_q := [.int 0, .ref 23, .int a0]) rfl rfl rfl ?_
                  obtain ⟨z186, ez187⟩ : ∃ y, f31 (Int32.toNatClampNeg 0) = y := ⟨_, rfl⟩
                  have B188 : sf_B 0 2 z186 := ez187 ▸ (b33 0)
                  refine pm_R_iald pm_M62 (pc_q := 14) (v := z186) rfl e32 (T.lt (by decide)) rfl ez187 rfl ?_
                  refine pm_R_icmp pm_M62 (t := 21) (pc_q := 17) rfl rfl rfl (fun c189 => ?_) (fun c189 => ?_)
                  · have B190 : sf_B 0 1 a0 := sf_ltL c189 B185 B188
                    have B191 : sf_B 1 2 z186 := sf_ltR c189 B185 B188
                    refine pm_R_lo pm_M62 (pc_q := 22) rfl rfl rfl ?_
                    refine pm_R_get pm_M62 (pc_q := 25) (v := .ref 17) rfl rfl T.e16 (by decide) (T.lt (by decide)) rfl rfl ?_
                    refine pm_R_get pm_M62 (pc_q := 28) (v := .ref 19) rfl rfl T.e17 (by decide) (T.lt (by decide)) rfl rfl ?_
                    refine pm_R_lo pm_M62 (pc_q := 29) rfl rfl rfl ?_
                    obtain ⟨f192, e193, b194⟩ := T.C 19 (by decide) (by decide)
                    obtain ⟨l195, hx196⟩ := cl_there0 T e32 e193 ez187 c189 B190 (by decide)
                    have hk197 := b194 _ _ hx196
                    refine pm_R_aald pm_M62 (pc_q := 30) (v := .ref l195) rfl e193 (by decide) (by decide) (by decide) (T.lt (by decide)) (sf_in B190 (by decide) (by decide)) (by rw [hx196]; rfl) rfl ?_
                    refine pm_R_ret pm_M62 (r := some (.ref l195)) rfl rfl ?_
                    show pm_R _ 156 16 [.ref 16, .int a0, .int a1, .int a2, .int a3, .int a4, .int a5, .int r175] [.ref l195] _ _
                    refine pm_R_br pm_M156 (pc_q := 19) rfl rfl ?_
                    refine pm_R_lo pm_M156 (pc_q := 20) rfl rfl rfl ?_
                    refine pm_R_cs pm_M156 (pc_q := 23) (ra := [.int a1]) (rest := []) (ls_q := [.int a1]) rfl rfl (Or.inl rfl) pm_M82 rfl rfl (Nat.le_of_ble_eq_true rfl) rfl rfl ?_
                    refine pm_R_lo pm_M82 (pc_q := 1) rfl rfl rfl ?_
                    refine pm_R_ifc pm_M82 (t := 14) (pc_q := 4) rfl rfl rfl (fun c198 => ?_) (fun c198 => ?_)
                    · have B199 : sf_B (-2147483648) (-1) a1 := sf_ltL c198 (sf_any a1) sf_k0
                      refine pm_R_op pm_M82 (pc_q := 15) (st_q := [.int 0]) rfl rfl rfl ?_
                      refine pm_R_ret pm_M82 (r := some (.int 0)) rfl rfl ?_
                      show pm_R _ 156 23 [.ref 16, .int a0, .int a1, .int a2, .int a3, .int a4, .int a5, .int r175] [.int 0] _ _
                      refine pm_R_br pm_M156 (pc_q := 32) (st_q := []) rfl rfl ?_
                      refine pm_R_op pm_M156 (pc_q := 33) (st_q := [.int (-1)]) rfl rfl rfl ?_
                      exact pm_R_ret pm_M156 (r := some (.int (-1))) rfl rfl (K (-1) m h T ((cl_F.refl (ck := ck) (A := [32, 37, 38]) (n := 0) (s := 0) T.1).weak (by decide) (by decide)) (rf_W.refl [] m))
                    · have B200 : sf_B 0 2147483647 a1 := sf_leR (Int32.not_lt.mp c198) sf_k0 (sf_any a1)
                      refine pm_R_lo pm_M82 (pc_q := 5) rfl rfl rfl ?_
                      refine pm_R_op pm_M82 (pc_q := 7) (st_q := [.int 50, .int a1]) rfl rfl rfl ?_
                      refine pm_R_icmp pm_M82 (t := 14) (pc_q := 10) rfl rfl rfl (fun c201 => ?_) (fun c201 => ?_)
                      · have B202 : sf_B 50 2147483647 a1 := sf_leR c201 sf_k50 B200
                        refine pm_R_op pm_M82 (pc_q := 15) (st_q := [.int 0]) rfl rfl rfl ?_
                        refine pm_R_ret pm_M82 (r := some (.int 0)) rfl rfl ?_
                        show pm_R _ 156 23 [.ref 16, .int a0, .int a1, .int a2, .int a3, .int a4, .int a5, .int r175] [.int 0] _ _
                        refine pm_R_br pm_M156 (pc_q := 32) (st_q := []) rfl rfl ?_
                        refine pm_R_op pm_M156 (pc_q := 33) (st_q := [.int (-1)]) rfl rfl rfl ?_
                        exact pm_R_ret pm_M156 (r := some (.int (-1))) rfl rfl (K (-1) m h T ((cl_F.refl (ck := ck) (A := [32, 37, 38]) (n := 0) (s := 0) T.1).weak (by decide) (by decide)) (rf_W.refl [] m))
                      · have B203 : sf_B 0 49 a1 := sf_ltL (Int32.not_le.mp c201) B200 sf_k50
                        refine pm_R_op pm_M82 (pc_q := 11) (st_q := [.int 1]) rfl rfl rfl ?_
                        refine pm_R_br pm_M82 (pc_q := 15) rfl rfl ?_
                        refine pm_R_ret pm_M82 (r := some (.int 1)) rfl rfl ?_
                        show pm_R _ 156 23 [.ref 16, .int a0, .int a1, .int a2, .int a3, .int a4, .int a5, .int r175] [.int 1] _ _
                        refine pm_R_br pm_M156 (pc_q := 26) (st_q := []) rfl rfl ?_
                        refine pm_R_lo pm_M156 (pc_q := 28) rfl rfl rfl ?_
                        refine pm_R_op pm_M156 (pc_q := 29) (st_q := [.int (-1), .int r175]) rfl rfl rfl ?_
                        refine pm_R_icmp pm_M156 (t := 34) (pc_q := 32) rfl rfl rfl (fun c204 => ?_) (fun c204 => ?_)
                        · have B205 : sf_B 1 5 r175 := cl_gap X182 c204 B176
                          refine pm_R_lo pm_M156 (pc_q := 35) rfl rfl rfl ?_
                          refine pm_R_lo pm_M156 (pc_q := 36) rfl rfl rfl ?_
                          refine pm_R_cv pm_M156 (pc_q := 39) (a := 16) (ra := [.int a0]) (rest := []) (ls_q := [.ref 16, .int a0]) rfl rfl (Or.inl rfl) pm_M122 T.e16 rfl (by decide) (T.lt (by decide)) rfl rfl (Nat.le_of_ble_eq_true rfl) rfl rfl ?_
                          have F215 := (cl_F.refl (ck := ck) (A := [32, 37, 38]) (n := 0) (s := 0) T.1)
                          refine cl_c122 (d := d + 4) G T (sf_in B190 (by decide) (by decide)) e193 hx196 hk197 (fun c206 ck h207 lt208 G T209 F210 kc211 nn212 lf213 low214 => ?_)
                          have F216 := F215.ck (fun b hb => (lt208 b hb).symm) F215.2.1
                          have F217 := F210.ck (fun b hb => (lt208 b hb).symm) (Nat.le_refl _)
                          have gr218 := fun (b : Nat) (hb : b < h.1) => (lt208 b (Nat.lt_of_lt_of_le hb F215.2.1))
                          have hk219 := (lt208 _ (T.al hk197 (by decide))).trans hk197
                          have F220 := F216.trans (N := 5) (S := 24466) F217 (by decide) (by decide) (by decide)
                          have e221 := (low214 19 (by decide) (by decide)).trans e193
                          show pm_R _ 156 39 [.ref 16, .int a0, .int a1, .int a2, .int a3, .int a4, .int a5, .int r175] [.ref c206] _ _
                          refine pm_R_lo pm_M156 (pc_q := 40) rfl rfl rfl ?_
                          refine pm_R_lo pm_M156 (pc_q := 42) rfl rfl rfl ?_
                          refine pm_R_op pm_M156 (pc_q := 43) (st_q := [.int 1, .int r175, .int a1, .ref c206]) rfl rfl rfl ?_
                          refine sf_R_isub pm_M156 (pc_q := 44) rfl rfl B205 sf_k1 (by decide) (by decide) (fun z222 e223 B224 => ?_)
                          refine pm_R_lo pm_M156 (pc_q := 45) rfl rfl rfl ?_
                          refine pm_R_get pm_M156 (pc_q := 48) (v := .ref 31) rfl rfl T209.e16 (by decide) (T209.lt (by decide)) rfl rfl ?_
                          refine pm_R_lo pm_M156 (pc_q := 49) rfl rfl rfl ?_
                          refine pm_R_get pm_M156 (pc_q := 52) (v := .ref 38) rfl rfl T209.e16 (by decide) (T209.lt (by decide)) rfl rfl ?_
                          obtain ⟨lo225, fi226, av227, ah228, an229, kl230, B231, B232, eS233⟩ := id nn212
                          have nn234 : cl_NN ck h207 c206 := ⟨lo225, fi226, av227, ah228, an229, kl230, B231, B232, eS233⟩
                          refine pm_R_cv pm_M156 (pc_q := 55) (a := c206) (ra := [.ref 38, .ref 31, .int z222, .int a1]) (rest := []) (ls_q := [.ref c206, .int a1, .int z222, .ref 31, .ref 38, pm_no, pm_no, pm_no]) rfl rfl (Or.inl rfl) pm_M125 eS233 rfl (G.ge kc211 (by decide)) (T209.al kc211 (by decide)) rfl rfl (Nat.le_of_ble_eq_true rfl) rfl rfl ?_
                          refine cl_c125 (d := d + 0) G T209 kc211 B203 (sf_weak B224 (by decide) (by decide)) nn234 (fun r235 m237 h238 T239 F240 W241 X242 B236 => ?_)
                          have F243 := F220.trans (N := 5) (S := 24466) F240 (by decide) (by decide) (by decide)
                          have W244 : rf_W [] m m237 := (rf_W.refl [] m).trans W241 (by decide)
                          show pm_R _ 156 55 [.ref 16, .int a0, .int a1, .int a2, .int a3, .int a4, .int a5, .int r175] [.int r235] _ _
                          have nn245 := X242 _ kc211 nn234
                          refine pm_R_lo pm_M156 (pc_q := 57) rfl rfl rfl ?_
                          refine pm_R_cs pm_M156 (pc_q := 60) (ra := [.int a5, .int r235]) (rest := []) (ls_q := [.int r235, .int a5, pm_no]) rfl rfl (Or.inl rfl) pm_M133 rfl rfl (Nat.le_of_ble_eq_true rfl) rfl rfl ?_
                          refine pm_R_lo pm_M133 (pc_q := 1) rfl rfl rfl ?_
                          refine pm_R_op pm_M133 (pc_q := 2) (st_q := [.int (-1), .int r235]) rfl rfl rfl ?_
                          refine pm_R_icmp pm_M133 (t := 9) (pc_q := 5) rfl rfl rfl (fun c246 => ?_) (fun c246 => ?_)
                          · have B247 : sf_B (-1) (-1) r235 := sf_eqL c246 sf_kn1
                            refine pm_R_op pm_M133 (pc_q := 10) (st_q := [.int (-1)]) rfl rfl rfl ?_
                            refine pm_R_ret pm_M133 (r := some (.int (-1))) rfl rfl ?_
                            show pm_R _ 156 60 [.ref 16, .int a0, .int a1, .int a2, .int a3, .int a4, .int a5, .int r175] [.int (-1)] _ _
                            exact pm_R_ret pm_M156 (r := some (.int (-1))) rfl rfl (K2 (-1) m237 o ck h238 gr218 G T239 (F243.ck gr218 (Nat.le_refl _)) W244)
                          · have B248 : sf_B 0 11109 r235 := sf_neL0 c246 sf_kn1 B236
                            refine pm_R_lo pm_M133 (pc_q := 6) rfl rfl rfl ?_
                            refine pm_R_ifc pm_M133 (t := 11) (pc_q := 9) rfl rfl rfl (fun c249 => ?_) (fun c249 => ?_)
                            · have B250 : sf_B 0 2147483647 a5 := sf_leR c249 sf_k0 (sf_any a5)
                              refine pm_R_lo pm_M133 (pc_q := 12) rfl rfl rfl ?_
                              refine pm_R_cs pm_M133 (pc_q := 15) (ra := [.int r235]) (rest := []) (ls_q := [.int r235, pm_no]) rfl rfl (Or.inl rfl) pm_M134 rfl rfl (Nat.le_of_ble_eq_true rfl) rfl rfl ?_
                              refine cl_c134 (d := d + 4) G T239 B248 (fun r251 B252 => ?_)
                              show pm_R _ 133 15 [.int r235, .int a5, pm_no] [.int r251] _ _
                              refine pm_R_lo pm_M133 (pc_q := 16) (ls_q := [.int r235, .int a5, .int r251]) (st_q := []) rfl rfl rfl ?_
                              refine pm_R_lo pm_M133 (pc_q := 17) rfl rfl rfl ?_
                              refine pm_R_ifc pm_M133 (t := 22) (pc_q := 20) rfl rfl rfl (fun c258 => ?_) (fun c258 => ?_)
                              · have B259 : sf_B 1 2147483647 a5 := sf_neL0 c258 sf_k0 B250
                                refine pm_R_lo pm_M133 (pc_q := 23) rfl rfl rfl ?_
                                refine pm_R_lo pm_M133 (pc_q := 24) rfl rfl rfl ?_
                                refine pm_R_icmp pm_M133 (t := 38) (pc_q := 27) rfl rfl rfl (fun c260 => ?_) (fun c260 => ?_)
                                · have B261 : sf_B 2 2147483647 a5 := sf_ltR c260 B252 B259
                                  refine pm_R_op pm_M133 (pc_q := 39) (st_q := [.int (-1)]) rfl rfl rfl ?_
                                  refine pm_R_ret pm_M133 (r := some (.int (-1))) rfl rfl ?_
                                  show pm_R _ 156 60 [.ref 16, .int a0, .int a1, .int a2, .int a3, .int a4, .int a5, .int r175] [.int (-1)] _ _
                                  exact pm_R_ret pm_M156 (r := some (.int (-1))) rfl rfl (K2 (-1) m237 o ck h238 gr218 G T239 (F243.ck gr218 (Nat.le_refl _)) W244)
                                · have B262 : sf_B 1 4 a5 := sf_leL (Int32.not_lt.mp c260) B259 B252
                                  refine pm_R_lo pm_M133 (pc_q := 28) rfl rfl rfl ?_
                                  refine pm_R_lo pm_M133 (pc_q := 29) rfl rfl rfl ?_
                                  refine pm_R_lo pm_M133 (pc_q := 30) rfl rfl rfl ?_
                                  refine pm_R_op pm_M133 (pc_q := 31) (st_q := [.int 1, .int a5, .int r251, .int r235]) rfl rfl rfl ?_
                                  refine sf_R_isub pm_M133 (pc_q := 32) rfl rfl B262 sf_k1 (by decide) (by decide) (fun z263 e264 B265 => ?_)
                                  refine pm_R_cs pm_M133 (pc_q := 35) (ra := [.int z263, .int r251, .int r235]) (rest := []) (ls_q := [.int r235, .int r251, .int z263]) rfl rfl (Or.inl rfl) pm_M132 rfl rfl (Nat.le_of_ble_eq_true rfl) rfl rfl ?_
                                  refine pm_R_lo pm_M132 (pc_q := 1) rfl rfl rfl ?_
                                  refine pm_R_stat pm_M132 (pc_q := 4) rfl rfl rfl ?_
                                  refine pm_R_lo pm_M132 (pc_q := 5) rfl rfl rfl ?_
                                  obtain ⟨z266, ez267⟩ : ∃ y, pm_sv6.getD (Int32.toNatClampNeg r251) 0 = y := ⟨_, rfl⟩
                                  have B268 : sf_B 0 1110 z266 := ez267 ▸ cl_tab (l := pm_sv6) (a := 0) (b := 1110) B252 (by decide) (by decide)
                                  refine pm_R_iald pm_M132 (pc_q := 6) (v := z266) rfl ((T239.old (by decide)).trans G.tb6) (T239.lt (by decide)) (sf_in B252 (by decide) (by decide)) ez267 rfl ?_
                                  refine sf_R_isub pm_M132 (pc_q := 7) rfl rfl B248 B268 (by decide) (by decide) (fun z269 e270 B271 => ?_)
                                  refine pm_R_stat pm_M132 (pc_q := 10) rfl rfl rfl ?_
                                  refine pm_R_lo pm_M132 (pc_q := 11) rfl rfl rfl ?_
                                  refine pm_R_op pm_M132 (pc_q := 12) (st_q := [.int 1, .int r251, .ref 5, .int z269]) rfl rfl rfl ?_
                                  refine sf_R_isub pm_M132 (pc_q := 13) rfl rfl B252 sf_k1 (by decide) (by decide) (fun z272 e273 B274 => ?_)
                                  refine pm_R_lo pm_M132 (pc_q := 14) rfl rfl rfl ?_
                                  refine sf_R_isub pm_M132 (pc_q := 15) rfl rfl B274 B265 (by decide) (by decide) (fun z275 e276 B277 => ?_)
                                  have B281 : sf_B 0 3 z275 := ⟨(cl_aux22 _ _ _ _ _ e273 e264 e276 (Int32.le_iff_toInt_le.mp (Int32.not_lt.mp c260))), B277.2⟩
                                  obtain ⟨z278, ez279⟩ : ∃ y, pm_sv5.getD (Int32.toNatClampNeg z275) 0 = y := ⟨_, rfl⟩
                                  have B280 : sf_B 1 1000 z278 := ez279 ▸ cl_tab (l := pm_sv5) (a := 1) (b := 1000) B281 (by decide) (by decide)
                                  refine pm_R_iald pm_M132 (pc_q := 16) (v := z278) rfl ((T239.old (by decide)).trans G.tb5) (T239.lt (by decide)) (sf_in B281 (by decide) (by decide)) ez279 rfl ?_
                                  refine sf_R_idivA pm_M132 (pc_q := 17) rfl rfl (sf_neq1 B280 sf_k0 (by decide)) (fun z282 => ?_)
                                  refine pm_R_op pm_M132 (pc_q := 19) (st_q := [.int 10, .int z282]) rfl rfl rfl ?_
                                  refine sf_R_iremA pm_M132 (pc_q := 20) rfl rfl (sf_neq1 sf_k10 sf_k0 (by decide)) (fun z285 => ?_)
                                  refine pm_R_ret pm_M132 (r := some (.int z285)) rfl (pm_ret_i _) ?_
                                  show pm_R _ 133 35 [.int r235, .int a5, .int r251] [.int z285] _ _
                                  refine pm_R_br pm_M133 (pc_q := 39) rfl rfl ?_
                                  refine pm_R_ret pm_M133 (r := some (.int z285)) rfl (pm_ret_i _) ?_
                                  show pm_R _ 156 60 [.ref 16, .int a0, .int a1, .int a2, .int a3, .int a4, .int a5, .int r175] [.int z285] _ _
                                  exact pm_R_ret pm_M156 (r := some (.int z285)) rfl (pm_ret_i _) (K2 z285 m237 o ck h238 gr218 G T239 (F243.ck gr218 (Nat.le_refl _)) W244)
                              · have B288 : sf_B 0 0 a5 := sf_eqL (Classical.not_not.mp c258) sf_k0
                                refine pm_R_lo pm_M133 (pc_q := 21) rfl rfl rfl ?_
                                refine pm_R_ret pm_M133 (r := some (.int r251)) rfl (pm_ret_i _) ?_
                                show pm_R _ 156 60 [.ref 16, .int a0, .int a1, .int a2, .int a3, .int a4, .int a5, .int r175] [.int r251] _ _
                                exact pm_R_ret pm_M156 (r := some (.int r251)) rfl (pm_ret_i _) (K2 r251 m237 o ck h238 gr218 G T239 (F243.ck gr218 (Nat.le_refl _)) W244)
                            · have B289 : sf_B (-2147483648) (-1) a5 := sf_ltL (Int32.not_le.mp c249) (sf_any a5) sf_k0
                              refine pm_R_op pm_M133 (pc_q := 10) (st_q := [.int (-1)]) rfl rfl rfl ?_
                              refine pm_R_ret pm_M133 (r := some (.int (-1))) rfl rfl ?_
                              show pm_R _ 156 60 [.ref 16, .int a0, .int a1, .int a2, .int a3, .int a4, .int a5, .int r175] [.int (-1)] _ _
                              exact pm_R_ret pm_M156 (r := some (.int (-1))) rfl rfl (K2 (-1) m237 o ck h238 gr218 G T239 (F243.ck gr218 (Nat.le_refl _)) W244)
                        · have B290 : sf_B (-1) (-1) r175 := sf_eqL (Classical.not_not.mp c204) sf_kn1
                          refine pm_R_op pm_M156 (pc_q := 33) (st_q := [.int (-1)]) rfl rfl rfl ?_
                          exact pm_R_ret pm_M156 (r := some (.int (-1))) rfl rfl (K (-1) m h T ((cl_F.refl (ck := ck) (A := [32, 37, 38]) (n := 0) (s := 0) T.1).weak (by decide) (by decide)) (rf_W.refl [] m))
                  · skip
                    refine pm_R_op pm_M62 (pc_q := 18) (st_q := [.null]) rfl rfl rfl ?_
                    refine pm_R_br pm_M62 (pc_q := 30) rfl rfl ?_
                    refine pm_R_ret pm_M62 (r := some (.null)) rfl rfl ?_
                    show pm_R _ 156 16 [.ref 16, .int a0, .int a1, .int a2, .int a3, .int a4, .int a5, .int r175] [.null] _ _
                    refine pm_R_br pm_M156 (pc_q := 32) rfl rfl ?_
                    refine pm_R_op pm_M156 (pc_q := 33) (st_q := [.int (-1)]) rfl rfl rfl ?_
                    exact pm_R_ret pm_M156 (r := some (.int (-1))) rfl rfl (K (-1) m h T ((cl_F.refl (ck := ck) (A := [32, 37, 38]) (n := 0) (s := 0) T.1).weak (by decide) (by decide)) (rf_W.refl [] m))
    · skip
      refine pm_R_op pm_M139 (pc_q := 18) (st_q := [.null]) rfl rfl rfl ?_
      refine pm_R_br pm_M139 (pc_q := 30) rfl rfl ?_
      refine pm_R_ret pm_M139 (r := some (.null)) rfl rfl ?_
      show pm_R _ 152 5 [.ref 16, .int a2, .int a3, .int a4, pm_no] [.null] _ _
      refine pm_R_lo pm_M152 (pc_q := 7) (ls_q := [.ref 16, .int a2, .int a3, .int a4, .null]) (st_q := []) rfl rfl rfl ?_
      refine pm_R_lo pm_M152 (pc_q := 9) rfl rfl rfl ?_
      refine pm_R_br pm_M152 (pc_q := 35) rfl rfl ?_
      refine pm_R_op pm_M152 (pc_q := 36) (st_q := [.int (-1)]) rfl rfl rfl ?_
      refine pm_R_ret pm_M152 (r := some (.int (-1))) rfl rfl ?_
      show pm_R _ 156 9 [.ref 16, .int a0, .int a1, .int a2, .int a3, .int a4, .int a5, pm_no] [.int (-1)] _ _
      refine pm_R_lo pm_M156 (pc_q := 11) (ls_q := [.ref 16, .int a0, .int a1, .int a2, .int a3, .int a4, .int a5, .int (-1)]) (st_q := []) rfl rfl rfl ?_
      refine pm_R_lo pm_M156 (pc_q := 12) rfl rfl rfl ?_
      refine pm_R_lo pm_M156 (pc_q := 13) rfl rfl rfl ?_
      refine pm_R_cv pm_M156 (pc_q := 16) (a := 16) (ra := [.int a0]) (rest := []) (ls_q := [.ref 16, .int a0]) rfl rfl (Or.inl rfl) pm_M62 T.e16 rfl (by decide) (T.lt (by decide)) rfl rfl (Nat.le_of_ble_eq_true rfl) rfl rfl ?_
      refine pm_R_lo pm_M62 (pc_q := 1) rfl rfl rfl ?_
      refine pm_R_ifc pm_M62 (t := 17) (pc_q := 4) rfl rfl rfl (fun c291 => ?_) (fun c291 => ?_)
      · have B292 : sf_B (-2147483648) (-1) a0 := sf_ltL c291 (sf_any a0) sf_k0
        refine pm_R_op pm_M62 (pc_q := 18) (st_q := [.null]) rfl rfl rfl ?_
        refine pm_R_br pm_M62 (pc_q := 30) rfl rfl ?_
        refine pm_R_ret pm_M62 (r := some (.null)) rfl rfl ?_
        show pm_R _ 156 16 [.ref 16, .int a0, .int a1, .int a2, .int a3, .int a4, .int a5, .int (-1)] [.null] _ _
        refine pm_R_br pm_M156 (pc_q := 32) rfl rfl ?_
        refine pm_R_op pm_M156 (pc_q := 33) (st_q := [.int (-1)]) rfl rfl rfl ?_
        exact pm_R_ret pm_M156 (r := some (.int (-1))) rfl rfl (K (-1) m h T ((cl_F.refl (ck := ck) (A := [32, 37, 38]) (n := 0) (s := 0) T.1).weak (by decide) (by decide)) (rf_W.refl [] m))
      · have B293 : sf_B 0 2147483647 a0 := sf_leR (Int32.not_lt.mp c291) sf_k0 (sf_any a0)
        refine pm_R_lo pm_M62 (pc_q := 5) rfl rfl rfl ?_
        refine pm_R_lo pm_M62 (pc_q := 6) rfl rfl rfl ?_
        refine pm_R_get pm_M62 (pc_q := 9) (v := .ref 17) rfl rfl T.e16 (by decide) (T.lt (by decide)) rfl rfl ?_
        refine pm_R_get pm_M62 (pc_q := 12) (v := .ref 23) rfl rfl T.e17 (by decide) (T.lt (by decide)) rfl rfl ?_
        refine pm_R_op pm_M62 (pc_q := 13) (st_q := [.int 0, .ref 23, .int a0]) rfl rfl rfl ?_
        obtain ⟨z294, ez295⟩ : ∃ y, f31 (Int32.toNatClampNeg 0) = y := ⟨_, rfl⟩
        have B296 : sf_B 0 2 z294 := ez295 ▸ (b33 0)
        refine pm_R_iald pm_M62 (pc_q := 14) (v := z294) rfl e32 (T.lt (by decide)) rfl ez295 rfl ?_
        refine pm_R_icmp pm_M62 (t := 21) (pc_q := 17) rfl rfl rfl (fun c297 => ?_) (fun c297 => ?_)
        · have B298 : sf_B 0 1 a0 := sf_ltL c297 B293 B296
          have B299 : sf_B 1 2 z294 := sf_ltR c297 B293 B296
          refine pm_R_lo pm_M62 (pc_q := 22) rfl rfl rfl ?_
          refine pm_R_get pm_M62 (pc_q := 25) (v := .ref 17) rfl rfl T.e16 (by decide) (T.lt (by decide)) rfl rfl ?_
          refine pm_R_get pm_M62 (pc_q := 28) (v := .ref 19) rfl rfl T.e17 (by decide) (T.lt (by decide)) rfl rfl ?_
          refine pm_R_lo pm_M62 (pc_q := 29) rfl rfl rfl ?_
          obtain ⟨f300, e301, b302⟩ := T.C 19 (by decide) (by decide)
          obtain ⟨l303, hx304⟩ := cl_there0 T e32 e301 ez295 c297 B298 (by decide)
          have hk305 := b302 _ _ hx304
          refine pm_R_aald pm_M62 (pc_q := 30) (v := .ref l303) rfl e301 (by decide) (by decide) (by decide) (T.lt (by decide)) (sf_in B298 (by decide) (by decide)) (by rw [hx304]; rfl) rfl ?_
          refine pm_R_ret pm_M62 (r := some (.ref l303)) rfl rfl ?_
          show pm_R _ 156 16 [.ref 16, .int a0, .int a1, .int a2, .int a3, .int a4, .int a5, .int (-1)] [.ref l303] _ _
          refine pm_R_br pm_M156 (pc_q := 19) rfl rfl ?_
          refine pm_R_lo pm_M156 (pc_q := 20) rfl rfl rfl ?_
          refine pm_R_cs pm_M156 (pc_q := 23) (ra := [.int a1]) (rest := []) (ls_q := [.int a1]) rfl rfl (Or.inl rfl) pm_M82 rfl rfl (Nat.le_of_ble_eq_true rfl) rfl rfl ?_
          refine pm_R_lo pm_M82 (pc_q := 1) rfl rfl rfl ?_
          refine pm_R_ifc pm_M82 (t := 14) (pc_q := 4) rfl rfl rfl (fun c306 => ?_) (fun c306 => ?_)
          · have B307 : sf_B (-2147483648) (-1) a1 := sf_ltL c306 (sf_any a1) sf_k0
            refine pm_R_op pm_M82 (pc_q := 15) (st_q := [.int 0]) rfl rfl rfl ?_
            refine pm_R_ret pm_M82 (r := some (.int 0)) rfl rfl ?_
            show pm_R _ 156 23 [.ref 16, .int a0, .int a1, .int a2, .int a3, .int a4, .int a5, .int (-1)] [.int 0] _ _
            refine pm_R_br pm_M156 (pc_q := 32) (st_q := []) rfl rfl ?_
            refine pm_R_op pm_M156 (pc_q := 33) (st_q := [.int (-1)]) rfl rfl rfl ?_
            exact pm_R_ret pm_M156 (r := some (.int (-1))) rfl rfl (K (-1) m h T ((cl_F.refl (ck := ck) (A := [32, 37, 38]) (n := 0) (s := 0) T.1).weak (by decide) (by decide)) (rf_W.refl [] m))
          · have B308 : sf_B 0 2147483647 a1 := sf_leR (Int32.not_lt.mp c306) sf_k0 (sf_any a1)
            refine pm_R_lo pm_M82 (pc_q := 5) rfl rfl rfl ?_
            refine pm_R_op pm_M82 (pc_q := 7) (st_q := [.int 50, .int a1]) rfl rfl rfl ?_
            refine pm_R_icmp pm_M82 (t := 14) (pc_q := 10) rfl rfl rfl (fun c309 => ?_) (fun c309 => ?_)
            · have B310 : sf_B 50 2147483647 a1 := sf_leR c309 sf_k50 B308
              refine pm_R_op pm_M82 (pc_q := 15) (st_q := [.int 0]) rfl rfl rfl ?_
              refine pm_R_ret pm_M82 (r := some (.int 0)) rfl rfl ?_
              show pm_R _ 156 23 [.ref 16, .int a0, .int a1, .int a2, .int a3, .int a4, .int a5, .int (-1)] [.int 0] _ _
              refine pm_R_br pm_M156 (pc_q := 32) (st_q := []) rfl rfl ?_
              refine pm_R_op pm_M156 (pc_q := 33) (st_q := [.int (-1)]) rfl rfl rfl ?_
              exact pm_R_ret pm_M156 (r := some (.int (-1))) rfl rfl (K (-1) m h T ((cl_F.refl (ck := ck) (A := [32, 37, 38]) (n := 0) (s := 0) T.1).weak (by decide) (by decide)) (rf_W.refl [] m))
            · have B311 : sf_B 0 49 a1 := sf_ltL (Int32.not_le.mp c309) B308 sf_k50
              refine pm_R_op pm_M82 (pc_q := 11) (st_q := [.int 1]) rfl rfl rfl ?_
              refine pm_R_br pm_M82 (pc_q := 15) rfl rfl ?_
              refine pm_R_ret pm_M82 (r := some (.int 1)) rfl rfl ?_
              show pm_R _ 156 23 [.ref 16, .int a0, .int a1, .int a2, .int a3, .int a4, .int a5, .int (-1)] [.int 1] _ _
              refine pm_R_br pm_M156 (pc_q := 26) (st_q := []) rfl rfl ?_
              refine pm_R_lo pm_M156 (pc_q := 28) rfl rfl rfl ?_
              refine pm_R_op pm_M156 (pc_q := 29) (st_q := [.int (-1), .int (-1)]) rfl rfl rfl ?_
              refine pm_R_br pm_M156 (pc_q := 32) (st_q := []) rfl rfl ?_
              refine pm_R_op pm_M156 (pc_q := 33) (st_q := [.int (-1)]) rfl rfl rfl ?_
              exact pm_R_ret pm_M156 (r := some (.int (-1))) rfl rfl (K (-1) m h T ((cl_F.refl (ck := ck) (A := [32, 37, 38]) (n := 0) (s := 0) T.1).weak (by decide) (by decide)) (rf_W.refl [] m))
        · skip
          refine pm_R_op pm_M62 (pc_q := 18) (st_q := [.null]) rfl rfl rfl ?_
          refine pm_R_br pm_M62 (pc_q := 30) rfl rfl ?_
          refine pm_R_ret pm_M62 (r := some (.null)) rfl rfl ?_
          show pm_R _ 156 16 [.ref 16, .int a0, .int a1, .int a2, .int a3, .int a4, .int a5, .int (-1)] [.null] _ _
          refine pm_R_br pm_M156 (pc_q := 32) rfl rfl ?_
          refine pm_R_op pm_M156 (pc_q := 33) (st_q := [.int (-1)]) rfl rfl rfl ?_
          exact pm_R_ret pm_M156 (r := some (.int (-1))) rfl rfl (K (-1) m h T ((cl_F.refl (ck := ck) (A := [32, 37, 38]) (n := 0) (s := 0) T.1).weak (by decide) (by decide)) (rf_W.refl [] m))
