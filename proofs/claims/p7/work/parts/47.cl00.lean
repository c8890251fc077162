set_option maxRecDepth 100000 in
set_option maxHeartbeats 4000000 in
/-- java/util/Arrays.fill -/
theorem cl_c102_32g {d : Nat} {ck : cl_K} {E : Nat → pm_E} {m : Nat → Int32} {o : Nat → Option Nat} {h : pm_H} {Q : Option Value → pm_H → Prop} {a1 : Int32} {a2 : Int32} {a3 : Int64} (G : cl_G ck E) (T : cl_T ck E m o h) (Ba1 : sf_B 0 468 a1) (Ba2 : sf_B 0 468 a2) (R : a1 ≤ a2) (K : ∀ (m_q : Nat → Int32) (h_q : pm_H), cl_T ck E m_q o h_q → cl_F ck [32] 0 0 h h_q → rf_W [] m m_q → rf_G [32] h h_q → Q none h_q) : pm_R (d + 1) 102 0 [.ref 32, .int a1, .int a2, .long a3, pm_no, pm_no] [] h Q := by
  refine pm_R_lo pm_M102 (pc_q := 1) rfl rfl rfl ?_
  obtain ⟨f1, e2⟩ := T.C 32 (by decide) (by decide)
  refine pm_R_alen pm_M102 (pc_q := 2) (v := 468) rfl e2 (by decide) (T.lt (by decide)) (by decide) rfl rfl ?_
  refine pm_R_lo pm_M102 (pc_q := 3) rfl rfl rfl ?_
  refine pm_R_lo pm_M102 (pc_q := 4) rfl rfl rfl ?_
  refine pm_R_cs pm_M102 (pc_q := 7) (ra := [.int a2, .int a1, .int 468]) (rest := []) (ls_q := [.int 468, .int a1, .int a2]) rfl rfl (Or.inl rfl) pm_M50 rfl rfl (Nat.le_of_ble_eq_true rfl) rfl rfl ?_
  refine pm_R_lo pm_M50 (pc_q := 1) rfl rfl rfl ?_
  refine pm_R_lo pm_M50 (pc_q := 2) rfl rfl rfl ?_
  refine pm_R_icmp pm_M50 (t := 46) (pc_q := 5) rfl rfl rfl (fun c4 => ?_) (fun c4 => absurd (Int32.not_le.mp c4) (Int32.not_lt.mpr R))
  skip
  refine pm_R_lo pm_M50 (pc_q := 47) rfl rfl rfl ?_
  refine pm_R_ifc pm_M50 (t := 59) (pc_q := 50) rfl rfl rfl (fun c5 => ?_) (fun c5 => absurd (Int32.not_le.mp c5) (sf_nlt Ba1 sf_k0 (by decide)))
  skip
  refine pm_R_lo pm_M50 (pc_q := 60) rfl rfl rfl ?_
  refine pm_R_lo pm_M50 (pc_q := 61) rfl rfl rfl ?_
  refine pm_R_icmp pm_M50 (t := 73) (pc_q := 64) rfl rfl rfl (fun c6 => ?_) (fun c6 => absurd (Int32.not_le.mp c6) (sf_nlt sf_k468 Ba2 (by decide)))
  skip
  refine pm_R_ret pm_M50 (r := none) rfl rfl ?_
  show pm_R _ 102 7 [.ref 32, .int a1, .int a2, .long a3, pm_no, pm_no] [] _ _
  refine pm_R_lo pm_M102 (pc_q := 8) rfl rfl rfl ?_
  refine pm_R_lo pm_M102 (pc_q := 10) (ls_q := [.ref 32, .int a1, .int a2, .long a3, pm_no, .int a1]) (st_q := []) rfl rfl rfl ?_
  have L_45 : ∀ (N : Nat) (h_45 : pm_H) (m_45 : Nat → Int32) (x5_45 : Int32), cl_T ck E m_45 o h_45 → cl_F ck [32] 0 0 h h_45 → rf_W [] m m_45 → sf_B 0 468 x5_45 → rf_G [32] h h_45 → (468 - x5_45.toInt).toNat = N → pm_R (d + 1) 102 10 [.ref 32, .int a1, .int a2, .long a3, pm_no, .int x5_45] [] h_45 Q := by
    intro N
    induction N using Nat.strongRecOn with
    | ind N ih_45 =>
      intro h_45 m_45 x5_45 T_45 F_45 W_45 Bx5_45 X_45 hN_45
      have W48 : rf_W [] m m_45 := (rf_W.refl [] m).trans W_45 (by decide)
      refine pm_R_lo pm_M102 (pc_q := 12) rfl rfl rfl ?_
      refine pm_R_lo pm_M102 (pc_q := 13) rfl rfl rfl ?_
      refine pm_R_icmp pm_M102 (t := 27) (pc_q := 16) rfl rfl rfl (fun c49 => ?_) (fun c49 => ?_)
      · skip
        exact pm_R_ret pm_M102 (r := none) rfl rfl (K m_45 h_45 T_45 F_45 W48 X_45)
      · have B50 : sf_B 0 467 x5_45 := sf_ltL (Int32.not_le.mp c49) Bx5_45 Ba2
        have B51 : sf_B 1 468 a2 := sf_ltR (Int32.not_le.mp c49) Bx5_45 Ba2
        refine pm_R_lo pm_M102 (pc_q := 17) rfl rfl rfl ?_
        refine pm_R_lo pm_M102 (pc_q := 19) rfl rfl rfl ?_
        refine pm_R_lo pm_M102 (pc_q := 20) rfl rfl rfl ?_
        obtain ⟨f52, e53⟩ := T_45.C 32 (by decide) (by decide)
        refine cl_R_lst G pm_M102 T_45 (pc_q := 21) rfl e53 (by decide) ⟨_, rfl⟩ (sf_in B50 (by decide) (by decide)) rfl (fun h55 T56 F57 e58 => ?_)
        have F59 := F57.cl (ck := ck) T_45.1
        have F60 := F_45.trans (N := 0) (S := 0) F59 (by decide) (by decide) (by decide)
        have gx61 := X_45.trans F57 (by decide)
        refine sf_R_iinc pm_M102 (pc_q := 24) (ls_q := fun z => [.ref 32, .int a1, .int a2, .long a3, pm_no, .int z]) rfl B50 rfl (by decide) (by decide) (by decide) (fun _ => rfl) rfl (fun z62 e63 B64 => ?_)
        show pm_R _ 102 24 [.ref 32, .int a1, .int a2, .long a3, pm_no, .int z62] [] _ _
        refine pm_R_br pm_M102 (pc_q := 10) rfl rfl ?_
        exact ih_45 _ (sf_up hN_45 e63 B50 (by decide) (by decide)) h55 m_45 z62 T56 F60 W_45 (sf_weak B64 (by decide) (by decide)) gx61 rfl
  exact L_45 _ h m a1 T (cl_F.refl (ck := ck) (A := [32]) (n := 0) (s := 0) T.1) (rf_W.refl _ _) Ba1 (rf_G.refl [32] h) rfl

set_option maxRecDepth 100000 in
set_option maxHeartbeats 4000000 in
/-- SilentTable$MeaningChart.fillSign -/
theorem cl_c101_g {d : Nat} {ck : cl_K} {E : Nat → pm_E} {m : Nat → Int32} {o : Nat → Option Nat} {h : pm_H} {Q : Option Value → pm_H → Prop} {a0 : Nat} {a1 : Int32} {a2 : Int32} (G : cl_G ck E) (T : cl_T ck E m o h) (hk0 : ck a0 = 1) (Ba2 : sf_B 0 11 a2) (K : ∀ (m_q : Nat → Int32) (h_q : pm_H), cl_T ck E m_q o h_q → cl_F ck [32] 0 0 h h_q → rf_W [] m m_q → rf_G [32] h h_q → Q none h_q) : pm_R (d + 2) 101 0 [.ref 31, .ref a0, .int a1, .int a2, pm_no, pm_no, pm_no] [] h Q := by
  refine pm_R_lo pm_M101 (pc_q := 1) rfl rfl rfl ?_
  refine pm_R_lo pm_M101 (pc_q := 2) rfl rfl rfl ?_
  refine pm_R_cs pm_M101 (pc_q := 5) (ra := [.int a2, .int a2]) (rest := []) (ls_q := [.int a2, .int a2]) rfl rfl (Or.inr rfl) pm_M73 rfl rfl (Nat.le_of_ble_eq_true rfl) rfl rfl ?_
  refine pm_R_lo pm_M73 (pc_q := 1) rfl rfl rfl ?_
  refine pm_R_lo pm_M73 (pc_q := 2) rfl rfl rfl ?_
  refine pm_R_op pm_M73 (pc_q := 3) (st_q := [.int 1, .int a2, .int a2]) rfl rfl rfl ?_
  refine sf_R_iadd pm_M73 (pc_q := 4) rfl rfl Ba2 sf_k1 (by decide) (by decide) (fun z1 e2 B3 => ?_)
  refine sf_R_imul pm_M73 (pc_q := 5) rfl rfl Ba2 B3 (by decide) (by decide) (by decide) (fun z4 e5 B6 => ?_)
  refine pm_R_op pm_M73 (pc_q := 6) (st_q := [.int 2, .int z4]) rfl rfl rfl ?_
  refine sf_R_idiv pm_M73 (pc_q := 7) rfl rfl B6 sf_k2 (by decide) (by decide) (fun z7 e8 B9 => ?_)
  refine pm_R_lo pm_M73 (pc_q := 8) rfl rfl rfl ?_
  refine sf_R_iadd pm_M73 (pc_q := 9) rfl rfl B9 Ba2 (by decide) (by decide) (fun z10 e11 B12 => ?_)
  refine pm_R_ret pm_M73 (r := some (.int z10)) rfl (pm_ret_i _) ?_
  show pm_R _ 101 5 [.ref 31, .ref a0, .int a1, .int a2, pm_no, pm_no, pm_no] [.int z10] _ _
  refine pm_R_op pm_M101 (pc_q := 7) (st_q := [.int 6, .int z10]) rfl rfl rfl ?_
  refine sf_R_imul pm_M101 (pc_q := 8) rfl rfl B12 sf_k6 (by decide) (by decide) (by decide) (fun z13 e14 B15 => ?_)
  refine pm_R_lo pm_M101 (pc_q := 10) (ls_q := [.ref 31, .ref a0, .int a1, .int a2, .int z13, pm_no, pm_no]) (st_q := []) rfl rfl rfl ?_
  refine pm_R_lo pm_M101 (pc_q := 11) rfl rfl rfl ?_
  refine pm_R_get pm_M101 (pc_q := 14) (v := .ref 32) rfl rfl T.e31 (by decide) (T.lt (by decide)) rfl rfl ?_
  refine pm_R_lo pm_M101 (pc_q := 16) rfl rfl rfl ?_
  refine pm_R_lo pm_M101 (pc_q := 18) rfl rfl rfl ?_
  refine pm_R_op pm_M101 (pc_q := 20) (st_q := [.int 6, .int z13, .int z13, .ref 32]) rfl rfl rfl ?_
  refine sf_R_iadd pm_M101 (pc_q := 21) rfl rfl B15 sf_k6 (by decide) (by decide) (fun z16 e17 B18 => ?_)
  refine pm_R_op pm_M101 (pc_q := 22) (st_q := [.long 0, .int z16, .int z13, .ref 32]) rfl rfl rfl ?_
  refine pm_R_cs pm_M101 (pc_q := 25) (ra := [.long 0, .int z16, .int z13, .ref 32]) (rest := []) (ls_q := [.ref 32, .int z13, .int z16, .long 0, pm_no, pm_no]) rfl rfl (Or.inl rfl) pm_M102 rfl rfl (Nat.le_of_ble_eq_true rfl) rfl rfl ?_
  refine cl_c102_32g (d := d + 0) G T (sf_weak B15 (by decide) (by decide)) (sf_weak B18 (by decide) (by decide)) (Int32.le_iff_toInt_le.mpr (cl_aux8 _ _ _ _ _ e11 e14 e17 B9.1 B9.2 Ba2.1 Ba2.2)) (fun m21 h22 T23 F24 W25 X26 => ?_)
  have F27 := (cl_F.refl (ck := ck) (A := [32]) (n := 0) (s := 0) T.1).trans (N := 0) (S := 0) F24 (by decide) (by decide) (by decide)
  have W28 : rf_W [] m m21 := (rf_W.refl [] m).trans W25 (by decide)
  show pm_R _ 101 25 [.ref 31, .ref a0, .int a1, .int a2, .int z13, pm_no, pm_no] [] _ _
  have gx29 := (rf_G.refl [32] h).trans X26 (by decide)
  refine pm_R_op pm_M101 (pc_q := 26) (st_q := [.int 0]) rfl rfl rfl ?_
  refine pm_R_lo pm_M101 (pc_q := 28) (ls_q := [.ref 31, .ref a0, .int a1, .int a2, .int z13, .int 0, pm_no]) (st_q := []) rfl rfl rfl ?_
  have L_1524 : ∀ (N : Nat) (h_1524 : pm_H) (m_1524 : Nat → Int32) (x5_1524 : Int32) (g6_1524 : Value), cl_T ck E m_1524 o h_1524 → cl_F ck [32] 0 0 h h_1524 → rf_W [] m21 m_1524 → sf_B 0 10 x5_1524 → g6_1524.category = 1 → rf_G [32] h h_1524 → (10 - x5_1524.toInt).toNat = N → pm_R (d + 2) 101 28 [.ref 31, .ref a0, .int a1, .int a2, .int z13, .int x5_1524, g6_1524] [] h_1524 Q := by
    intro N
    induction N using Nat.strongRecOn with
    | ind N ih_1524 =>
      intro h_1524 m_1524 x5_1524 g6_1524 T_1524 F_1524 W_1524 Bx5_1524 Cg6_1524 X_1524 hN_1524
      have W1527 : rf_W [] m m_1524 := W28.trans W_1524 (by decide)
      refine pm_R_lo pm_M101 (pc_q := 30) rfl rfl rfl ?_
      refine pm_R_op pm_M101 (pc_q := 32) (st_q := [.int 10, .int x5_1524]) rfl rfl rfl ?_
      refine pm_R_icmp pm_M101 (t := 92) (pc_q := 35) rfl rfl rfl (fun c1528 => ?_) (fun c1528 => ?_)
      · have B1529 : sf_B 10 10 x5_1524 := sf_leR c1528 sf_k10 Bx5_1524
        exact pm_R_ret pm_M101 (r := none) rfl rfl (K m_1524 h_1524 T_1524 F_1524 W1527 X_1524)
      · have B1530 : sf_B 0 9 x5_1524 := sf_ltL (Int32.not_le.mp c1528) Bx5_1524 sf_k10
        refine pm_R_lo pm_M101 (pc_q := 36) rfl rfl rfl ?_
        refine pm_R_lo pm_M101 (pc_q := 38) rfl rfl rfl ?_
        refine sf_R_iany pm_M101 (pc_q := 39) (st := []) rfl rfl rfl (fun z1534 => ?_)
        refine pm_R_op pm_M101 (pc_q := 40) (st_q := [.int 1, .int z1534]) rfl rfl rfl ?_
        refine sf_R_iandE pm_M101 (pc_q := 41) rfl rfl sf_k1 (by decide) (fun z1535 e1536 B1537 => ?_)
        refine pm_R_ifc pm_M101 (t := 86) (pc_q := 44) rfl rfl rfl (fun c1538 => ?_) (fun c1538 => ?_)
        · have B1539 : sf_B 0 0 z1535 := sf_eqL c1538 sf_k0
          refine sf_R_iinc pm_M101 (pc_q := 89) (ls_q := fun z => [.ref 31, .ref a0, .int a1, .int a2, .int z13, .int z, g6_1524]) rfl B1530 rfl (by decide) (by decide) (by decide) (fun _ => rfl) rfl (fun z1540 e1541 B1542 => ?_)
          show pm_R _ 101 89 [.ref 31, .ref a0, .int a1, .int a2, .int z13, .int z1540, g6_1524] [] _ _
          refine pm_R_br pm_M101 (pc_q := 28) rfl rfl ?_
          exact ih_1524 _ (sf_up hN_1524 e1541 B1530 (by decide) (by decide)) h_1524 m_1524 z1540 (g6_1524) T_1524 F_1524 W_1524 (sf_weak B1542 (by decide) (by decide)) Cg6_1524 X_1524 rfl
        · have B1543 : sf_B 1 1 z1535 := sf_neL0 c1538 sf_k0 B1537
          refine pm_R_op pm_M101 (pc_q := 45) (st_q := [.int 0]) rfl rfl rfl ?_
          refine pm_R_lo pm_M101 (pc_q := 47) (ls_q := [.ref 31, .ref a0, .int a1, .int a2, .int z13, .int x5_1524, .int 0]) (st_q := []) rfl rfl rfl ?_
          have L_1824 : ∀ (N : Nat) (h_1824 : pm_H) (m_1824 : Nat → Int32) (x6_1824 : Int32), cl_T ck E m_1824 o h_1824 → cl_F ck [32] 0 0 h h_1824 → rf_W [] m_1524 m_1824 → sf_B 0 6 x6_1824 → rf_G [32] h h_1824 → (6 - x6_1824.toInt).toNat = N → pm_R (d + 2) 101 47 [.ref 31, .ref a0, .int a1, .int a2, .int z13, .int x5_1524, .int x6_1824] [] h_1824 Q := by
            intro N
            induction N using Nat.strongRecOn with
            | ind N ih_1824 =>
              intro h_1824 m_1824 x6_1824 T_1824 F_1824 W_1824 Bx6_1824 X_1824 hN_1824
              have W1827 : rf_W [] m m_1824 := W1527.trans W_1824 (by decide)
              have W1828 : rf_W [] m21 m_1824 := W_1524.trans W_1824 (by decide)
              refine pm_R_lo pm_M101 (pc_q := 49) rfl rfl rfl ?_
              refine pm_R_op pm_M101 (pc_q := 51) (st_q := [.int 6, .int x6_1824]) rfl rfl rfl ?_
              refine pm_R_icmp pm_M101 (t := 86) (pc_q := 54) rfl rfl rfl (fun c1829 => ?_) (fun c1829 => ?_)
              · have B1830 : sf_B 6 6 x6_1824 := sf_leR c1829 sf_k6 Bx6_1824
                refine sf_R_iinc pm_M101 (pc_q := 89) (ls_q := fun z => [.ref 31, .ref a0, .int a1, .int a2, .int z13, .int z, .int x6_1824]) rfl B1530 rfl (by decide) (by decide) (by decide) (fun _ => rfl) rfl (fun z1831 e1832 B1833 => ?_)
                show pm_R _ 101 89 [.ref 31, .ref a0, .int a1, .int a2, .int z13, .int z1831, .int x6_1824] [] _ _
                refine pm_R_br pm_M101 (pc_q := 28) rfl rfl ?_
                exact ih_1524 _ (sf_up hN_1524 e1832 B1530 (by decide) (by decide)) h_1824 m_1824 z1831 (.int x6_1824) T_1824 F_1824 W1828 (sf_weak B1833 (by decide) (by decide)) rfl X_1824 rfl
              · have B1834 : sf_B 0 5 x6_1824 := sf_ltL (Int32.not_le.mp c1829) Bx6_1824 sf_k6
                refine pm_R_lo pm_M101 (pc_q := 55) rfl rfl rfl ?_
                refine pm_R_get pm_M101 (pc_q := 58) (v := .ref 32) rfl rfl T_1824.e31 (by decide) (T_1824.lt (by decide)) rfl rfl ?_
                refine pm_R_lo pm_M101 (pc_q := 60) rfl rfl rfl ?_
                refine pm_R_lo pm_M101 (pc_q := 62) rfl rfl rfl ?_
                refine sf_R_iadd pm_M101 (pc_q := 63) rfl rfl B15 B1834 (by decide) (by decide) (fun z1835 e1836 B1837 => ?_)
                refine pm_R_op pm_M101 (pc_q := 64) (st_q := [.int z1835, .ref 32, .int z1835, .ref 32]) rfl rfl rfl ?_
                obtain ⟨f1841, e1842⟩ := T_1824.C 32 (by decide) (by decide)
                obtain ⟨z1838, ez1839⟩ : ∃ y, f1841 (Int32.toNatClampNeg z1835) = y := ⟨_, rfl⟩
                refine pm_R_lald pm_M101 (pc_q := 65) (v := z1838) rfl e1842 (by decide) (T_1824.lt (by decide)) (sf_in B1837 (by decide) (by decide)) ez1839 rfl ?_
                refine pm_R_lo pm_M101 (pc_q := 66) rfl rfl rfl ?_
                obtain ⟨rc1844, tc1845, rs1846, fv1847, fw1848, fr1849, ft1850, fn1851, h1852, h1853, B1854, eE1855, eE1856, eE1857, eE1858, eE1859, eE1860, b1861, b1862, b1863⟩ := (G.2.1 a0 hk0).2.2.2.2.2
                have kq1864 := G.2.1 a0 hk0
                refine pm_R_get pm_M101 (pc_q := 69) (v := .ref (a0 + 1)) rfl rfl (T_1824.im hk0 (by decide) (by decide) eE1855) (G.ge hk0 (by decide)) (T_1824.al hk0 (by decide)) rfl rfl ?_
                refine pm_R_lo pm_M101 (pc_q := 71) rfl rfl rfl ?_
                refine pm_R_op pm_M101 (pc_q := 73) (st_q := [.int 6, .int x5_1524, .ref (a0 + 1), .long z1838, .int z1835, .ref 32]) rfl rfl rfl ?_
                refine sf_R_imul pm_M101 (pc_q := 74) rfl rfl B1530 sf_k6 (by decide) (by decide) (by decide) (fun z1865 e1866 B1867 => ?_)
                refine pm_R_lo pm_M101 (pc_q := 76) rfl rfl rfl ?_
                refine sf_R_iadd pm_M101 (pc_q := 77) rfl rfl B1867 B1834 (by decide) (by decide) (fun z1868 e1869 B1870 => ?_)
                obtain ⟨z1871, ez1872⟩ : ∃ y, fv1847 (Int32.toNatClampNeg z1868) = y := ⟨_, rfl⟩
                refine pm_R_lald pm_M101 (pc_q := 78) (v := z1871) rfl (T_1824.im kq1864.1 (by decide) (by decide) eE1856) (G.ge kq1864.1 (by decide)) (T_1824.al kq1864.1 (by decide)) (sf_in B1870 (by decide) (by decide)) ez1872 rfl ?_
                refine sf_R_lany pm_M101 (pc_q := 79) (st := [.int z1835, .ref 32]) rfl rfl rfl (fun z1874 => ?_)
                refine cl_R_lst G pm_M101 T_1824 (pc_q := 80) rfl e1842 (by decide) ⟨_, rfl⟩ (sf_in B1837 (by decide) (by decide)) rfl (fun h1875 T1876 F1877 e1878 => ?_)
                have F1879 := F1877.cl (ck := ck) T_1824.1
                have F1880 := F_1824.trans (N := 0) (S := 0) F1879 (by decide) (by decide) (by decide)
                have gx1881 := X_1824.trans F1877 (by decide)
                refine sf_R_iinc pm_M101 (pc_q := 83) (ls_q := fun z => [.ref 31, .ref a0, .int a1, .int a2, .int z13, .int x5_1524, .int z]) rfl B1834 rfl (by decide) (by decide) (by decide) (fun _ => rfl) rfl (fun z1882 e1883 B1884 => ?_)
                show pm_R _ 101 83 [.ref 31, .ref a0, .int a1, .int a2, .int z13, .int x5_1524, .int z1882] [] _ _
                refine pm_R_br pm_M101 (pc_q := 47) rfl rfl ?_
                exact ih_1824 _ (sf_up hN_1824 e1883 B1834 (by decide) (by decide)) h1875 m_1824 z1882 T1876 F1880 W_1824 (sf_weak B1884 (by decide) (by decide)) gx1881 rfl
          exact L_1824 _ h_1524 m_1524 0 T_1524 F_1524 (rf_W.refl _ _) (sf_weak sf_k0 (by decide) (by decide)) X_1524 rfl
  exact L_1524 _ h22 m21 0 (pm_no) T23 F27 (rf_W.refl _ _) (sf_weak sf_k0 (by decide) (by decide)) rfl gx29 rfl

set_option maxRecDepth 100000 in
set_option maxHeartbeats 4000000 in
/-- SilentTable$MeaningChart.fillPart -/
theorem cl_c103_g {d : Nat} {ck : cl_K} {E : Nat → pm_E} {m : Nat → Int32} {o : Nat → Option Nat} {h : pm_H} {Q : Option Value → pm_H → Prop} {a0 : Nat} {a1 : Int32} {a2 : Int32} (G : cl_G ck E) (T : cl_T ck E m o h) (hk0 : ck a0 = 1) (Ba1 : sf_B 0 11 a1) (Ba2 : sf_B 0 11 a2) (K : ∀ (m_q : Nat → Int32) (h_q : pm_H), cl_T ck E m_q o h_q → cl_F ck [32] 0 0 h h_q → rf_W [] m m_q → rf_G [32] h h_q → Q none h_q) : pm_R (d + 2) 103 0 [.ref 31, .ref a0, .int a1, .int a2, pm_no, pm_no, pm_no, pm_no, pm_no, pm_no, pm_no, pm_no, pm_no, pm_no] [] h Q := by
  refine pm_R_lo pm_M103 (pc_q := 1) rfl rfl rfl ?_
  refine pm_R_lo pm_M103 (pc_q := 2) rfl rfl rfl ?_
  refine pm_R_cs pm_M103 (pc_q := 5) (ra := [.int a2, .int a1]) (rest := []) (ls_q := [.int a1, .int a2]) rfl rfl (Or.inr rfl) pm_M73 rfl rfl (Nat.le_of_ble_eq_true rfl) rfl rfl ?_
  refine pm_R_lo pm_M73 (pc_q := 1) rfl rfl rfl ?_
  refine pm_R_lo pm_M73 (pc_q := 2) rfl rfl rfl ?_
  refine pm_R_op pm_M73 (pc_q := 3) (st_q := [.int 1, .int a2, .int a2]) rfl rfl rfl ?_
  refine sf_R_iadd pm_M73 (pc_q := 4) rfl rfl Ba2 sf_k1 (by decide) (by decide) (fun z1 e2 B3 => ?_)
  refine sf_R_imul pm_M73 (pc_q := 5) rfl rfl Ba2 B3 (by decide) (by decide) (by decide) (fun z4 e5 B6 => ?_)
  refine pm_R_op pm_M73 (pc_q := 6) (st_q := [.int 2, .int z4]) rfl rfl rfl ?_
  refine sf_R_idiv pm_M73 (pc_q := 7) rfl rfl B6 sf_k2 (by decide) (by decide) (fun z7 e8 B9 => ?_)
  refine pm_R_lo pm_M73 (pc_q := 8) rfl rfl rfl ?_
  refine sf_R_iadd pm_M73 (pc_q := 9) rfl rfl B9 Ba1 (by decide) (by decide) (fun z10 e11 B12 => ?_)
  refine pm_R_ret pm_M73 (r := some (.int z10)) rfl (pm_ret_i _) ?_
  show pm_R _ 103 5 [.ref 31, .ref a0, .int a1, .int a2, pm_no, pm_no, pm_no, pm_no, pm_no, pm_no, pm_no, pm_no, pm_no, pm_no] [.int z10] _ _
  refine pm_R_op pm_M103 (pc_q := 7) (st_q := [.int 6, .int z10]) rfl rfl rfl ?_
  refine sf_R_imul pm_M103 (pc_q := 8) rfl rfl B12 sf_k6 (by decide) (by decide) (by decide) (fun z13 e14 B15 => ?_)
  refine pm_R_lo pm_M103 (pc_q := 10) (ls_q := [.ref 31, .ref a0, .int a1, .int a2, .int z13, pm_no, pm_no, pm_no, pm_no, pm_no, pm_no, pm_no, pm_no, pm_no]) (st_q := []) rfl rfl rfl ?_
  refine pm_R_lo pm_M103 (pc_q := 11) rfl rfl rfl ?_
  refine pm_R_get pm_M103 (pc_q := 14) (v := .ref 32) rfl rfl T.e31 (by decide) (T.lt (by decide)) rfl rfl ?_
  refine pm_R_lo pm_M103 (pc_q := 16) rfl rfl rfl ?_
  refine pm_R_lo pm_M103 (pc_q := 18) rfl rfl rfl ?_
  refine pm_R_op pm_M103 (pc_q := 20) (st_q := [.int 6, .int z13, .int z13, .ref 32]) rfl rfl rfl ?_
  refine sf_R_iadd pm_M103 (pc_q := 21) rfl rfl B15 sf_k6 (by decide) (by decide) (fun z16 e17 B18 => ?_)
  refine pm_R_op pm_M103 (pc_q := 22) (st_q := [.long 0, .int z16, .int z13, .ref 32]) rfl rfl rfl ?_
  refine pm_R_cs pm_M103 (pc_q := 25) (ra := [.long 0, .int z16, .int z13, .ref 32]) (rest := []) (ls_q := [.ref 32, .int z13, .int z16, .long 0, pm_no, pm_no]) rfl rfl (Or.inl rfl) pm_M102 rfl rfl (Nat.le_of_ble_eq_true rfl) rfl rfl ?_
  refine cl_c102_32g (d := d + 0) G T (sf_weak B15 (by decide) (by decide)) (sf_weak B18 (by decide) (by decide)) (Int32.le_iff_toInt_le.mpr (cl_aux8 _ _ _ _ _ e11 e14 e17 B9.1 B9.2 Ba1.1 Ba1.2)) (fun m21 h22 T23 F24 W25 X26 => ?_)
  have F27 := (cl_F.refl (ck := ck) (A := [32]) (n := 0) (s := 0) T.1).trans (N := 0) (S := 0) F24 (by decide) (by decide) (by decide)
  have W28 : rf_W [] m m21 := (rf_W.refl [] m).trans W25 (by decide)
  show pm_R _ 103 25 [.ref 31, .ref a0, .int a1, .int a2, .int z13, pm_no, pm_no, pm_no, pm_no, pm_no, pm_no, pm_no, pm_no, pm_no] [] _ _
  have gx29 := (rf_G.refl [32] h).trans X26 (by decide)
  refine pm_R_lo pm_M103 (pc_q := 26) rfl rfl rfl ?_
  refine pm_R_lo pm_M103 (pc_q := 28) (ls_q := [.ref 31, .ref a0, .int a1, .int a2, .int z13, .int a1, pm_no, pm_no, pm_no, pm_no, pm_no, pm_no, pm_no, pm_no]) (st_q := []) rfl rfl rfl ?_
  have L_2856 : ∀ (N : Nat) (h_2856 : pm_H) (m_2856 : Nat → Int32) (x5_2856 : Int32) (g6_2856 : Value) (g7_2856 : Value) (g8_2856 : Value) (g9_2856 : Value) (g10_2856 : Value) (g11_2856 : Value) (g12_2856 : Value) (g13_2856 : Value), cl_T ck E m_2856 o h_2856 → cl_F ck [32] 0 0 h h_2856 → rf_W [] m21 m_2856 → sf_B 0 11 x5_2856 → g6_2856.category = 1 → g7_2856.category = 1 → g8_2856.category = 1 → g10_2856.category = 1 → g12_2856.category = 1 → g13_2856.category = 1 → rf_G [32] h h_2856 → (11 - x5_2856.toInt).toNat = N → pm_R (d + 2) 103 28 [.ref 31, .ref a0, .int a1, .int a2, .int z13, .int x5_2856, g6_2856, g7_2856, g8_2856, g9_2856, g10_2856, g11_2856, g12_2856, g13_2856] [] h_2856 Q := by
    intro N
    induction N using Nat.strongRecOn with
    | ind N ih_2856 =>
      intro h_2856 m_2856 x5_2856 g6_2856 g7_2856 g8_2856 g9_2856 g10_2856 g11_2856 g12_2856 g13_2856 T_2856 F_2856 W_2856 Bx5_2856 Cg6_2856 Cg7_2856 Cg8_2856 Cg10_2856 Cg12_2856 Cg13_2856 X_2856 hN_2856
      have W2859 : rf_W [] m m_2856 := W28.trans W_2856 (by decide)
      refine pm_R_lo pm_M103 (pc_q := 30) rfl rfl rfl ?_
      refine pm_R_lo pm_M103 (pc_q := 31) rfl rfl rfl ?_
      refine pm_R_icmp pm_M103 (t := 194) (pc_q := 34) rfl rfl rfl (fun c2860 => ?_) (fun c2860 => ?_)
      · skip
        exact pm_R_ret pm_M103 (r := none) (pm_q103_1 (Nat.le_of_ble_eq_true rfl)) rfl (K m_2856 h_2856 T_2856 F_2856 W2859 X_2856)
      · have B2861 : sf_B 0 10 x5_2856 := sf_ltL (Int32.not_le.mp c2860) Bx5_2856 Ba2
        have B2862 : sf_B 1 11 a2 := sf_ltR (Int32.not_le.mp c2860) Bx5_2856 Ba2
        refine pm_R_lo pm_M103 (pc_q := 35) rfl rfl rfl ?_
        refine pm_R_lo pm_M103 (pc_q := 37) rfl rfl rfl ?_
        refine pm_R_cs pm_M103 (pc_q := 40) (ra := [.int x5_2856, .int a1]) (rest := []) (ls_q := [.int a1, .int x5_2856]) rfl rfl (Or.inr rfl) pm_M73 rfl rfl (Nat.le_of_ble_eq_true rfl) rfl rfl ?_
        refine pm_R_lo pm_M73 (pc_q := 1) rfl rfl rfl ?_
        refine pm_R_lo pm_M73 (pc_q := 2) rfl rfl rfl ?_
        refine pm_R_op pm_M73 (pc_q := 3) (st_q := [.int 1, .int x5_2856, .int x5_2856]) rfl rfl rfl ?_
        refine sf_R_iadd pm_M73 (pc_q := 4) rfl rfl B2861 sf_k1 (by decide) (by decide) (fun z2863 e2864 B2865 => ?_)
        refine sf_R_imul pm_M73 (pc_q := 5) rfl rfl B2861 B2865 (by decide) (by decide) (by decide) (fun z2866 e2867 B2868 => ?_)
        refine pm_R_op pm_M73 (pc_q := 6) (st_q := [.int 2, .int z2866]) rfl rfl rfl ?_
        refine sf_R_idiv pm_M73 (pc_q := 7) rfl rfl B2868 sf_k2 (by decide) (by decide) (fun z2869 e2870 B2871 => ?_)
        refine pm_R_lo pm_M73 (pc_q := 8) rfl rfl rfl ?_
        refine sf_R_iadd pm_M73 (pc_q := 9) rfl rfl B2871 Ba1 (by decide) (by decide) (fun z2872 e2873 B2874 => ?_)
        refine pm_R_ret pm_M73 (r := some (.int z2872)) rfl (pm_ret_i _) ?_
        show pm_R _ 103 40 [.ref 31, .ref a0, .int a1, .int a2, .int z13, .int x5_2856, g6_2856, g7_2856, g8_2856, g9_2856, g10_2856, g11_2856, g12_2856, g13_2856] [.int z2872] _ _
        refine pm_R_op pm_M103 (pc_q := 42) (st_q := [.int 6, .int z2872]) rfl rfl rfl ?_
        refine sf_R_imul pm_M103 (pc_q := 43) rfl rfl B2874 sf_k6 (by decide) (by decide) (by decide) (fun z2875 e2876 B2877 => ?_)
        refine pm_R_lo pm_M103 (pc_q := 45) (ls_q := [.ref 31, .ref a0, .int a1, .int a2, .int z13, .int x5_2856, .int z2875, g7_2856, g8_2856, g9_2856, g10_2856, g11_2856, g12_2856, g13_2856]) (st_q := []) rfl rfl rfl ?_
        refine pm_R_lo pm_M103 (pc_q := 47) rfl rfl rfl ?_
        refine pm_R_op pm_M103 (pc_q := 48) (st_q := [.int 1, .int x5_2856]) rfl rfl rfl ?_
        refine sf_R_iaddV pm_M103 (pc_q := 49) rfl rfl B2861 sf_k1 (by decide) (by decide) e2864 ?_
        refine pm_R_lo pm_M103 (pc_q := 50) rfl rfl rfl ?_
        refine pm_R_cs pm_M103 (pc_q := 53) (ra := [.int a2, .int z2863]) (rest := []) (ls_q := [.int z2863, .int a2]) rfl rfl (Or.inr rfl) pm_M73 rfl rfl (Nat.le_of_ble_eq_true rfl) rfl rfl ?_
        refine pm_R_lo pm_M73 (pc_q := 1) rfl rfl rfl ?_
        refine pm_R_lo pm_M73 (pc_q := 2) rfl rfl rfl ?_
        refine pm_R_op pm_M73 (pc_q := 3) (st_q := [.int 1, .int a2, .int a2]) rfl rfl rfl ?_
        refine sf_R_iaddV pm_M73 (pc_q := 4) rfl rfl Ba2 sf_k1 (by decide) (by decide) e2 ?_
        refine sf_R_imulV pm_M73 (pc_q := 5) rfl rfl Ba2 B3 (by decide) (by decide) (by decide) e5 ?_
        refine pm_R_op pm_M73 (pc_q := 6) (st_q := [.int 2, .int z4]) rfl rfl rfl ?_
        refine sf_R_idiv pm_M73 (pc_q := 7) rfl rfl B6 sf_k2 (by decide) (by decide) (fun z2878 e2879 B2880 => ?_)
        refine pm_R_lo pm_M73 (pc_q := 8) rfl rfl rfl ?_
        refine sf_R_iadd pm_M73 (pc_q := 9) rfl rfl B2880 B2865 (by decide) (by decide) (fun z2881 e2882 B2883 => ?_)
        refine pm_R_ret pm_M73 (r := some (.int z2881)) rfl (pm_ret_i _) ?_
        show pm_R _ 103 53 [.ref 31, .ref a0, .int a1, .int a2, .int z13, .int x5_2856, .int z2875, g7_2856, g8_2856, g9_2856, g10_2856, g11_2856, g12_2856, g13_2856] [.int z2881] _ _
        refine pm_R_op pm_M103 (pc_q := 55) (st_q := [.int 6, .int z2881]) rfl rfl rfl ?_
        refine sf_R_imul pm_M103 (pc_q := 56) rfl rfl B2883 sf_k6 (by decide) (by decide) (by decide) (fun z2884 e2885 B2886 => ?_)
        refine pm_R_lo pm_M103 (pc_q := 58) (ls_q := [.ref 31, .ref a0, .int a1, .int a2, .int z13, .int x5_2856, .int z2875, .int z2884, g8_2856, g9_2856, g10_2856, g11_2856, g12_2856, g13_2856]) (st_q := []) rfl rfl rfl ?_
        refine pm_R_op pm_M103 (pc_q := 59) (st_q := [.int 0]) rfl rfl rfl ?_
        refine pm_R_lo pm_M103 (pc_q := 61) (ls_q := [.ref 31, .ref a0, .int a1, .int a2, .int z13, .int x5_2856, .int z2875, .int z2884, .int 0, g9_2856, g10_2856, g11_2856, g12_2856, g13_2856]) (st_q := []) rfl rfl rfl ?_
        have L_4262 : ∀ (N : Nat) (h_4262 : pm_H) (m_4262 : Nat → Int32) (x8_4262 : Int32) (g9_4262 : Value) (g10_4262 : Value) (g11_4262 : Value) (g12_4262 : Value) (g13_4262 : Value), cl_T ck E m_4262 o h_4262 → cl_F ck [32] 0 0 h h_4262 → rf_W [] m_2856 m_4262 → sf_B 0 10 x8_4262 → g10_4262.category = 1 → g12_4262.category = 1 → g13_4262.category = 1 → rf_G [32] h h_4262 → (10 - x8_4262.toInt).toNat = N → pm_R (d + 2) 103 61 [.ref 31, .ref a0, .int a1, .int a2, .int z13, .int x5_2856, .int z2875, .int z2884, .int x8_4262, g9_4262, g10_4262, g11_4262, g12_4262, g13_4262] [] h_4262 Q := by
          intro N
          induction N using Nat.strongRecOn with
          | ind N ih_4262 =>
            intro h_4262 m_4262 x8_4262 g9_4262 g10_4262 g11_4262 g12_4262 g13_4262 T_4262 F_4262 W_4262 Bx8_4262 Cg10_4262 Cg12_4262 Cg13_4262 X_4262 hN_4262
            have W4265 : rf_W [] m m_4262 := W2859.trans W_4262 (by decide)
            have W4266 : rf_W [] m21 m_4262 := W_2856.trans W_4262 (by decide)
            refine pm_R_lo pm_M103 (pc_q := 63) rfl rfl rfl ?_
            refine pm_R_lo pm_M103 (pc_q := 64) rfl rfl rfl ?_
            obtain ⟨rc4267, tc4268, rs4269, fv4270, fw4271, fr4272, ft4273, fn4274, h4275, h4276, B4277, eE4278, eE4279, eE4280, eE4281, eE4282, eE4283, b4284, b4285, b4286⟩ := (G.2.1 a0 hk0).2.2.2.2.2
            have kq4287 := G.2.1 a0 hk0
            refine pm_R_get pm_M103 (pc_q := 67) (v := .int (Int32.ofNat rc4267)) rfl rfl (T_4262.im hk0 (by decide) (by decide) eE4278) (G.ge hk0 (by decide)) (T_4262.al hk0 (by decide)) rfl rfl ?_
            refine pm_R_icmp pm_M103 (t := 188) (pc_q := 70) rfl rfl rfl (fun c4288 => ?_) (fun c4288 => ?_)
            · skip
              refine sf_R_iinc pm_M103 (pc_q := 191) (ls_q := fun z => [.ref 31, .ref a0, .int a1, .int a2, .int z13, .int z, .int z2875, .int z2884, .int x8_4262, g9_4262, g10_4262, g11_4262, g12_4262, g13_4262]) (pm_q103_1 (Nat.le_of_ble_eq_true rfl)) B2861 rfl (by decide) (by decide) (by decide) (fun _ => rfl) rfl (fun z4289 e4290 B4291 => ?_)
              show pm_R _ 103 191 [.ref 31, .ref a0, .int a1, .int a2, .int z13, .int z4289, .int z2875, .int z2884, .int x8_4262, g9_4262, g10_4262, g11_4262, g12_4262, g13_4262] [] _ _
              refine pm_R_br pm_M103 (pc_q := 28) (pm_q103_1 (Nat.le_of_ble_eq_true rfl)) rfl ?_
              exact ih_2856 _ (sf_up hN_2856 e4290 B2861 (by decide) (by decide)) h_4262 m_4262 z4289 (.int z2875) (.int z2884) (.int x8_4262) (g9_4262) (g10_4262) (g11_4262) (g12_4262) (g13_4262) T_4262 F_4262 W4266 (sf_weak B4291 (by decide) (by decide)) rfl rfl rfl Cg10_4262 Cg12_4262 Cg13_4262 X_4262 rfl
            · have B4292 : sf_B 0 9 x8_4262 := sf_ltL (Int32.not_le.mp c4288) Bx8_4262 (sf_ofB h4275 (by decide))
              have B4293 : sf_B 1 10 (Int32.ofNat rc4267) := sf_ltR (Int32.not_le.mp c4288) Bx8_4262 (sf_ofB h4275 (by decide))
              refine pm_R_lo pm_M103 (pc_q := 71) rfl rfl rfl ?_
              refine pm_R_get pm_M103 (pc_q := 74) (v := .ref 32) rfl rfl T_4262.e31 (by decide) (T_4262.lt (by decide)) rfl rfl ?_
              refine pm_R_lo pm_M103 (pc_q := 76) rfl rfl rfl ?_
              refine pm_R_lo pm_M103 (pc_q := 77) rfl rfl rfl ?_
              refine pm_R_get pm_M103 (pc_q := 80) (v := .ref (a0 + 3)) rfl rfl (T_4262.im hk0 (by decide) (by decide) eE4278) (G.ge hk0 (by decide)) (T_4262.al hk0 (by decide)) rfl rfl ?_
              refine pm_R_lo pm_M103 (pc_q := 82) rfl rfl rfl ?_
              refine pm_R_op pm_M103 (pc_q := 83) (st_q := [.int 4, .int x8_4262, .ref (a0 + 3), .int z2875, .ref 32]) rfl rfl rfl ?_
              refine sf_R_imul pm_M103 (pc_q := 84) rfl rfl B4292 sf_k4 (by decide) (by decide) (by decide) (fun z4294 e4295 B4296 => ?_)
              refine pm_R_op pm_M103 (pc_q := 85) (st_q := [.int 1, .int z4294, .ref (a0 + 3), .int z2875, .ref 32]) rfl rfl rfl ?_
              refine sf_R_iadd pm_M103 (pc_q := 86) rfl rfl B4296 sf_k1 (by decide) (by decide) (fun z4297 e4298 B4299 => ?_)
              have q4303 := cl_in4 (n := rc4267) (Nat.le_trans h4275 (by decide)) (Int32.not_le.mp c4288) (cl_aux7 _ _ _ e4295 e4298) B4292 (by decide) (by decide)
              obtain ⟨z4300, ez4301⟩ : ∃ y, fr4272 (Int32.toNatClampNeg z4297) = y := ⟨_, rfl⟩
              have B4302 : sf_B 0 5 z4300 := ez4301 ▸ q4303.2.2 ▸ (b4284 _ q4303.2.1).2.1
              refine pm_R_iald pm_M103 (pc_q := 87) (v := z4300) rfl (T_4262.im kq4287.2.2.1 (by decide) (by decide) eE4281) (T_4262.al kq4287.2.2.1 (by decide)) q4303.1 ez4301 rfl ?_
              refine sf_R_iadd pm_M103 (pc_q := 88) rfl rfl B2877 B4302 (by decide) (by decide) (fun z4304 e4305 B4306 => ?_)
              obtain ⟨f4310, e4311⟩ := T_4262.C 32 (by decide) (by decide)
              obtain ⟨z4307, ez4308⟩ : ∃ y, f4310 (Int32.toNatClampNeg z4304) = y := ⟨_, rfl⟩
              refine pm_R_lald pm_M103 (pc_q := 89) (v := z4307) rfl e4311 (by decide) (T_4262.lt (by decide)) (sf_in B4306 (by decide) (by decide)) ez4308 rfl ?_
              refine pm_R_lo pm_M103 (pc_q := 91) (ls_q := [.ref 31, .ref a0, .int a1, .int a2, .int z13, .int x5_2856, .int z2875, .int z2884, .int x8_4262, .long z4307, pm_no, g11_4262, g12_4262, g13_4262]) (st_q := []) rfl rfl rfl ?_
              refine pm_R_lo pm_M103 (pc_q := 92) rfl rfl rfl ?_
              refine pm_R_get pm_M103 (pc_q := 95) (v := .ref 32) rfl rfl T_4262.e31 (by decide) (T_4262.lt (by decide)) rfl rfl ?_
              refine pm_R_lo pm_M103 (pc_q := 97) rfl rfl rfl ?_
              refine pm_R_lo pm_M103 (pc_q := 98) rfl rfl rfl ?_
              refine pm_R_get pm_M103 (pc_q := 101) (v := .ref (a0 + 3)) rfl rfl (T_4262.im hk0 (by decide) (by decide) eE4278) (G.ge hk0 (by decide)) (T_4262.al hk0 (by decide)) rfl rfl ?_
              refine pm_R_lo pm_M103 (pc_q := 103) rfl rfl rfl ?_
              refine pm_R_op pm_M103 (pc_q := 104) (st_q := [.int 4, .int x8_4262, .ref (a0 + 3), .int z2884, .ref 32]) rfl rfl rfl ?_
              refine sf_R_imulV pm_M103 (pc_q := 105) (pm_q103_1 (Nat.le_of_ble_eq_true rfl)) rfl B4292 sf_k4 (by decide) (by decide) (by decide) e4295 ?_
              refine pm_R_op pm_M103 (pc_q := 106) (st_q := [.int 2, .int z4294, .ref (a0 + 3), .int z2884, .ref 32]) (pm_q103_1 (Nat.le_of_ble_eq_true rfl)) rfl rfl ?_
              refine sf_R_iadd pm_M103 (pc_q := 107) (pm_q103_1 (Nat.le_of_ble_eq_true rfl)) rfl B4296 sf_k2 (by decide) (by decide) (fun z4313 e4314 B4315 => ?_)
              have q4319 := cl_in4 (n := rc4267) (Nat.le_trans h4275 (by decide)) (Int32.not_le.mp c4288) (cl_aux6 _ _ _ e4295 e4314) B4292 (by decide) (by decide)
              obtain ⟨z4316, ez4317⟩ : ∃ y, fr4272 (Int32.toNatClampNeg z4313) = y := ⟨_, rfl⟩
              have B4318 : sf_B 0 5 z4316 := ez4317 ▸ q4319.2.2 ▸ (b4284 _ q4319.2.1).2.2
              refine pm_R_iald pm_M103 (pc_q := 108) (v := z4316) (pm_q103_1 (Nat.le_of_ble_eq_true rfl)) (T_4262.im kq4287.2.2.1 (by decide) (by decide) eE4281) (T_4262.al kq4287.2.2.1 (by decide)) q4319.1 ez4317 rfl ?_
              refine sf_R_iadd pm_M103 (pc_q := 109) (pm_q103_1 (Nat.le_of_ble_eq_true rfl)) rfl B2886 B4318 (by decide) (by decide) (fun z4320 e4321 B4322 => ?_)
              obtain ⟨z4323, ez4324⟩ : ∃ y, f4310 (Int32.toNatClampNeg z4320) = y := ⟨_, rfl⟩
              refine pm_R_lald pm_M103 (pc_q := 110) (v := z4323) (pm_q103_1 (Nat.le_of_ble_eq_true rfl)) e4311 (by decide) (T_4262.lt (by decide)) (sf_in B4322 (by decide) (by decide)) ez4324 rfl ?_
              refine pm_R_lo pm_M103 (pc_q := 112) (ls_q := [.ref 31, .ref a0, .int a1, .int a2, .int z13, .int x5_2856, .int z2875, .int z2884, .int x8_4262, .long z4307, pm_no, .long z4323, pm_no, g13_4262]) (st_q := []) (pm_q103_1 (Nat.le_of_ble_eq_true rfl)) rfl rfl ?_
              refine pm_R_lo pm_M103 (pc_q := 114) (pm_q103_1 (Nat.le_of_ble_eq_true rfl)) rfl rfl ?_
              refine pm_R_lo pm_M103 (pc_q := 115) (pm_q103_1 (Nat.le_of_ble_eq_true rfl)) rfl rfl ?_
              refine pm_R_get pm_M103 (pc_q := 118) (v := .ref (a0 + 3)) (pm_q103_1 (Nat.le_of_ble_eq_true rfl)) rfl (T_4262.im hk0 (by decide) (by decide) eE4278) (G.ge hk0 (by decide)) (T_4262.al hk0 (by decide)) rfl rfl ?_
              refine pm_R_lo pm_M103 (pc_q := 120) (pm_q103_1 (Nat.le_of_ble_eq_true rfl)) rfl rfl ?_
              refine pm_R_op pm_M103 (pc_q := 121) (st_q := [.int 4, .int x8_4262, .ref (a0 + 3), .int z13]) (pm_q103_1 (Nat.le_of_ble_eq_true rfl)) rfl rfl ?_
              refine sf_R_imulV pm_M103 (pc_q := 122) (pm_q103_1 (Nat.le_of_ble_eq_true rfl)) rfl B4292 sf_k4 (by decide) (by decide) (by decide) e4295 ?_
              have q4329 := cl_in4 (n := rc4267) (Nat.le_trans h4275 (by decide)) (Int32.not_le.mp c4288) (cl_aux5 _ _ e4295) B4292 (by decide) (by decide)
              obtain ⟨z4326, ez4327⟩ : ∃ y, fr4272 (Int32.toNatClampNeg z4294) = y := ⟨_, rfl⟩
              have B4328 : sf_B 0 5 z4326 := ez4327 ▸ q4329.2.2 ▸ (b4284 _ q4329.2.1).1
              refine pm_R_iald pm_M103 (pc_q := 123) (v := z4326) (pm_q103_1 (Nat.le_of_ble_eq_true rfl)) (T_4262.im kq4287.2.2.1 (by decide) (by decide) eE4281) (T_4262.al kq4287.2.2.1 (by decide)) q4329.1 ez4327 rfl ?_
              refine sf_R_iadd pm_M103 (pc_q := 124) (pm_q103_1 (Nat.le_of_ble_eq_true rfl)) rfl B15 B4328 (by decide) (by decide) (fun z4330 e4331 B4332 => ?_)
              refine pm_R_lo pm_M103 (pc_q := 126) (ls_q := [.ref 31, .ref a0, .int a1, .int a2, .int z13, .int x5_2856, .int z2875, .int z2884, .int x8_4262, .long z4307, pm_no, .long z4323, pm_no, .int z4330]) (st_q := []) (pm_q103_1 (Nat.le_of_ble_eq_true rfl)) rfl rfl ?_
              refine pm_R_lo pm_M103 (pc_q := 128) (pm_q103_1 (Nat.le_of_ble_eq_true rfl)) rfl rfl ?_
              refine pm_R_op pm_M103 (pc_q := 129) (st_q := [.long 0, .long z4307]) (pm_q103_1 (Nat.le_of_ble_eq_true rfl)) rfl rfl ?_
              refine sf_R_lcmp pm_M103 (pc_q := 130) (pm_q103_1 (Nat.le_of_ble_eq_true rfl)) rfl (fun z4333 e4334 => ?_)
              refine pm_R_ifc pm_M103 (t := 182) (pc_q := 133) (pm_q103_1 (Nat.le_of_ble_eq_true rfl)) rfl rfl (fun c4335 => ?_) (fun c4335 => ?_)
              · have B4336 : sf_B 0 0 z4333 := sf_eqL c4335 sf_k0
                have B4337 : lf_B 0 0 z4307 := lf_eqB e4334 B4336 (⟨by decide, by decide⟩ : lf_B 0 0 0)
                refine sf_R_iinc pm_M103 (pc_q := 185) (ls_q := fun z => [.ref 31, .ref a0, .int a1, .int a2, .int z13, .int x5_2856, .int z2875, .int z2884, .int z, .long z4307, pm_no, .long z4323, pm_no, .int z4330]) (pm_q103_1 (Nat.le_of_ble_eq_true rfl)) B4292 rfl (by decide) (by decide) (by decide) (fun _ => rfl) rfl (fun z4338 e4339 B4340 => ?_)
                show pm_R _ 103 185 [.ref 31, .ref a0, .int a1, .int a2, .int z13, .int x5_2856, .int z2875, .int z2884, .int z4338, .long z4307, pm_no, .long z4323, pm_no, .int z4330] [] _ _
                refine pm_R_br pm_M103 (pc_q := 61) (pm_q103_1 (Nat.le_of_ble_eq_true rfl)) rfl ?_
                exact ih_4262 _ (sf_up hN_4262 e4339 B4292 (by decide) (by decide)) h_4262 m_4262 z4338 (.long z4307) (pm_no) (.long z4323) (pm_no) (.int z4330) T_4262 F_4262 W_4262 (sf_weak B4340 (by decide) (by decide)) rfl rfl rfl X_4262 rfl
              · have k4341 := sf_lneC e4334 c4335
                refine pm_R_lo pm_M103 (pc_q := 135) (pm_q103_1 (Nat.le_of_ble_eq_true rfl)) rfl rfl ?_
                refine pm_R_op pm_M103 (pc_q := 136) (st_q := [.long 0, .long z4323]) (pm_q103_1 (Nat.le_of_ble_eq_true rfl)) rfl rfl ?_
                refine sf_R_lcmp pm_M103 (pc_q := 137) (pm_q103_1 (Nat.le_of_ble_eq_true rfl)) rfl (fun z4342 e4343 => ?_)
                refine pm_R_ifc pm_M103 (t := 182) (pc_q := 140) (pm_q103_1 (Nat.le_of_ble_eq_true rfl)) rfl rfl (fun c4344 => ?_) (fun c4344 => ?_)
                · have B4345 : sf_B 0 0 z4342 := sf_eqL c4344 sf_k0
                  have B4346 : lf_B 0 0 z4323 := lf_eqB e4343 B4345 (⟨by decide, by decide⟩ : lf_B 0 0 0)
                  refine sf_R_iinc pm_M103 (pc_q := 185) (ls_q := fun z => [.ref 31, .ref a0, .int a1, .int a2, .int z13, .int x5_2856, .int z2875, .int z2884, .int z, .long z4307, pm_no, .long z4323, pm_no, .int z4330]) (pm_q103_1 (Nat.le_of_ble_eq_true rfl)) B4292 rfl (by decide) (by decide) (by decide) (fun _ => rfl) rfl (fun z4347 e4348 B4349 => ?_)
                  show pm_R _ 103 185 [.ref 31, .ref a0, .int a1, .int a2, .int z13, .int x5_2856, .int z2875, .int z2884, .int z4347, .long z4307, pm_no, .long z4323, pm_no, .int z4330] [] _ _
                  refine pm_R_br pm_M103 (pc_q := 61) (pm_q103_1 (Nat.le_of_ble_eq_true rfl)) rfl ?_
                  exact ih_4262 _ (sf_up hN_4262 e4348 B4292 (by decide) (by decide)) h_4262 m_4262 z4347 (.long z4307) (pm_no) (.long z4323) (pm_no) (.int z4330) T_4262 F_4262 W_4262 (sf_weak B4349 (by decide) (by decide)) rfl rfl rfl X_4262 rfl
                · have k4350 := sf_lneC e4343 c4344
                  refine pm_R_lo pm_M103 (pc_q := 141) (pm_q103_1 (Nat.le_of_ble_eq_true rfl)) rfl rfl ?_
                  refine pm_R_get pm_M103 (pc_q := 144) (v := .ref 32) (pm_q103_1 (Nat.le_of_ble_eq_true rfl)) rfl T_4262.e31 (by decide) (T_4262.lt (by decide)) rfl rfl ?_
                  refine pm_R_lo pm_M103 (pc_q := 146) (pm_q103_1 (Nat.le_of_ble_eq_true rfl)) rfl rfl ?_
                  obtain ⟨z4351, ez4352⟩ : ∃ y, f4310 (Int32.toNatClampNeg z4330) = y := ⟨_, rfl⟩
                  refine pm_R_lald pm_M103 (pc_q := 147) (v := z4351) (pm_q103_1 (Nat.le_of_ble_eq_true rfl)) e4311 (by decide) (T_4262.lt (by decide)) (sf_in B4332 (by decide) (by decide)) ez4352 rfl ?_
                  refine pm_R_ldc2 pm_M103 (pc_q := 150) (pm_q103_1 (Nat.le_of_ble_eq_true rfl)) rfl rfl ?_
                  refine sf_R_lcmp pm_M103 (pc_q := 151) (pm_q103_1 (Nat.le_of_ble_eq_true rfl)) rfl (fun z4354 e4355 => ?_)
                  refine pm_R_ifc pm_M103 (t := 182) (pc_q := 154) (pm_q103_1 (Nat.le_of_ble_eq_true rfl)) rfl rfl (fun c4356 => ?_) (fun c4356 => ?_)
                  · have B4357 : sf_B 0 0 z4354 := sf_eqL c4356 sf_k0
                    have B4358 : lf_B 1125899906842623 1125899906842623 z4351 := lf_eqB e4355 B4357 (⟨by decide, by decide⟩ : lf_B 1125899906842623 1125899906842623 1125899906842623)
                    refine sf_R_iinc pm_M103 (pc_q := 185) (ls_q := fun z => [.ref 31, .ref a0, .int a1, .int a2, .int z13, .int x5_2856, .int z2875, .int z2884, .int z, .long z4307, pm_no, .long z4323, pm_no, .int z4330]) (pm_q103_1 (Nat.le_of_ble_eq_true rfl)) B4292 rfl (by decide) (by decide) (by decide) (fun _ => rfl) rfl (fun z4359 e4360 B4361 => ?_)
                    show pm_R _ 103 185 [.ref 31, .ref a0, .int a1, .int a2, .int z13, .int x5_2856, .int z2875, .int z2884, .int z4359, .long z4307, pm_no, .long z4323, pm_no, .int z4330] [] _ _
                    refine pm_R_br pm_M103 (pc_q := 61) (pm_q103_1 (Nat.le_of_ble_eq_true rfl)) rfl ?_
                    exact ih_4262 _ (sf_up hN_4262 e4360 B4292 (by decide) (by decide)) h_4262 m_4262 z4359 (.long z4307) (pm_no) (.long z4323) (pm_no) (.int z4330) T_4262 F_4262 W_4262 (sf_weak B4361 (by decide) (by decide)) rfl rfl rfl X_4262 rfl
                  · have k4362 := sf_lneC e4355 c4356
                    refine pm_R_lo pm_M103 (pc_q := 155) (pm_q103_1 (Nat.le_of_ble_eq_true rfl)) rfl rfl ?_
                    refine pm_R_get pm_M103 (pc_q := 158) (v := .ref 32) (pm_q103_1 (Nat.le_of_ble_eq_true rfl)) rfl T_4262.e31 (by decide) (T_4262.lt (by decide)) rfl rfl ?_
                    refine pm_R_lo pm_M103 (pc_q := 160) (pm_q103_1 (Nat.le_of_ble_eq_true rfl)) rfl rfl ?_
                    refine pm_R_op pm_M103 (pc_q := 161) (st_q := [.int z4330, .ref 32, .int z4330, .ref 32]) (pm_q103_1 (Nat.le_of_ble_eq_true rfl)) rfl rfl ?_
                    refine pm_R_lald pm_M103 (pc_q := 162) (v := z4351) (pm_q103_1 (Nat.le_of_ble_eq_true rfl)) e4311 (by decide) (T_4262.lt (by decide)) (sf_in B4332 (by decide) (by decide)) ez4352 rfl ?_
                    refine pm_R_lo pm_M103 (pc_q := 163) (pm_q103_1 (Nat.le_of_ble_eq_true rfl)) rfl rfl ?_
                    refine pm_R_get pm_M103 (pc_q := 166) (v := .ref (a0 + 3)) (pm_q103_1 (Nat.le_of_ble_eq_true rfl)) rfl (T_4262.im hk0 (by decide) (by decide) eE4278) (G.ge hk0 (by decide)) (T_4262.al hk0 (by decide)) rfl rfl ?_
                    refine pm_R_lo pm_M103 (pc_q := 168) (pm_q103_1 (Nat.le_of_ble_eq_true rfl)) rfl rfl ?_
                    refine pm_R_op pm_M103 (pc_q := 169) (st_q := [.int 4, .int x8_4262, .ref (a0 + 3), .long z4351, .int z4330, .ref 32]) (pm_q103_1 (Nat.le_of_ble_eq_true rfl)) rfl rfl ?_
                    refine sf_R_imulV pm_M103 (pc_q := 170) (pm_q103_1 (Nat.le_of_ble_eq_true rfl)) rfl B4292 sf_k4 (by decide) (by decide) (by decide) e4295 ?_
                    refine pm_R_op pm_M103 (pc_q := 171) (st_q := [.int 3, .int z4294, .ref (a0 + 3), .long z4351, .int z4330, .ref 32]) (pm_q103_1 (Nat.le_of_ble_eq_true rfl)) rfl rfl ?_
                    refine sf_R_iadd pm_M103 (pc_q := 172) (pm_q103_1 (Nat.le_of_ble_eq_true rfl)) rfl B4296 sf_k3 (by decide) (by decide) (fun z4366 e4367 B4368 => ?_)
                    have q4372 := cl_in4 (n := rc4267) (Nat.le_trans h4275 (by decide)) (Int32.not_le.mp c4288) (cl_aux9 _ _ _ e4295 e4367) B4292 (by decide) (by decide)
                    obtain ⟨z4369, ez4370⟩ : ∃ y, fr4272 (Int32.toNatClampNeg z4366) = y := ⟨_, rfl⟩
                    refine pm_R_iald pm_M103 (pc_q := 173) (v := z4369) (pm_q103_1 (Nat.le_of_ble_eq_true rfl)) (T_4262.im kq4287.2.2.1 (by decide) (by decide) eE4281) (T_4262.al kq4287.2.2.1 (by decide)) q4372.1 ez4370 rfl ?_
                    refine pm_R_lo pm_M103 (pc_q := 175) (pm_q103_1 (Nat.le_of_ble_eq_true rfl)) rfl rfl ?_
                    refine pm_R_lo pm_M103 (pc_q := 177) (pm_q103_1 (Nat.le_of_ble_eq_true rfl)) rfl rfl ?_
                    refine pm_R_cs pm_M103 (pc_q := 180) (ra := [.long z4323, .long z4307, .int z4369]) (rest := [.long z4351, .int z4330, .ref 32]) (ls_q := [.int z4369, .long z4307, pm_no, .long z4323, pm_no]) (pm_q103_1 (Nat.le_of_ble_eq_true rfl)) rfl (Or.inr rfl) pm_M104 rfl rfl (Nat.le_of_ble_eq_true rfl) rfl rfl ?_
                    refine pm_R_lo pm_M104 (pc_q := 1) rfl rfl rfl ?_
                    by_cases c4373 : z4369 < 0
                    · refine pm_R_tswD pm_M104 (pc_q := 57) rfl (Or.inl (Int32.lt_iff_toInt_lt.mp c4373)) rfl ?_
                      have B4374 : sf_B (-2147483648) (-1) z4369 := sf_ltL c4373 (sf_any z4369) sf_k0
                      refine pm_R_lo pm_M104 (pc_q := 58) rfl rfl rfl ?_
                      refine pm_R_cs pm_M104 (pc_q := 61) (ra := [.long z4323]) (rest := []) (ls_q := [.long z4323, pm_no, pm_no, pm_no, pm_no]) rfl rfl (Or.inl rfl) pm_M106 rfl rfl (Nat.le_of_ble_eq_true rfl) rfl rfl ?_
                      refine cl_c106 (d := d + 0)  (fun r4375 => ?_)
                      show pm_R _ 104 61 [.int z4369, .long z4307, pm_no, .long z4323, pm_no] [.long r4375] _ _
                      refine pm_R_ret pm_M104 (r := some (.long r4375)) rfl rfl ?_
                      show pm_R _ 103 180 [.ref 31, .ref a0, .int a1, .int a2, .int z13, .int x5_2856, .int z2875, .int z2884, .int x8_4262, .long z4307, pm_no, .long z4323, pm_no, .int z4330] [.long r4375, .long z4351, .int z4330, .ref 32] _ _
                      refine sf_R_lany pm_M103 (pc_q := 181) (st := [.int z4330, .ref 32]) (pm_q103_1 (Nat.le_of_ble_eq_true rfl)) rfl rfl (fun z4382 => ?_)
                      refine cl_R_lst G pm_M103 T_4262 (pc_q := 182) (pm_q103_1 (Nat.le_of_ble_eq_true rfl)) e4311 (by decide) ⟨_, rfl⟩ (sf_in B4332 (by decide) (by decide)) rfl (fun h4383 T4384 F4385 e4386 => ?_)
                      have F4387 := F4385.cl (ck := ck) T_4262.1
                      have F4388 := F_4262.trans (N := 0) (S := 0) F4387 (by decide) (by decide) (by decide)
                      have gx4389 := X_4262.trans F4385 (by decide)
                      refine sf_R_iinc pm_M103 (pc_q := 185) (ls_q := fun z => [.ref 31, .ref a0, .int a1, .int a2, .int z13, .int x5_2856, .int z2875, .int z2884, .int z, .long z4307, pm_no, .long z4323, pm_no, .int z4330]) (pm_q103_1 (Nat.le_of_ble_eq_true rfl)) B4292 rfl (by decide) (by decide) (by decide) (fun _ => rfl) rfl (fun z4390 e4391 B4392 => ?_)
                      show pm_R _ 103 185 [.ref 31, .ref a0, .int a1, .int a2, .int z13, .int x5_2856, .int z2875, .int z2884, .int z4390, .long z4307, pm_no, .long z4323, pm_no, .int z4330] [] _ _
                      refine pm_R_br pm_M103 (pc_q := 61) (pm_q103_1 (Nat.le_of_ble_eq_true rfl)) rfl ?_
                      exact ih_4262 _ (sf_up hN_4262 e4391 B4292 (by decide) (by decide)) h4383 m_4262 z4390 (.long z4307) (pm_no) (.long z4323) (pm_no) (.int z4330) T4384 F4388 W_4262 (sf_weak B4392 (by decide) (by decide)) rfl rfl rfl gx4389 rfl
                    have B4393 : sf_B 0 2147483647 z4369 := sf_leR (Int32.not_lt.mp c4373) sf_k0 (sf_any z4369)
                    by_cases c4394 : 3 < z4369
                    · refine pm_R_tswD pm_M104 (pc_q := 57) rfl (Or.inr (Int32.lt_iff_toInt_lt.mp c4394)) rfl ?_
                      have B4395 : sf_B 4 2147483647 z4369 := sf_ltR c4394 sf_k3 (sf_any z4369)
                      refine pm_R_lo pm_M104 (pc_q := 58) rfl rfl rfl ?_
                      refine pm_R_cs pm_M104 (pc_q := 61) (ra := [.long z4323]) (rest := []) (ls_q := [.long z4323, pm_no, pm_no, pm_no, pm_no]) rfl rfl (Or.inl rfl) pm_M106 rfl rfl (Nat.le_of_ble_eq_true rfl) rfl rfl ?_
                      refine cl_c106 (d := d + 0)  (fun r4396 => ?_)
                      show pm_R _ 104 61 [.int z4369, .long z4307, pm_no, .long z4323, pm_no] [.long r4396] _ _
                      refine pm_R_ret pm_M104 (r := some (.long r4396)) rfl rfl ?_
                      show pm_R _ 103 180 [.ref 31, .ref a0, .int a1, .int a2, .int z13, .int x5_2856, .int z2875, .int z2884, .int x8_4262, .long z4307, pm_no, .long z4323, pm_no, .int z4330] [.long r4396, .long z4351, .int z4330, .ref 32] _ _
                      refine sf_R_lany pm_M103 (pc_q := 181) (st := [.int z4330, .ref 32]) (pm_q103_1 (Nat.le_of_ble_eq_true rfl)) rfl rfl (fun z4403 => ?_)
                      refine cl_R_lst G pm_M103 T_4262 (pc_q := 182) (pm_q103_1 (Nat.le_of_ble_eq_true rfl)) e4311 (by decide) ⟨_, rfl⟩ (sf_in B4332 (by decide) (by decide)) rfl (fun h4404 T4405 F4406 e4407 => ?_)
                      have F4408 := F4406.cl (ck := ck) T_4262.1
                      have F4409 := F_4262.trans (N := 0) (S := 0) F4408 (by decide) (by decide) (by decide)
                      have gx4410 := X_4262.trans F4406 (by decide)
                      refine sf_R_iinc pm_M103 (pc_q := 185) (ls_q := fun z => [.ref 31, .ref a0, .int a1, .int a2, .int z13, .int x5_2856, .int z2875, .int z2884, .int z, .long z4307, pm_no, .long z4323, pm_no, .int z4330]) (pm_q103_1 (Nat.le_of_ble_eq_true rfl)) B4292 rfl (by decide) (by decide) (by decide) (fun _ => rfl) rfl (fun z4411 e4412 B4413 => ?_)
                      show pm_R _ 103 185 [.ref 31, .ref a0, .int a1, .int a2, .int z13, .int x5_2856, .int z2875, .int z2884, .int z4411, .long z4307, pm_no, .long z4323, pm_no, .int z4330] [] _ _
                      refine pm_R_br pm_M103 (pc_q := 61) (pm_q103_1 (Nat.le_of_ble_eq_true rfl)) rfl ?_
                      exact ih_4262 _ (sf_up hN_4262 e4412 B4292 (by decide) (by decide)) h4404 m_4262 z4411 (.long z4307) (pm_no) (.long z4323) (pm_no) (.int z4330) T4405 F4409 W_4262 (sf_weak B4413 (by decide) (by decide)) rfl rfl rfl gx4410 rfl
                    have B4414 : sf_B (-2147483648) 3 z4369 := sf_leL (Int32.not_lt.mp c4394) (sf_any z4369) sf_k3
                    by_cases c4415 : z4369 < 0
                    · refine pm_R_tswD pm_M104 (pc_q := 57) rfl (Or.inl (Int32.lt_iff_toInt_lt.mp c4415)) rfl ?_
                      have B4416 : sf_B (-2147483648) (-1) z4369 := sf_ltL c4415 B4414 sf_k0
                      refine pm_R_lo pm_M104 (pc_q := 58) rfl rfl rfl ?_
                      refine pm_R_cs pm_M104 (pc_q := 61) (ra := [.long z4323]) (rest := []) (ls_q := [.long z4323, pm_no, pm_no, pm_no, pm_no]) rfl rfl (Or.inl rfl) pm_M106 rfl rfl (Nat.le_of_ble_eq_true rfl) rfl rfl ?_
                      refine cl_c106 (d := d + 0)  (fun r4417 => ?_)
                      show pm_R _ 104 61 [.int z4369, .long z4307, pm_no, .long z4323, pm_no] [.long r4417] _ _
                      refine pm_R_ret pm_M104 (r := some (.long r4417)) rfl rfl ?_
                      show pm_R _ 103 180 [.ref 31, .ref a0, .int a1, .int a2, .int z13, .int x5_2856, .int z2875, .int z2884, .int x8_4262, .long z4307, pm_no, .long z4323, pm_no, .int z4330] [.long r4417, .long z4351, .int z4330, .ref 32] _ _
                      refine sf_R_lany pm_M103 (pc_q := 181) (st := [.int z4330, .ref 32]) (pm_q103_1 (Nat.le_of_ble_eq_true rfl)) rfl rfl (fun z4424 => ?_)
                      refine cl_R_lst G pm_M103 T_4262 (pc_q := 182) (pm_q103_1 (Nat.le_of_ble_eq_true rfl)) e4311 (by decide) ⟨_, rfl⟩ (sf_in B4332 (by decide) (by decide)) rfl (fun h4425 T4426 F4427 e4428 => ?_)
                      have F4429 := F4427.cl (ck := ck) T_4262.1
                      have F4430 := F_4262.trans (N := 0) (S := 0) F4429 (by decide) (by decide) (by decide)
                      have gx4431 := X_4262.trans F4427 (by decide)
                      refine sf_R_iinc pm_M103 (pc_q := 185) (ls_q := fun z => [.ref 31, .ref a0, .int a1, .int a2, .int z13, .int x5_2856, .int z2875, .int z2884, .int z, .long z4307, pm_no, .long z4323, pm_no, .int z4330]) (pm_q103_1 (Nat.le_of_ble_eq_true rfl)) B4292 rfl (by decide) (by decide) (by decide) (fun _ => rfl) rfl (fun z4432 e4433 B4434 => ?_)
                      show pm_R _ 103 185 [.ref 31, .ref a0, .int a1, .int a2, .int z13, .int x5_2856, .int z2875, .int z2884, .int z4432, .long z4307, pm_no, .long z4323, pm_no, .int z4330] [] _ _
                      refine pm_R_br pm_M103 (pc_q := 61) (pm_q103_1 (Nat.le_of_ble_eq_true rfl)) rfl ?_
                      exact ih_4262 _ (sf_up hN_4262 e4433 B4292 (by decide) (by decide)) h4425 m_4262 z4432 (.long z4307) (pm_no) (.long z4323) (pm_no) (.int z4330) T4426 F4430 W_4262 (sf_weak B4434 (by decide) (by decide)) rfl rfl rfl gx4431 rfl
                    have B4435 : sf_B 0 3 z4369 := sf_leR (Int32.not_lt.mp c4415) sf_k0 B4414
                    by_cases c4436 : 3 < z4369
                    · refine pm_R_tswD pm_M104 (pc_q := 57) rfl (Or.inr (Int32.lt_iff_toInt_lt.mp c4436)) rfl ?_
                      have B4437 : sf_B 4 3 z4369 := sf_ltR c4436 sf_k3 B4414
                      refine pm_R_lo pm_M104 (pc_q := 58) rfl rfl rfl ?_
                      refine pm_R_cs pm_M104 (pc_q := 61) (ra := [.long z4323]) (rest := []) (ls_q := [.long z4323, pm_no, pm_no, pm_no, pm_no]) rfl rfl (Or.inl rfl) pm_M106 rfl rfl (Nat.le_of_ble_eq_true rfl) rfl rfl ?_
                      refine cl_c106 (d := d + 0)  (fun r4438 => ?_)
                      show pm_R _ 104 61 [.int z4369, .long z4307, pm_no, .long z4323, pm_no] [.long r4438] _ _
                      refine pm_R_ret pm_M104 (r := some (.long r4438)) rfl rfl ?_
                      show pm_R _ 103 180 [.ref 31, .ref a0, .int a1, .int a2, .int z13, .int x5_2856, .int z2875, .int z2884, .int x8_4262, .long z4307, pm_no, .long z4323, pm_no, .int z4330] [.long r4438, .long z4351, .int z4330, .ref 32] _ _
                      refine sf_R_lany pm_M103 (pc_q := 181) (st := [.int z4330, .ref 32]) (pm_q103_1 (Nat.le_of_ble_eq_true rfl)) rfl rfl (fun z4445 => ?_)
                      refine cl_R_lst G pm_M103 T_4262 (pc_q := 182) (pm_q103_1 (Nat.le_of_ble_eq_true rfl)) e4311 (by decide) ⟨_, rfl⟩ (sf_in B4332 (by decide) (by decide)) rfl (fun h4446 T4447 F4448 e4449 => ?_)
                      have F4450 := F4448.cl (ck := ck) T_4262.1
                      have F4451 := F_4262.trans (N := 0) (S := 0) F4450 (by decide) (by decide) (by decide)
                      have gx4452 := X_4262.trans F4448 (by decide)
                      refine sf_R_iinc pm_M103 (pc_q := 185) (ls_q := fun z => [.ref 31, .ref a0, .int a1, .int a2, .int z13, .int x5_2856, .int z2875, .int z2884, .int z, .long z4307, pm_no, .long z4323, pm_no, .int z4330]) (pm_q103_1 (Nat.le_of_ble_eq_true rfl)) B4292 rfl (by decide) (by decide) (by decide) (fun _ => rfl) rfl (fun z4453 e4454 B4455 => ?_)
                      show pm_R _ 103 185 [.ref 31, .ref a0, .int a1, .int a2, .int z13, .int x5_2856, .int z2875, .int z2884, .int z4453, .long z4307, pm_no, .long z4323, pm_no, .int z4330] [] _ _
                      refine pm_R_br pm_M103 (pc_q := 61) (pm_q103_1 (Nat.le_of_ble_eq_true rfl)) rfl ?_
                      exact ih_4262 _ (sf_up hN_4262 e4454 B4292 (by decide) (by decide)) h4446 m_4262 z4453 (.long z4307) (pm_no) (.long z4323) (pm_no) (.int z4330) T4447 F4451 W_4262 (sf_weak B4455 (by decide) (by decide)) rfl rfl rfl gx4452 rfl
                    skip
                    by_cases c4456 : z4369 = 0
                    · rw [c4456]
                      refine pm_R_br pm_M104 (pc_q := 32) (st_q := []) rfl rfl ?_
                      refine pm_R_lo pm_M104 (pc_q := 33) rfl rfl rfl ?_
                      refine pm_R_ret pm_M104 (r := some (.long z4307)) rfl rfl ?_
                      show pm_R _ 103 180 [.ref 31, .ref a0, .int a1, .int a2, .int z13, .int x5_2856, .int z2875, .int z2884, .int x8_4262, .long z4307, pm_no, .long z4323, pm_no, .int z4330] [.long z4307, .long z4351, .int z4330, .ref 32] _ _
                      refine sf_R_lany pm_M103 (pc_q := 181) (st := [.int z4330, .ref 32]) (pm_q103_1 (Nat.le_of_ble_eq_true rfl)) rfl rfl (fun z4457 => ?_)
                      refine cl_R_lst G pm_M103 T_4262 (pc_q := 182) (pm_q103_1 (Nat.le_of_ble_eq_true rfl)) e4311 (by decide) ⟨_, rfl⟩ (sf_in B4332 (by decide) (by decide)) rfl (fun h4458 T4459 F4460 e4461 => ?_)
                      have F4462 := F4460.cl (ck := ck) T_4262.1
                      have F4463 := F_4262.trans (N := 0) (S := 0) F4462 (by decide) (by decide) (by decide)
                      have gx4464 := X_4262.trans F4460 (by decide)
                      refine sf_R_iinc pm_M103 (pc_q := 185) (ls_q := fun z => [.ref 31, .ref a0, .int a1, .int a2, .int z13, .int x5_2856, .int z2875, .int z2884, .int z, .long z4307, pm_no, .long z4323, pm_no, .int z4330]) (pm_q103_1 (Nat.le_of_ble_eq_true rfl)) B4292 rfl (by decide) (by decide) (by decide) (fun _ => rfl) rfl (fun z4465 e4466 B4467 => ?_)
                      show pm_R _ 103 185 [.ref 31, .ref a0, .int a1, .int a2, .int z13, .int x5_2856, .int z2875, .int z2884, .int z4465, .long z4307, pm_no, .long z4323, pm_no, .int z4330] [] _ _
                      refine pm_R_br pm_M103 (pc_q := 61) (pm_q103_1 (Nat.le_of_ble_eq_true rfl)) rfl ?_
                      exact ih_4262 _ (sf_up hN_4262 e4466 B4292 (by decide) (by decide)) h4458 m_4262 z4465 (.long z4307) (pm_no) (.long z4323) (pm_no) (.int z4330) T4459 F4463 W_4262 (sf_weak B4467 (by decide) (by decide)) rfl rfl rfl gx4464 rfl
                    have B4468 : sf_B 1 3 z4369 := sf_neL0 c4456 sf_k0 B4435
                    by_cases c4469 : z4369 = 1
                    · rw [c4469]
                      refine pm_R_br pm_M104 (pc_q := 34) (st_q := []) rfl rfl ?_
                      refine pm_R_lo pm_M104 (pc_q := 35) rfl rfl rfl ?_
                      refine pm_R_ret pm_M104 (r := some (.long z4323)) rfl rfl ?_
                      show pm_R _ 103 180 [.ref 31, .ref a0, .int a1, .int a2, .int z13, .int x5_2856, .int z2875, .int z2884, .int x8_4262, .long z4307, pm_no, .long z4323, pm_no, .int z4330] [.long z4323, .long z4351, .int z4330, .ref 32] _ _
                      refine sf_R_lany pm_M103 (pc_q := 181) (st := [.int z4330, .ref 32]) (pm_q103_1 (Nat.le_of_ble_eq_true rfl)) rfl rfl (fun z4470 => ?_)
                      refine cl_R_lst G pm_M103 T_4262 (pc_q := 182) (pm_q103_1 (Nat.le_of_ble_eq_true rfl)) e4311 (by decide) ⟨_, rfl⟩ (sf_in B4332 (by decide) (by decide)) rfl (fun h4471 T4472 F4473 e4474 => ?_)
                      have F4475 := F4473.cl (ck := ck) T_4262.1
                      have F4476 := F_4262.trans (N := 0) (S := 0) F4475 (by decide) (by decide) (by decide)
                      have gx4477 := X_4262.trans F4473 (by decide)
                      refine sf_R_iinc pm_M103 (pc_q := 185) (ls_q := fun z => [.ref 31, .ref a0, .int a1, .int a2, .int z13, .int x5_2856, .int z2875, .int z2884, .int z, .long z4307, pm_no, .long z4323, pm_no, .int z4330]) (pm_q103_1 (Nat.le_of_ble_eq_true rfl)) B4292 rfl (by decide) (by decide) (by decide) (fun _ => rfl) rfl (fun z4478 e4479 B4480 => ?_)
                      show pm_R _ 103 185 [.ref 31, .ref a0, .int a1, .int a2, .int z13, .int x5_2856, .int z2875, .int z2884, .int z4478, .long z4307, pm_no, .long z4323, pm_no, .int z4330] [] _ _
                      refine pm_R_br pm_M103 (pc_q := 61) (pm_q103_1 (Nat.le_of_ble_eq_true rfl)) rfl ?_
                      exact ih_4262 _ (sf_up hN_4262 e4479 B4292 (by decide) (by decide)) h4471 m_4262 z4478 (.long z4307) (pm_no) (.long z4323) (pm_no) (.int z4330) T4472 F4476 W_4262 (sf_weak B4480 (by decide) (by decide)) rfl rfl rfl gx4477 rfl
                    have B4481 : sf_B 2 3 z4369 := sf_neL0 c4469 sf_k1 B4468
                    by_cases c4482 : z4369 = 2
                    · rw [c4482]
                      refine pm_R_br pm_M104 (pc_q := 36) (st_q := []) rfl rfl ?_
                      refine pm_R_lo pm_M104 (pc_q := 37) rfl rfl rfl ?_
                      refine pm_R_lo pm_M104 (pc_q := 38) rfl rfl rfl ?_
                      refine pm_R_cs pm_M104 (pc_q := 41) (ra := [.long z4323, .long z4307]) (rest := []) (ls_q := [.long z4307, pm_no, .long z4323, pm_no, pm_no, pm_no, pm_no]) rfl rfl (Or.inl rfl) pm_M105 rfl rfl (Nat.le_of_ble_eq_true rfl) rfl rfl ?_
                      refine cl_c105 (d := d + 0)  (fun r4483 => ?_)
                      show pm_R _ 104 41 [.int 2, .long z4307, pm_no, .long z4323, pm_no] [.long r4483] _ _
                      refine pm_R_ret pm_M104 (r := some (.long r4483)) rfl rfl ?_
                      show pm_R _ 103 180 [.ref 31, .ref a0, .int a1, .int a2, .int z13, .int x5_2856, .int z2875, .int z2884, .int x8_4262, .long z4307, pm_no, .long z4323, pm_no, .int z4330] [.long r4483, .long z4351, .int z4330, .ref 32] _ _
                      refine sf_R_lany pm_M103 (pc_q := 181) (st := [.int z4330, .ref 32]) (pm_q103_1 (Nat.le_of_ble_eq_true rfl)) rfl rfl (fun z4490 => ?_)
                      refine cl_R_lst G pm_M103 T_4262 (pc_q := 182) (pm_q103_1 (Nat.le_of_ble_eq_true rfl)) e4311 (by decide) ⟨_, rfl⟩ (sf_in B4332 (by decide) (by decide)) rfl (fun h4491 T4492 F4493 e4494 => ?_)
                      have F4495 := F4493.cl (ck := ck) T_4262.1
                      have F4496 := F_4262.trans (N := 0) (S := 0) F4495 (by decide) (by decide) (by decide)
                      have gx4497 := X_4262.trans F4493 (by decide)
                      refine sf_R_iinc pm_M103 (pc_q := 185) (ls_q := fun z => [.ref 31, .ref a0, .int a1, .int a2, .int z13, .int x5_2856, .int z2875, .int z2884, .int z, .long z4307, pm_no, .long z4323, pm_no, .int z4330]) (pm_q103_1 (Nat.le_of_ble_eq_true rfl)) B4292 rfl (by decide) (by decide) (by decide) (fun _ => rfl) rfl (fun z4498 e4499 B4500 => ?_)
                      show pm_R _ 103 185 [.ref 31, .ref a0, .int a1, .int a2, .int z13, .int x5_2856, .int z2875, .int z2884, .int z4498, .long z4307, pm_no, .long z4323, pm_no, .int z4330] [] _ _
                      refine pm_R_br pm_M103 (pc_q := 61) (pm_q103_1 (Nat.le_of_ble_eq_true rfl)) rfl ?_
                      exact ih_4262 _ (sf_up hN_4262 e4499 B4292 (by decide) (by decide)) h4491 m_4262 z4498 (.long z4307) (pm_no) (.long z4323) (pm_no) (.int z4330) T4492 F4496 W_4262 (sf_weak B4500 (by decide) (by decide)) rfl rfl rfl gx4497 rfl
                    have B4501 : sf_B 3 3 z4369 := sf_neL0 c4482 sf_k2 B4481
                    rw [sf_pt2 B4501 sf_k3]
                    refine pm_R_br pm_M104 (pc_q := 42) (st_q := []) rfl rfl ?_
                    refine pm_R_lo pm_M104 (pc_q := 43) rfl rfl rfl ?_
                    refine pm_R_ldc2 pm_M104 (pc_q := 46) rfl rfl rfl ?_
                    refine pm_R_cs pm_M104 (pc_q := 49) (ra := [.long 2, .long z4307]) (rest := []) (ls_q := [.long z4307, pm_no, .long 2, pm_no, pm_no, pm_no, pm_no]) rfl rfl (Or.inl rfl) pm_M105 rfl rfl (Nat.le_of_ble_eq_true rfl) rfl rfl ?_
                    refine cl_c105 (d := d + 0)  (fun r4502 => ?_)
                    show pm_R _ 104 49 [.int 3, .long z4307, pm_no, .long z4323, pm_no] [.long r4502] _ _
                    refine pm_R_lo pm_M104 (pc_q := 50) rfl rfl rfl ?_
                    refine pm_R_cs pm_M104 (pc_q := 53) (ra := [.long z4323]) (rest := [.long r4502]) (ls_q := [.long z4323, pm_no, pm_no, pm_no, pm_no]) rfl rfl (Or.inl rfl) pm_M106 rfl rfl (Nat.le_of_ble_eq_true rfl) rfl rfl ?_
                    refine cl_c106 (d := d + 0)  (fun r4509 => ?_)
                    show pm_R _ 104 53 [.int 3, .long z4307, pm_no, .long z4323, pm_no] [.long r4509, .long r4502] _ _
                    refine pm_R_cs pm_M104 (pc_q := 56) (ra := [.long r4509, .long r4502]) (rest := []) (ls_q := [.long r4502, pm_no, .long r4509, pm_no, pm_no, pm_no, pm_no]) rfl rfl (Or.inl rfl) pm_M105 rfl rfl (Nat.le_of_ble_eq_true rfl) rfl rfl ?_
                    refine cl_c105 (d := d + 0)  (fun r4516 => ?_)
                    show pm_R _ 104 56 [.int 3, .long z4307, pm_no, .long z4323, pm_no] [.long r4516] _ _
                    refine pm_R_ret pm_M104 (r := some (.long r4516)) rfl rfl ?_
                    show pm_R _ 103 180 [.ref 31, .ref a0, .int a1, .int a2, .int z13, .int x5_2856, .int z2875, .int z2884, .int x8_4262, .long z4307, pm_no, .long z4323, pm_no, .int z4330] [.long r4516, .long z4351, .int z4330, .ref 32] _ _
                    refine sf_R_lany pm_M103 (pc_q := 181) (st := [.int z4330, .ref 32]) (pm_q103_1 (Nat.le_of_ble_eq_true rfl)) rfl rfl (fun z4523 => ?_)
                    refine cl_R_lst G pm_M103 T_4262 (pc_q := 182) (pm_q103_1 (Nat.le_of_ble_eq_true rfl)) e4311 (by decide) ⟨_, rfl⟩ (sf_in B4332 (by decide) (by decide)) rfl (fun h4524 T4525 F4526 e4527 => ?_)
                    have F4528 := F4526.cl (ck := ck) T_4262.1
                    have F4529 := F_4262.trans (N := 0) (S := 0) F4528 (by decide) (by decide) (by decide)
                    have gx4530 := X_4262.trans F4526 (by decide)
                    refine sf_R_iinc pm_M103 (pc_q := 185) (ls_q := fun z => [.ref 31, .ref a0, .int a1, .int a2, .int z13, .int x5_2856, .int z2875, .int z2884, .int z, .long z4307, pm_no, .long z4323, pm_no, .int z4330]) (pm_q103_1 (Nat.le_of_ble_eq_true rfl)) B4292 rfl (by decide) (by decide) (by decide) (fun _ => rfl) rfl (fun z4531 e4532 B4533 => ?_)
                    show pm_R _ 103 185 [.ref 31, .ref a0, .int a1, .int a2, .int z13, .int x5_2856, .int z2875, .int z2884, .int z4531, .long z4307, pm_no, .long z4323, pm_no, .int z4330] [] _ _
                    refine pm_R_br pm_M103 (pc_q := 61) (pm_q103_1 (Nat.le_of_ble_eq_true rfl)) rfl ?_
                    exact ih_4262 _ (sf_up hN_4262 e4532 B4292 (by decide) (by decide)) h4524 m_4262 z4531 (.long z4307) (pm_no) (.long z4323) (pm_no) (.int z4330) T4525 F4529 W_4262 (sf_weak B4533 (by decide) (by decide)) rfl rfl rfl gx4530 rfl
        exact L_4262 _ h_2856 m_2856 0 (g9_2856) (g10_2856) (g11_2856) (g12_2856) (g13_2856) T_2856 F_2856 (rf_W.refl _ _) (sf_weak sf_k0 (by decide) (by decide)) Cg10_2856 Cg12_2856 Cg13_2856 X_2856 rfl
  exact L_2856 _ h22 m21 a1 (pm_no) (pm_no) (pm_no) (pm_no) (pm_no) (pm_no) (pm_no) (pm_no) T23 F27 (rf_W.refl _ _) Ba1 rfl rfl rfl rfl rfl rfl gx29 rfl

set_option maxRecDepth 100000 in
set_option maxHeartbeats 4000000 in
/-- SilentTable$MeaningChart.meaningsOf -/
theorem cl_c100_g {d : Nat} {ck : cl_K} {E : Nat → pm_E} {m : Nat → Int32} {o : Nat → Option Nat} {h : pm_H} {Q : Option Value → pm_H → Prop} {a0 : Nat} {a2 : Int32} (G : cl_G ck E) (T : cl_T ck E m o h) (hk0 : ck a0 = 1) (K : ∀ (r : Int64) (m_q : Nat → Int32) (h_q : pm_H), cl_T ck E m_q o h_q → cl_F ck [32] 0 0 h h_q → rf_W [] m m_q → rf_G [32] h h_q → Q (some (.long r)) h_q) : pm_R (d + 3) 100 0 [.ref 31, .ref a0, .ref 38, .int a2, pm_no, pm_no] [] h Q := by
  refine pm_R_lo pm_M100 (pc_q := 1) rfl rfl rfl ?_
  refine pm_R_op pm_M100 (pc_q := 2) (st_q := [.int 1, .int a2]) rfl rfl rfl ?_
  refine pm_R_icmp pm_M100 (t := 11) (pc_q := 5) rfl rfl rfl (fun c1 => ?_) (fun c1 => ?_)
  · have B2 : sf_B (-2147483648) 0 a2 := sf_ltL c1 (sf_any a2) sf_k1
    refine pm_R_op pm_M100 (pc_q := 12) (st_q := [.long 0]) rfl rfl rfl ?_
    exact pm_R_ret pm_M100 (r := some (.long 0)) rfl rfl (K 0 m h T (cl_F.refl (ck := ck) (A := [32]) (n := 0) (s := 0) T.1) (rf_W.refl [] m) (rf_G.refl [32] h))
  · have B3 : sf_B 1 2147483647 a2 := sf_leR (Int32.not_lt.mp c1) sf_k1 (sf_any a2)
    refine pm_R_lo pm_M100 (pc_q := 6) rfl rfl rfl ?_
    refine pm_R_op pm_M100 (pc_q := 8) (st_q := [.int 12, .int a2]) rfl rfl rfl ?_
    refine pm_R_icmp pm_M100 (t := 13) (pc_q := 11) rfl rfl rfl (fun c4 => ?_) (fun c4 => ?_)
    · have B5 : sf_B 1 12 a2 := sf_leL c4 B3 sf_k12
      refine pm_R_op pm_M100 (pc_q := 14) (st_q := [.int 0]) rfl rfl rfl ?_
      refine pm_R_lo pm_M100 (pc_q := 16) (ls_q := [.ref 31, .ref a0, .ref 38, .int a2, .int 0, pm_no]) (st_q := []) rfl rfl rfl ?_
      have L_530 : ∀ (N : Nat) (h_530 : pm_H) (m_530 : Nat → Int32) (x4_530 : Int32) (g5_530 : Value), cl_T ck E m_530 o h_530 → cl_F ck [32] 0 0 h h_530 → rf_W [] m m_530 → sf_B 0 12 x4_530 → g5_530.category = 1 → rf_G [32] h h_530 → (12 - x4_530.toInt).toNat = N → pm_R (d + 3) 100 16 [.ref 31, .ref a0, .ref 38, .int a2, .int x4_530, g5_530] [] h_530 Q := by
        intro N
        induction N using Nat.strongRecOn with
        | ind N ih_530 =>
          intro h_530 m_530 x4_530 g5_530 T_530 F_530 W_530 Bx4_530 Cg5_530 X_530 hN_530
          have W533 : rf_W [] m m_530 := (rf_W.refl [] m).trans W_530 (by decide)
          refine pm_R_lo pm_M100 (pc_q := 18) rfl rfl rfl ?_
          refine pm_R_lo pm_M100 (pc_q := 19) rfl rfl rfl ?_
          refine pm_R_icmp pm_M100 (t := 65) (pc_q := 22) rfl rfl rfl (fun c534 => ?_) (fun c534 => ?_)
          · have B535 : sf_B 1 12 x4_530 := sf_leR c534 B5 Bx4_530
            refine pm_R_lo pm_M100 (pc_q := 66) rfl rfl rfl ?_
            refine pm_R_get pm_M100 (pc_q := 69) (v := .ref 32) rfl rfl T_530.e31 (by decide) (T_530.lt (by decide)) rfl rfl ?_
            refine pm_R_op pm_M100 (pc_q := 70) (st_q := [.int 0, .ref 32]) rfl rfl rfl ?_
            refine pm_R_lo pm_M100 (pc_q := 71) rfl rfl rfl ?_
            refine pm_R_op pm_M100 (pc_q := 72) (st_q := [.int 1, .int a2, .int 0, .ref 32]) rfl rfl rfl ?_
            refine sf_R_isub pm_M100 (pc_q := 73) rfl rfl B5 sf_k1 (by decide) (by decide) (fun z536 e537 B538 => ?_)
            refine pm_R_cs pm_M100 (pc_q := 76) (ra := [.int z536, .int 0]) (rest := [.ref 32]) (ls_q := [.int 0, .int z536]) rfl rfl (Or.inr rfl) pm_M73 rfl rfl (Nat.le_of_ble_eq_true rfl) rfl rfl ?_
            refine pm_R_lo pm_M73 (pc_q := 1) rfl rfl rfl ?_
            refine pm_R_lo pm_M73 (pc_q := 2) rfl rfl rfl ?_
            refine pm_R_op pm_M73 (pc_q := 3) (st_q := [.int 1, .int z536, .int z536]) rfl rfl rfl ?_
            refine sf_R_iadd pm_M73 (pc_q := 4) rfl rfl B538 sf_k1 (by decide) (by decide) (fun z539 e540 B541 => ?_)
            refine sf_R_imul pm_M73 (pc_q := 5) rfl rfl B538 B541 (by decide) (by decide) (by decide) (fun z542 e543 B544 => ?_)
            refine pm_R_op pm_M73 (pc_q := 6) (st_q := [.int 2, .int z542]) rfl rfl rfl ?_
            refine sf_R_idiv pm_M73 (pc_q := 7) rfl rfl B544 sf_k2 (by decide) (by decide) (fun z545 e546 B547 => ?_)
            refine pm_R_lo pm_M73 (pc_q := 8) rfl rfl rfl ?_
            refine sf_R_iadd pm_M73 (pc_q := 9) rfl rfl B547 sf_k0 (by decide) (by decide) (fun z548 e549 B550 => ?_)
            refine pm_R_ret pm_M73 (r := some (.int z548)) rfl (pm_ret_i _) ?_
            show pm_R _ 100 76 [.ref 31, .ref a0, .ref 38, .int a2, .int x4_530, g5_530] [.int z548, .ref 32] _ _
            refine pm_R_op pm_M100 (pc_q := 78) (st_q := [.int 6, .int z548, .ref 32]) rfl rfl rfl ?_
            refine sf_R_imul pm_M100 (pc_q := 79) rfl rfl B550 sf_k6 (by decide) (by decide) (by decide) (fun z551 e552 B553 => ?_)
            obtain ⟨f557, e558⟩ := T_530.C 32 (by decide) (by decide)
            obtain ⟨z554, ez555⟩ : ∃ y, f557 (Int32.toNatClampNeg z551) = y := ⟨_, rfl⟩
            refine pm_R_lald pm_M100 (pc_q := 80) (v := z554) rfl e558 (by decide) (T_530.lt (by decide)) (sf_in B553 (by decide) (by decide)) ez555 rfl ?_
            exact pm_R_ret pm_M100 (r := some (.long z554)) rfl rfl (K z554 m_530 h_530 T_530 F_530 W533 X_530)
          · have B560 : sf_B 0 11 x4_530 := sf_ltL (Int32.not_le.mp c534) Bx4_530 B5
            refine pm_R_lo pm_M100 (pc_q := 23) rfl rfl rfl ?_
            refine pm_R_lo pm_M100 (pc_q := 24) rfl rfl rfl ?_
            refine pm_R_lo pm_M100 (pc_q := 25) rfl rfl rfl ?_
            refine pm_R_lo pm_M100 (pc_q := 27) rfl rfl rfl ?_
            obtain ⟨f564, e565⟩ := T_530.C 38 (by decide) (by decide)
            obtain ⟨z561, ez562⟩ : ∃ y, f564 (Int32.toNatClampNeg x4_530) = y := ⟨_, rfl⟩
            refine pm_R_iald pm_M100 (pc_q := 28) (v := z561) rfl e565 (T_530.lt (by decide)) (sf_in B560 (by decide) (by decide)) ez562 rfl ?_
            refine pm_R_lo pm_M100 (pc_q := 30) rfl rfl rfl ?_
            refine pm_R_cv pm_M100 (pc_q := 33) (a := 31) (ra := [.int x4_530, .int z561, .ref a0]) (rest := []) (ls_q := [.ref 31, .ref a0, .int z561, .int x4_530, pm_no, pm_no, pm_no]) rfl rfl (Or.inl rfl) pm_M101 T_530.e31 rfl (by decide) (T_530.lt (by decide)) rfl rfl (Nat.le_of_ble_eq_true rfl) rfl rfl ?_
            refine cl_c101_g (d := d + 0) G T_530 hk0 B560 (fun m569 h570 T571 F572 W573 X574 => ?_)
            have F575 := F_530.trans (N := 0) (S := 0) F572 (by decide) (by decide) (by decide)
            have W576 : rf_W [] m m569 := W533.trans W573 (by decide)
            have W577 : rf_W [] m m569 := W_530.trans W573 (by decide)
            show pm_R _ 100 33 [.ref 31, .ref a0, .ref 38, .int a2, .int x4_530, g5_530] [] _ _
            have gx578 := X_530.trans X574 (by decide)
            refine pm_R_lo pm_M100 (pc_q := 35) rfl rfl rfl ?_
            refine pm_R_op pm_M100 (pc_q := 36) (st_q := [.int 1, .int x4_530]) rfl rfl rfl ?_
            refine sf_R_isub pm_M100 (pc_q := 37) rfl rfl B560 sf_k1 (by decide) (by decide) (fun z579 e580 B581 => ?_)
            refine pm_R_lo pm_M100 (pc_q := 39) (ls_q := [.ref 31, .ref a0, .ref 38, .int a2, .int x4_530, .int z579]) (st_q := []) rfl rfl rfl ?_
            have L_630 : ∀ (N : Nat) (h_630 : pm_H) (m_630 : Nat → Int32) (x5_630 : Int32), cl_T ck E m_630 o h_630 → cl_F ck [32] 0 0 h h_630 → rf_W [] m569 m_630 → sf_B (-1) 10 x5_630 → rf_G [32] h h_630 → (x5_630.toInt - (-1)).toNat = N → pm_R (d + 3) 100 39 [.ref 31, .ref a0, .ref 38, .int a2, .int x4_530, .int x5_630] [] h_630 Q := by
              intro N
              induction N using Nat.strongRecOn with
              | ind N ih_630 =>
                intro h_630 m_630 x5_630 T_630 F_630 W_630 Bx5_630 X_630 hN_630
                have W633 : rf_W [] m m_630 := W576.trans W_630 (by decide)
                have W634 : rf_W [] m m_630 := W577.trans W_630 (by decide)
                refine pm_R_lo pm_M100 (pc_q := 41) rfl rfl rfl ?_
                refine pm_R_ifc pm_M100 (t := 59) (pc_q := 44) rfl rfl rfl (fun c635 => ?_) (fun c635 => ?_)
                · have B636 : sf_B (-1) (-1) x5_630 := sf_ltL c635 Bx5_630 sf_k0
                  refine sf_R_iinc pm_M100 (pc_q := 62) (ls_q := fun z => [.ref 31, .ref a0, .ref 38, .int a2, .int z, .int x5_630]) rfl B560 rfl (by decide) (by decide) (by decide) (fun _ => rfl) rfl (fun z637 e638 B639 => ?_)
                  show pm_R _ 100 62 [.ref 31, .ref a0, .ref 38, .int a2, .int z637, .int x5_630] [] _ _
                  refine pm_R_br pm_M100 (pc_q := 16) rfl rfl ?_
                  exact ih_530 _ (sf_up hN_530 e638 B560 (by decide) (by decide)) h_630 m_630 z637 (.int x5_630) T_630 F_630 W634 (sf_weak B639 (by decide) (by decide)) rfl X_630 rfl
                · have B640 : sf_B 0 10 x5_630 := sf_leR (Int32.not_lt.mp c635) sf_k0 Bx5_630
                  refine pm_R_lo pm_M100 (pc_q := 45) rfl rfl rfl ?_
                  refine pm_R_lo pm_M100 (pc_q := 46) rfl rfl rfl ?_
                  refine pm_R_lo pm_M100 (pc_q := 48) rfl rfl rfl ?_
                  refine pm_R_lo pm_M100 (pc_q := 50) rfl rfl rfl ?_
                  refine pm_R_cv pm_M100 (pc_q := 53) (a := 31) (ra := [.int x4_530, .int x5_630, .ref a0]) (rest := []) (ls_q := [.ref 31, .ref a0, .int x5_630, .int x4_530, pm_no, pm_no, pm_no, pm_no, pm_no, pm_no, pm_no, pm_no, pm_no, pm_no]) rfl rfl (Or.inl rfl) pm_M103 T_630.e31 rfl (by decide) (T_630.lt (by decide)) rfl rfl (Nat.le_of_ble_eq_true rfl) rfl rfl ?_
                  refine cl_c103_g (d := d + 0) G T_630 hk0 (sf_weak B640 (by decide) (by decide)) B560 (fun m643 h644 T645 F646 W647 X648 => ?_)
                  have F649 := F_630.trans (N := 0) (S := 0) F646 (by decide) (by decide) (by decide)
                  have W650 : rf_W [] m m643 := W633.trans W647 (by decide)
                  have W651 : rf_W [] m m643 := W634.trans W647 (by decide)
                  have W652 : rf_W [] m569 m643 := W_630.trans W647 (by decide)
                  show pm_R _ 100 53 [.ref 31, .ref a0, .ref 38, .int a2, .int x4_530, .int x5_630] [] _ _
                  have gx653 := X_630.trans X648 (by decide)
                  refine sf_R_iinc pm_M100 (pc_q := 56) (ls_q := fun z => [.ref 31, .ref a0, .ref 38, .int a2, .int x4_530, .int z]) rfl B640 rfl (by decide) (by decide) (by decide) (fun _ => rfl) rfl (fun z654 e655 B656 => ?_)
                  show pm_R _ 100 56 [.ref 31, .ref a0, .ref 38, .int a2, .int x4_530, .int z654] [] _ _
                  refine pm_R_br pm_M100 (pc_q := 39) rfl rfl ?_
                  exact ih_630 _ (sf_dn hN_630 e655 B640 (by decide) (by decide)) h644 m643 z654 T645 F649 W652 (sf_weak B656 (by decide) (by decide)) gx653 rfl
            exact L_630 _ h570 m569 z579 T571 F575 (rf_W.refl _ _) B581 gx578 rfl
      exact L_530 _ h m 0 (pm_no) T (cl_F.refl (ck := ck) (A := [32]) (n := 0) (s := 0) T.1) (rf_W.refl _ _) (sf_weak sf_k0 (by decide) (by decide)) rfl (rf_G.refl [32] h) rfl
    · have B657 : sf_B 13 2147483647 a2 := sf_ltR (Int32.not_le.mp c4) sf_k12 B3
      refine pm_R_op pm_M100 (pc_q := 12) (st_q := [.long 0]) rfl rfl rfl ?_
      exact pm_R_ret pm_M100 (r := some (.long 0)) rfl rfl (K 0 m h T (cl_F.refl (ck := ck) (A := [32]) (n := 0) (s := 0) T.1) (rf_W.refl [] m) (rf_G.refl [32] h))

set_option maxRecDepth 100000 in
set_option maxHeartbeats 4000000 in
/-- java/util/Arrays.fill -/
theorem cl_c49_s0 {d : Nat} {ck : cl_K} {E : Nat → pm_E} {m : Nat → Int32} {o : Nat → Option Nat} {h : pm_H} {Q : Option Value → pm_H → Prop} {b : Nat} {a1 : Int32} {a2 : Int32} {a3 : Int32} (G : cl_G ck E) (T : cl_T ck E m o h) (hk : ck b = 24) (Ba1 : sf_B 0 15 a1) (Ba2 : sf_B 0 15 a2) (R : a1 ≤ a2) (K : ∀ (m_q : Nat → Int32) (h_q : pm_H), cl_T ck E m_q o h_q → cl_F ck [] 0 0 h h_q → rf_W [] m m_q → (∀ c, ck c = 24 → h_q.2.2 c = h.2.2 c) → Q none h_q) : pm_R (d + 1) 49 0 [.ref (b + 1), .int a1, .int a2, .int a3, pm_no] [] h Q := by
  refine pm_R_lo pm_M49 (pc_q := 1) rfl rfl rfl ?_
  obtain ⟨f1, e2⟩ := T.D.2.2.2.2.1 _ (G.s25 hk).1
  refine pm_R_alen pm_M49 (pc_q := 2) (v := 15) rfl e2 (G.ge (G.s25 hk).1 (by decide)) (T.al (G.s25 hk).1 (by decide)) (by decide) rfl rfl ?_
  refine pm_R_lo pm_M49 (pc_q := 3) rfl rfl rfl ?_
  refine pm_R_lo pm_M49 (pc_q := 4) rfl rfl rfl ?_
  refine pm_R_cs pm_M49 (pc_q := 7) (ra := [.int a2, .int a1, .int 15]) (rest := []) (ls_q := [.int 15, .int a1, .int a2]) rfl rfl (Or.inl rfl) pm_M50 rfl rfl (Nat.le_of_ble_eq_true rfl) rfl rfl ?_
  refine pm_R_lo pm_M50 (pc_q := 1) rfl rfl rfl ?_
  refine pm_R_lo pm_M50 (pc_q := 2) rfl rfl rfl ?_
  refine pm_R_icmp pm_M50 (t := 46) (pc_q := 5) rfl rfl rfl (fun c3 => ?_) (fun c3 => absurd (Int32.not_le.mp c3) (Int32.not_lt.mpr R))
  skip
  refine pm_R_lo pm_M50 (pc_q := 47) rfl rfl rfl ?_
  refine pm_R_ifc pm_M50 (t := 59) (pc_q := 50) rfl rfl rfl (fun c4 => ?_) (fun c4 => absurd (Int32.not_le.mp c4) (sf_nlt Ba1 sf_k0 (by decide)))
  skip
  refine pm_R_lo pm_M50 (pc_q := 60) rfl rfl rfl ?_
  refine pm_R_lo pm_M50 (pc_q := 61) rfl rfl rfl ?_
  refine pm_R_icmp pm_M50 (t := 73) (pc_q := 64) rfl rfl rfl (fun c5 => ?_) (fun c5 => absurd (Int32.not_le.mp c5) (sf_nlt sf_k15 Ba2 (by decide)))
  skip
  refine pm_R_ret pm_M50 (r := none) rfl rfl ?_
  show pm_R _ 49 7 [.ref (b + 1), .int a1, .int a2, .int a3, pm_no] [] _ _
  refine pm_R_lo pm_M49 (pc_q := 8) rfl rfl rfl ?_
  refine pm_R_lo pm_M49 (pc_q := 10) (ls_q := [.ref (b + 1), .int a1, .int a2, .int a3, .int a1]) (st_q := []) rfl rfl rfl ?_
  have L_40 : ∀ (N : Nat) (h_40 : pm_H) (m_40 : Nat → Int32) (x4_40 : Int32), cl_T ck E m_40 o h_40 → cl_F ck [] 0 0 h h_40 → rf_W [] m m_40 → sf_B 0 15 x4_40 → (∀ c, ck c = 24 → h_40.2.2 c = h.2.2 c) → (15 - x4_40.toInt).toNat = N → pm_R (d + 1) 49 10 [.ref (b + 1), .int a1, .int a2, .int a3, .int x4_40] [] h_40 Q := by
    intro N
    induction N using Nat.strongRecOn with
    | ind N ih_40 =>
      intro h_40 m_40 x4_40 T_40 F_40 W_40 Bx4_40 X_40 hN_40
      have W43 : rf_W [] m m_40 := (rf_W.refl [] m).trans W_40 (by decide)
      refine pm_R_lo pm_M49 (pc_q := 12) rfl rfl rfl ?_
      refine pm_R_lo pm_M49 (pc_q := 13) rfl rfl rfl ?_
      refine pm_R_icmp pm_M49 (t := 27) (pc_q := 16) rfl rfl rfl (fun c44 => ?_) (fun c44 => ?_)
      · skip
        exact pm_R_ret pm_M49 (r := none) rfl rfl (K m_40 h_40 T_40 F_40 W43 X_40)
      · have B45 : sf_B 0 14 x4_40 := sf_ltL (Int32.not_le.mp c44) Bx4_40 Ba2
        have B46 : sf_B 1 15 a2 := sf_ltR (Int32.not_le.mp c44) Bx4_40 Ba2
        refine pm_R_lo pm_M49 (pc_q := 17) rfl rfl rfl ?_
        refine pm_R_lo pm_M49 (pc_q := 19) rfl rfl rfl ?_
        refine pm_R_lo pm_M49 (pc_q := 20) rfl rfl rfl ?_
        obtain ⟨f47, e48⟩ := T_40.D.2.2.2.2.1 _ (G.s25 hk).1
        refine cl_R_sst25 G pm_M49 T_40 (pc_q := 21) rfl hk e48 (sf_in B45 (by decide) (by decide)) rfl (fun h49 T50 F51 U52 => ?_)
        have F53 := F_40.trans (N := 0) (S := 0) F51 (by decide) (by decide) (by decide)
        have U54 := fun (c : Nat) (hc : ck c = 24) => (U52 c hc).trans (X_40 c hc)
        refine sf_R_iinc pm_M49 (pc_q := 24) (ls_q := fun z => [.ref (b + 1), .int a1, .int a2, .int a3, .int z]) rfl B45 rfl (by decide) (by decide) (by decide) (fun _ => rfl) rfl (fun z55 e56 B57 => ?_)
        show pm_R _ 49 24 [.ref (b + 1), .int a1, .int a2, .int a3, .int z55] [] _ _
        refine pm_R_br pm_M49 (pc_q := 10) rfl rfl ?_
        exact ih_40 _ (sf_up hN_40 e56 B45 (by decide) (by decide)) h49 m_40 z55 T50 F53 W_40 (sf_weak B57 (by decide) (by decide)) U54 rfl
  exact L_40 _ h m a1 T (cl_F.refl (ck := ck) (A := []) (n := 0) (s := 0) T.1) (rf_W.refl _ _) Ba1 (fun _ _ => rfl) rfl

set_option maxRecDepth 100000 in
set_option maxHeartbeats 4000000 in
/-- java/util/Arrays.fill -/
theorem cl_c102_s1 {d : Nat} {ck : cl_K} {E : Nat → pm_E} {m : Nat → Int32} {o : Nat → Option Nat} {h : pm_H} {Q : Option Value → pm_H → Prop} {b : Nat} {a1 : Int32} {a2 : Int32} {a3 : Int64} (G : cl_G ck E) (T : cl_T ck E m o h) (hk : ck b = 24) (Ba1 : sf_B 0 6666 a1) (Ba2 : sf_B 0 6666 a2) (R : a1 ≤ a2) (K : ∀ (m_q : Nat → Int32) (h_q : pm_H), cl_T ck E m_q o h_q → cl_F ck [] 0 0 h h_q → rf_W [] m m_q → (∀ c, ck c = 24 → h_q.2.2 c = h.2.2 c) → Q none h_q) : pm_R (d + 1) 102 0 [.ref (b + 2), .int a1, .int a2, .long a3, pm_no, pm_no] [] h Q := by
  refine pm_R_lo pm_M102 (pc_q := 1) rfl rfl rfl ?_
  obtain ⟨f1, e2⟩ := T.D.2.2.2.2.2.1 _ (G.s25 hk).2.1
  refine pm_R_alen pm_M102 (pc_q := 2) (v := 6666) rfl e2 (G.ge (G.s25 hk).2.1 (by decide)) (T.al (G.s25 hk).2.1 (by decide)) (by decide) rfl rfl ?_
  refine pm_R_lo pm_M102 (pc_q := 3) rfl rfl rfl ?_
  refine pm_R_lo pm_M102 (pc_q := 4) rfl rfl rfl ?_
  refine pm_R_cs pm_M102 (pc_q := 7) (ra := [.int a2, .int a1, .int 6666]) (rest := []) (ls_q := [.int 6666, .int a1, .int a2]) rfl rfl (Or.inl rfl) pm_M50 rfl rfl (Nat.le_of_ble_eq_true rfl) rfl rfl ?_
  refine pm_R_lo pm_M50 (pc_q := 1) rfl rfl rfl ?_
  refine pm_R_lo pm_M50 (pc_q := 2) rfl rfl rfl ?_
  refine pm_R_icmp pm_M50 (t := 46) (pc_q := 5) rfl rfl rfl (fun c3 => ?_) (fun c3 => absurd (Int32.not_le.mp c3) (Int32.not_lt.mpr R))
  skip
  refine pm_R_lo pm_M50 (pc_q := 47) rfl rfl rfl ?_
  refine pm_R_ifc pm_M50 (t := 59) (pc_q := 50) rfl rfl rfl (fun c4 => ?_) (fun c4 => absurd (Int32.not_le.mp c4) (sf_nlt Ba1 sf_k0 (by decide)))
  skip
  refine pm_R_lo pm_M50 (pc_q := 60) rfl rfl rfl ?_
  refine pm_R_lo pm_M50 (pc_q := 61) rfl rfl rfl ?_
  refine pm_R_icmp pm_M50 (t := 73) (pc_q := 64) rfl rfl rfl (fun c5 => ?_) (fun c5 => absurd (Int32.not_le.mp c5) (sf_nlt sf_k6666 Ba2 (by decide)))
  skip
  refine pm_R_ret pm_M50 (r := none) rfl rfl ?_
  show pm_R _ 102 7 [.ref (b + 2), .int a1, .int a2, .long a3, pm_no, pm_no] [] _ _
  refine pm_R_lo pm_M102 (pc_q := 8) rfl rfl rfl ?_
  refine pm_R_lo pm_M102 (pc_q := 10) (ls_q := [.ref (b + 2), .int a1, .int a2, .long a3, pm_no, .int a1]) (st_q := []) rfl rfl rfl ?_
  have L_40 : ∀ (N : Nat) (h_40 : pm_H) (m_40 : Nat → Int32) (x5_40 : Int32), cl_T ck E m_40 o h_40 → cl_F ck [] 0 0 h h_40 → rf_W [] m m_40 → sf_B 0 6666 x5_40 → (∀ c, ck c = 24 → h_40.2.2 c = h.2.2 c) → (6666 - x5_40.toInt).toNat = N → pm_R (d + 1) 102 10 [.ref (b + 2), .int a1, .int a2, .long a3, pm_no, .int x5_40] [] h_40 Q := by
    intro N
    induction N using Nat.strongRecOn with
    | ind N ih_40 =>
      intro h_40 m_40 x5_40 T_40 F_40 W_40 Bx5_40 X_40 hN_40
      have W43 : rf_W [] m m_40 := (rf_W.refl [] m).trans W_40 (by decide)
      refine pm_R_lo pm_M102 (pc_q := 12) rfl rfl rfl ?_
      refine pm_R_lo pm_M102 (pc_q := 13) rfl rfl rfl ?_
      refine pm_R_icmp pm_M102 (t := 27) (pc_q := 16) rfl rfl rfl (fun c44 => ?_) (fun c44 => ?_)
      · skip
        exact pm_R_ret pm_M102 (r := none) rfl rfl (K m_40 h_40 T_40 F_40 W43 X_40)
      · have B45 : sf_B 0 6665 x5_40 := sf_ltL (Int32.not_le.mp c44) Bx5_40 Ba2
        have B46 : sf_B 1 6666 a2 := sf_ltR (Int32.not_le.mp c44) Bx5_40 Ba2
        refine pm_R_lo pm_M102 (pc_q := 17) rfl rfl rfl ?_
        refine pm_R_lo pm_M102 (pc_q := 19) rfl rfl rfl ?_
        refine pm_R_lo pm_M102 (pc_q := 20) rfl rfl rfl ?_
        obtain ⟨f47, e48⟩ := T_40.D.2.2.2.2.2.1 _ (G.s25 hk).2.1
        refine cl_R_sst26 G pm_M102 T_40 (pc_q := 21) rfl hk e48 (sf_in B45 (by decide) (by decide)) rfl (fun h49 T50 F51 U52 => ?_)
        have F53 := F_40.trans (N := 0) (S := 0) F51 (by decide) (by decide) (by decide)
        have U54 := fun (c : Nat) (hc : ck c = 24) => (U52 c hc).trans (X_40 c hc)
        refine sf_R_iinc pm_M102 (pc_q := 24) (ls_q := fun z => [.ref (b + 2), .int a1, .int a2, .long a3, pm_no, .int z]) rfl B45 rfl (by decide) (by decide) (by decide) (fun _ => rfl) rfl (fun z55 e56 B57 => ?_)
        show pm_R _ 102 24 [.ref (b + 2), .int a1, .int a2, .long a3, pm_no, .int z55] [] _ _
        refine pm_R_br pm_M102 (pc_q := 10) rfl rfl ?_
        exact ih_40 _ (sf_up hN_40 e56 B45 (by decide) (by decide)) h49 m_40 z55 T50 F53 W_40 (sf_weak B57 (by decide) (by decide)) U54 rfl
  exact L_40 _ h m a1 T (cl_F.refl (ck := ck) (A := []) (n := 0) (s := 0) T.1) (rf_W.refl _ _) Ba1 (fun _ _ => rfl) rfl

set_option maxRecDepth 100000 in
set_option maxHeartbeats 4000000 in
/-- java/util/Arrays.fill -/
theorem cl_c49_s2 {d : Nat} {ck : cl_K} {E : Nat → pm_E} {m : Nat → Int32} {o : Nat → Option Nat} {h : pm_H} {Q : Option Value → pm_H → Prop} {b : Nat} {a1 : Int32} {a2 : Int32} {a3 : Int32} (G : cl_G ck E) (T : cl_T ck E m o h) (hk : ck b = 24) (Ba1 : sf_B 0 6666 a1) (Ba2 : sf_B 0 6666 a2) (R : a1 ≤ a2) (K : ∀ (m_q : Nat → Int32) (h_q : pm_H), cl_T ck E m_q o h_q → cl_F ck [] 0 0 h h_q → rf_W [] m m_q → (∀ c, ck c = 24 → h_q.2.2 c = h.2.2 c) → Q none h_q) : pm_R (d + 1) 49 0 [.ref (b + 3), .int a1, .int a2, .int a3, pm_no] [] h Q := by
  refine pm_R_lo pm_M49 (pc_q := 1) rfl rfl rfl ?_
  obtain ⟨f1, e2⟩ := T.D.2.2.2.2.2.2.1 _ (G.s25 hk).2.2.1
  refine pm_R_alen pm_M49 (pc_q := 2) (v := 6666) rfl e2 (G.ge (G.s25 hk).2.2.1 (by decide)) (T.al (G.s25 hk).2.2.1 (by decide)) (by decide) rfl rfl ?_
  refine pm_R_lo pm_M49 (pc_q := 3) rfl rfl rfl ?_
  refine pm_R_lo pm_M49 (pc_q := 4) rfl rfl rfl ?_
  refine pm_R_cs pm_M49 (pc_q := 7) (ra := [.int a2, .int a1, .int 6666]) (rest := []) (ls_q := [.int 6666, .int a1, .int a2]) rfl rfl (Or.inl rfl) pm_M50 rfl rfl (Nat.le_of_ble_eq_true rfl) rfl rfl ?_
  refine pm_R_lo pm_M50 (pc_q := 1) rfl rfl rfl ?_
  refine pm_R_lo pm_M50 (pc_q := 2) rfl rfl rfl ?_
  refine pm_R_icmp pm_M50 (t := 46) (pc_q := 5) rfl rfl rfl (fun c3 => ?_) (fun c3 => absurd (Int32.not_le.mp c3) (Int32.not_lt.mpr R))
  skip
  refine pm_R_lo pm_M50 (pc_q := 47) rfl rfl rfl ?_
  refine pm_R_ifc pm_M50 (t := 59) (pc_q := 50) rfl rfl rfl (fun c4 => ?_) (fun c4 => absurd (Int32.not_le.mp c4) (sf_nlt Ba1 sf_k0 (by decide)))
  skip
  refine pm_R_lo pm_M50 (pc_q := 60) rfl rfl rfl ?_
  refine pm_R_lo pm_M50 (pc_q := 61) rfl rfl rfl ?_
  refine pm_R_icmp pm_M50 (t := 73) (pc_q := 64) rfl rfl rfl (fun c5 => ?_) (fun c5 => absurd (Int32.not_le.mp c5) (sf_nlt sf_k6666 Ba2 (by decide)))
  skip
  refine pm_R_ret pm_M50 (r := none) rfl rfl ?_
  show pm_R _ 49 7 [.ref (b + 3), .int a1, .int a2, .int a3, pm_no] [] _ _
  refine pm_R_lo pm_M49 (pc_q := 8) rfl rfl rfl ?_
  refine pm_R_lo pm_M49 (pc_q := 10) (ls_q := [.ref (b + 3), .int a1, .int a2, .int a3, .int a1]) (st_q := []) rfl rfl rfl ?_
  have L_40 : ∀ (N : Nat) (h_40 : pm_H) (m_40 : Nat → Int32) (x4_40 : Int32), cl_T ck E m_40 o h_40 → cl_F ck [] 0 0 h h_40 → rf_W [] m m_40 → sf_B 0 6666 x4_40 → (∀ c, ck c = 24 → h_40.2.2 c = h.2.2 c) → (6666 - x4_40.toInt).toNat = N → pm_R (d + 1) 49 10 [.ref (b + 3), .int a1, .int a2, .int a3, .int x4_40] [] h_40 Q := by
    intro N
    induction N using Nat.strongRecOn with
    | ind N ih_40 =>
      intro h_40 m_40 x4_40 T_40 F_40 W_40 Bx4_40 X_40 hN_40
      have W43 : rf_W [] m m_40 := (rf_W.refl [] m).trans W_40 (by decide)
      refine pm_R_lo pm_M49 (pc_q := 12) rfl rfl rfl ?_
      refine pm_R_lo pm_M49 (pc_q := 13) rfl rfl rfl ?_
      refine pm_R_icmp pm_M49 (t := 27) (pc_q := 16) rfl rfl rfl (fun c44 => ?_) (fun c44 => ?_)
      · skip
        exact pm_R_ret pm_M49 (r := none) rfl rfl (K m_40 h_40 T_40 F_40 W43 X_40)
      · have B45 : sf_B 0 6665 x4_40 := sf_ltL (Int32.not_le.mp c44) Bx4_40 Ba2
        have B46 : sf_B 1 6666 a2 := sf_ltR (Int32.not_le.mp c44) Bx4_40 Ba2
        refine pm_R_lo pm_M49 (pc_q := 17) rfl rfl rfl ?_
        refine pm_R_lo pm_M49 (pc_q := 19) rfl rfl rfl ?_
        refine pm_R_lo pm_M49 (pc_q := 20) rfl rfl rfl ?_
        obtain ⟨f47, e48⟩ := T_40.D.2.2.2.2.2.2.1 _ (G.s25 hk).2.2.1
        refine cl_R_sst27 G pm_M49 T_40 (pc_q := 21) rfl hk e48 (sf_in B45 (by decide) (by decide)) rfl (fun h49 T50 F51 U52 => ?_)
        have F53 := F_40.trans (N := 0) (S := 0) F51 (by decide) (by decide) (by decide)
        have U54 := fun (c : Nat) (hc : ck c = 24) => (U52 c hc).trans (X_40 c hc)
        refine sf_R_iinc pm_M49 (pc_q := 24) (ls_q := fun z => [.ref (b + 3), .int a1, .int a2, .int a3, .int z]) rfl B45 rfl (by decide) (by decide) (by decide) (fun _ => rfl) rfl (fun z55 e56 B57 => ?_)
        show pm_R _ 49 24 [.ref (b + 3), .int a1, .int a2, .int a3, .int z55] [] _ _
        refine pm_R_br pm_M49 (pc_q := 10) rfl rfl ?_
        exact ih_40 _ (sf_up hN_40 e56 B45 (by decide) (by decide)) h49 m_40 z55 T50 F53 W_40 (sf_weak B57 (by decide) (by decide)) U54 rfl
  exact L_40 _ h m a1 T (cl_F.refl (ck := ck) (A := []) (n := 0) (s := 0) T.1) (rf_W.refl _ _) Ba1 (fun _ _ => rfl) rfl

set_option maxRecDepth 100000 in
set_option maxHeartbeats 4000000 in
/-- SilentTable$ShortRows.fillSign -/
theorem cl_c128 {d : Nat} {ck : cl_K} {E : Nat → pm_E} {m : Nat → Int32} {o : Nat → Option Nat} {h : pm_H} {Q : Option Value → pm_H → Prop} {b : Nat} {a0 : Int32} {a1 : Int32} (G : cl_G ck E) (T : cl_T ck E m o h) (hk : ck b = 24) (Ba1 : sf_B 0 6660 a1) (nn : cl_NN ck h b) (K : ∀ (m_q : Nat → Int32) (h_q : pm_H), cl_T ck E m_q o h_q → cl_F ck [] 0 0 h h_q → rf_W [] m m_q → cl_NT ck h h_q → Q none h_q) : pm_R (d + 0) 128 0 [.ref b, .int a0, .int a1, pm_no, pm_no] [] h Q := by
  refine pm_R_op pm_M128 (pc_q := 1) (st_q := [.int 0]) rfl rfl rfl ?_
  refine pm_R_lo pm_M128 (pc_q := 2) (ls_q := [.ref b, .int a0, .int a1, .int 0, pm_no]) (st_q := []) rfl rfl rfl ?_
  have L_511 : ∀ (N : Nat) (h_511 : pm_H) (m_511 : Nat → Int32) (x3_511 : Int32) (g4_511 : Value), cl_T ck E m_511 o h_511 → cl_F ck [] 0 0 h h_511 → rf_W [] m m_511 → sf_B 0 16 x3_511 → g4_511.category = 1 → cl_NT ck h h_511 → (16 - x3_511.toInt).toNat = N → pm_R (d + 0) 128 2 [.ref b, .int a0, .int a1, .int x3_511, g4_511] [] h_511 Q := by
    intro N
    induction N using Nat.strongRecOn with
    | ind N ih_511 =>
      intro h_511 m_511 x3_511 g4_511 T_511 F_511 W_511 Bx3_511 Cg4_511 X_511 hN_511
      have W514 : rf_W [] m m_511 := (rf_W.refl [] m).trans W_511 (by decide)
      refine pm_R_lo pm_M128 (pc_q := 3) rfl rfl rfl ?_
      refine pm_R_lo pm_M128 (pc_q := 4) rfl rfl rfl ?_
      obtain ⟨lo515, fi516, av517, ah518, an519, kl520, B521, B522, eS523⟩ := id (X_511 _ hk nn)
      have nn524 : cl_NN ck h_511 b := ⟨lo515, fi516, av517, ah518, an519, kl520, B521, B522, eS523⟩
      refine pm_R_get pm_M128 (pc_q := 7) (v := .ref lo515) rfl rfl eS523 (G.ge hk (by decide)) (T_511.al hk (by decide)) rfl rfl ?_
      obtain ⟨rc525, tc526, rs527, fv528, fw529, fr530, ft531, fn532, h533, h534, B535, eE536, eE537, eE538, eE539, eE540, eE541, b542, b543, b544⟩ := (G.2.1 lo515 kl520).2.2.2.2.2
      have kq545 := G.2.1 lo515 kl520
      refine pm_R_get pm_M128 (pc_q := 10) (v := .int (Int32.ofNat tc526)) rfl rfl (T_511.im kl520 (by decide) (by decide) eE536) (G.ge kl520 (by decide)) (T_511.al kl520 (by decide)) rfl rfl ?_
      refine pm_R_icmp pm_M128 (t := 89) (pc_q := 13) rfl rfl rfl (fun c546 => ?_) (fun c546 => ?_)
      · skip
        exact pm_R_ret pm_M128 (r := none) rfl rfl (K m_511 h_511 T_511 F_511 W514 X_511)
      · have B547 : sf_B 0 15 x3_511 := sf_ltL (Int32.not_le.mp c546) Bx3_511 (sf_ofB h534 (by decide))
        have B548 : sf_B 1 16 (Int32.ofNat tc526) := sf_ltR (Int32.not_le.mp c546) Bx3_511 (sf_ofB h534 (by decide))
        refine pm_R_lo pm_M128 (pc_q := 14) rfl rfl rfl ?_
        refine pm_R_get pm_M128 (pc_q := 17) (v := .ref lo515) rfl rfl eS523 (G.ge hk (by decide)) (T_511.al hk (by decide)) rfl rfl ?_
        refine pm_R_get pm_M128 (pc_q := 20) (v := .ref (lo515 + 4)) rfl rfl (T_511.im kl520 (by decide) (by decide) eE536) (G.ge kl520 (by decide)) (T_511.al kl520 (by decide)) rfl rfl ?_
        refine pm_R_lo pm_M128 (pc_q := 21) rfl rfl rfl ?_
        refine pm_R_op pm_M128 (pc_q := 22) (st_q := [.int 4, .int x3_511, .ref (lo515 + 4)]) rfl rfl rfl ?_
        refine sf_R_imul pm_M128 (pc_q := 23) rfl rfl B547 sf_k4 (by decide) (by decide) (by decide) (fun z549 e550 B551 => ?_)
        have q555 := cl_in4 (n := tc526) (Nat.le_trans h534 (by decide)) (Int32.not_le.mp c546) (cl_aux5 _ _ e550) B547 (by decide) (by decide)
        obtain ⟨z552, ez553⟩ : ∃ y, ft531 (Int32.toNatClampNeg z549) = y := ⟨_, rfl⟩
        have B554 : sf_B 0 9 z552 := ez553 ▸ q555.2.2 ▸ (b543 _ q555.2.1).1
        refine pm_R_iald pm_M128 (pc_q := 24) (v := z552) rfl (T_511.im kq545.2.2.2.1 (by decide) (by decide) eE540) (T_511.al kq545.2.2.2.1 (by decide)) q555.1 ez553 rfl ?_
        refine pm_R_lo pm_M128 (pc_q := 25) rfl rfl rfl ?_
        refine pm_R_icmp pm_M128 (t := 83) (pc_q := 28) rfl rfl rfl (fun c556 => ?_) (fun c556 => ?_)
        · skip
          refine sf_R_iinc pm_M128 (pc_q := 86) (ls_q := fun z => [.ref b, .int a0, .int a1, .int z, g4_511]) rfl B547 rfl (by decide) (by decide) (by decide) (fun _ => rfl) rfl (fun z557 e558 B559 => ?_)
          show pm_R _ 128 86 [.ref b, .int a0, .int a1, .int z557, g4_511] [] _ _
          refine pm_R_br pm_M128 (pc_q := 2) rfl rfl ?_
          exact ih_511 _ (sf_up hN_511 e558 B547 (by decide) (by decide)) h_511 m_511 z557 (g4_511) T_511 F_511 W_511 (sf_weak B559 (by decide) (by decide)) Cg4_511 X_511 rfl
        · have B560 : sf_B 0 9 a0 := sf_eqR (Classical.not_not.mp c556) B554
          refine pm_R_lo pm_M128 (pc_q := 29) rfl rfl rfl ?_
          refine pm_R_get pm_M128 (pc_q := 32) (v := .ref lo515) rfl rfl eS523 (G.ge hk (by decide)) (T_511.al hk (by decide)) rfl rfl ?_
          refine pm_R_get pm_M128 (pc_q := 35) (v := .ref (lo515 + 4)) rfl rfl (T_511.im kl520 (by decide) (by decide) eE536) (G.ge kl520 (by decide)) (T_511.al kl520 (by decide)) rfl rfl ?_
          refine pm_R_lo pm_M128 (pc_q := 36) rfl rfl rfl ?_
          refine pm_R_op pm_M128 (pc_q := 37) (st_q := [.int 4, .int x3_511, .ref (lo515 + 4)]) rfl rfl rfl ?_
          refine sf_R_imulV pm_M128 (pc_q := 38) rfl rfl B547 sf_k4 (by decide) (by decide) (by decide) e550 ?_
          refine pm_R_op pm_M128 (pc_q := 39) (st_q := [.int 1, .int z549, .ref (lo515 + 4)]) rfl rfl rfl ?_
          refine sf_R_iadd pm_M128 (pc_q := 40) rfl rfl B551 sf_k1 (by decide) (by decide) (fun z561 e562 B563 => ?_)
          have q567 := cl_in4 (n := tc526) (Nat.le_trans h534 (by decide)) (Int32.not_le.mp c546) (cl_aux7 _ _ _ e550 e562) B547 (by decide) (by decide)
          obtain ⟨z564, ez565⟩ : ∃ y, ft531 (Int32.toNatClampNeg z561) = y := ⟨_, rfl⟩
          have B566 : sf_B 0 5 z564 := ez565 ▸ q567.2.2 ▸ (b543 _ q567.2.1).2.1
          refine pm_R_iald pm_M128 (pc_q := 41) (v := z564) rfl (T_511.im kq545.2.2.2.1 (by decide) (by decide) eE540) (T_511.al kq545.2.2.2.1 (by decide)) q567.1 ez565 rfl ?_
          refine pm_R_lo pm_M128 (pc_q := 43) (ls_q := [.ref b, .int a0, .int a1, .int x3_511, .int z564]) (st_q := []) rfl rfl rfl ?_
          refine pm_R_lo pm_M128 (pc_q := 44) rfl rfl rfl ?_
          refine pm_R_get pm_M128 (pc_q := 47) (v := .ref (b + 2)) rfl rfl eS523 (G.ge hk (by decide)) (T_511.al hk (by decide)) rfl rfl ?_
          refine pm_R_lo pm_M128 (pc_q := 48) rfl rfl rfl ?_
          refine pm_R_lo pm_M128 (pc_q := 50) rfl rfl rfl ?_
          refine sf_R_iadd pm_M128 (pc_q := 51) rfl rfl Ba1 B566 (by decide) (by decide) (fun z568 e569 B570 => ?_)
          refine pm_R_op pm_M128 (pc_q := 52) (st_q := [.int z568, .ref (b + 2), .int z568, .ref (b + 2)]) rfl rfl rfl ?_
          obtain ⟨f574, e575⟩ := T_511.D.2.2.2.2.2.1 _ (G.s25 hk).2.1
          obtain ⟨z571, ez572⟩ : ∃ y, f574 (Int32.toNatClampNeg z568) = y := ⟨_, rfl⟩
          refine pm_R_lald pm_M128 (pc_q := 53) (v := z571) rfl e575 (G.ge (G.s25 hk).2.1 (by decide)) (T_511.al (G.s25 hk).2.1 (by decide)) (sf_in B570 (by decide) (by decide)) ez572 rfl ?_
          refine pm_R_op pm_M128 (pc_q := 54) (st_q := [.long 1, .long z571, .int z568, .ref (b + 2)]) rfl rfl rfl ?_
          refine pm_R_lo pm_M128 (pc_q := 55) rfl rfl rfl ?_
          refine pm_R_get pm_M128 (pc_q := 58) (v := .ref lo515) rfl rfl eS523 (G.ge hk (by decide)) (T_511.al hk (by decide)) rfl rfl ?_
          refine pm_R_get pm_M128 (pc_q := 61) (v := .ref (lo515 + 4)) rfl rfl (T_511.im kl520 (by decide) (by decide) eE536) (G.ge kl520 (by decide)) (T_511.al kl520 (by decide)) rfl rfl ?_
          refine pm_R_lo pm_M128 (pc_q := 62) rfl rfl rfl ?_
          refine pm_R_op pm_M128 (pc_q := 63) (st_q := [.int 4, .int x3_511, .ref (lo515 + 4), .long 1, .long z571, .int z568, .ref (b + 2)]) rfl rfl rfl ?_
          refine sf_R_imulV pm_M128 (pc_q := 64) rfl rfl B547 sf_k4 (by decide) (by decide) (by decide) e550 ?_
          refine pm_R_op pm_M128 (pc_q := 65) (st_q := [.int 2, .int z549, .ref (lo515 + 4), .long 1, .long z571, .int z568, .ref (b + 2)]) rfl rfl rfl ?_
          refine sf_R_iadd pm_M128 (pc_q := 66) rfl rfl B551 sf_k2 (by decide) (by decide) (fun z576 e577 B578 => ?_)
          have q582 := cl_in4 (n := tc526) (Nat.le_trans h534 (by decide)) (Int32.not_le.mp c546) (cl_aux6 _ _ _ e550 e577) B547 (by decide) (by decide)
          obtain ⟨z579, ez580⟩ : ∃ y, ft531 (Int32.toNatClampNeg z576) = y := ⟨_, rfl⟩
          have B581 : sf_B 0 49 z579 := ez580 ▸ q582.2.2 ▸ (b543 _ q582.2.1).2.2
          refine pm_R_iald pm_M128 (pc_q := 67) (v := z579) rfl (T_511.im kq545.2.2.2.1 (by decide) (by decide) eE540) (T_511.al kq545.2.2.2.1 (by decide)) q582.1 ez580 rfl ?_
          refine sf_R_lany pm_M128 (pc_q := 68) (st := [.long z571, .int z568, .ref (b + 2)]) rfl rfl rfl (fun z583 => ?_)
          refine sf_R_lany pm_M128 (pc_q := 69) (st := [.int z568, .ref (b + 2)]) rfl rfl rfl (fun z584 => ?_)
          refine cl_R_sst26 G pm_M128 T_511 (pc_q := 70) rfl hk e575 (sf_in B570 (by decide) (by decide)) rfl (fun h585 T586 F587 U588 => ?_)
          have F589 := F_511.trans (N := 0) (S := 0) F587 (by decide) (by decide) (by decide)
          have nn590 := cl_NT.same U588 _ hk nn524
          have eS591 := (U588 _ hk).trans eS523
          have NT592 := X_511.trans (cl_NT.same U588)
          refine pm_R_lo pm_M128 (pc_q := 71) rfl rfl rfl ?_
          refine pm_R_get pm_M128 (pc_q := 74) (v := .ref (b + 3)) rfl rfl eS591 (G.ge hk (by decide)) (T586.al hk (by decide)) rfl rfl ?_
          refine pm_R_lo pm_M128 (pc_q := 75) rfl rfl rfl ?_
          refine pm_R_lo pm_M128 (pc_q := 77) rfl rfl rfl ?_
          refine sf_R_iaddV pm_M128 (pc_q := 78) rfl rfl Ba1 B566 (by decide) (by decide) e569 ?_
          refine pm_R_op pm_M128 (pc_q := 79) (st_q := [.int z568, .ref (b + 3), .int z568, .ref (b + 3)]) rfl rfl rfl ?_
          obtain ⟨f596, e597⟩ := T586.D.2.2.2.2.2.2.1 _ (G.s25 hk).2.2.1
          obtain ⟨z593, ez594⟩ : ∃ y, f596 (Int32.toNatClampNeg z568) = y := ⟨_, rfl⟩
          refine pm_R_iald pm_M128 (pc_q := 80) (v := z593) rfl e597 (T586.al (G.s25 hk).2.2.1 (by decide)) (sf_in B570 (by decide) (by decide)) ez594 rfl ?_
          refine pm_R_op pm_M128 (pc_q := 81) (st_q := [.int 1, .int z593, .int z568, .ref (b + 3)]) rfl rfl rfl ?_
          refine sf_R_iany pm_M128 (pc_q := 82) (st := [.int z568, .ref (b + 3)]) rfl rfl rfl (fun z601 => ?_)
          refine cl_R_sst27 G pm_M128 T586 (pc_q := 83) rfl hk e597 (sf_in B570 (by decide) (by decide)) rfl (fun h602 T603 F604 U605 => ?_)
          have F606 := F589.trans (N := 0) (S := 0) F604 (by decide) (by decide) (by decide)
          have nn607 := cl_NT.same U605 _ hk nn590
          have eS608 := (U605 _ hk).trans eS591
          have NT609 := NT592.trans (cl_NT.same U605)
          refine sf_R_iinc pm_M128 (pc_q := 86) (ls_q := fun z => [.ref b, .int a0, .int a1, .int z, .int z564]) rfl B547 rfl (by decide) (by decide) (by decide) (fun _ => rfl) rfl (fun z610 e611 B612 => ?_)
          show pm_R _ 128 86 [.ref b, .int a0, .int a1, .int z610, .int z564] [] _ _
          refine pm_R_br pm_M128 (pc_q := 2) rfl rfl ?_
          exact ih_511 _ (sf_up hN_511 e611 B547 (by decide) (by decide)) h602 m_511 z610 (.int z564) T603 F606 W_511 (sf_weak B612 (by decide) (by decide)) rfl NT609 rfl
  exact L_511 _ h m 0 (pm_no) T (cl_F.refl (ck := ck) (A := []) (n := 0) (s := 0) T.1) (rf_W.refl _ _) (sf_weak sf_k0 (by decide) (by decide)) rfl (cl_NT.refl ck h) rfl

set_option maxRecDepth 100000 in
set_option maxHeartbeats 4000000 in
/-- SilentTable$ShortRows.fillCut -/
theorem cl_c129 {d : Nat} {ck : cl_K} {E : Nat → pm_E} {m : Nat → Int32} {o : Nat → Option Nat} {h : pm_H} {Q : Option Value → pm_H → Prop} {b : Nat} {a0 : Int32} {a1 : Int32} {a2 : Int32} {a3 : Int32} (G : cl_G ck E) (T : cl_T ck E m o h) (hk : ck b = 24) (Ba0 : sf_B 0 6660 a0) (Ba1 : sf_B 0 6654 a1) (Ba2 : sf_B 0 6654 a2) (Ba3 : sf_B 0 1 a3) (nn : cl_NN ck h b) (K : ∀ (m_q : Nat → Int32) (h_q : pm_H), cl_T ck E m_q o h_q → cl_F ck [] 0 0 h h_q → rf_W [] m m_q → cl_NT ck h h_q → Q none h_q) : pm_R (d + 2) 129 0 [.ref b, .int a0, .int a1, .int a2, .int a3, pm_no, pm_no, pm_no, pm_no] [] h Q := by
  refine pm_R_op pm_M129 (pc_q := 1) (st_q := [.int 0]) rfl rfl rfl ?_
  refine pm_R_lo pm_M129 (pc_q := 3) (ls_q := [.ref b, .int a0, .int a1, .int a2, .int a3, .int 0, pm_no, pm_no, pm_no]) (st_q := []) rfl rfl rfl ?_
  have L_2661 : ∀ (N : Nat) (h_2661 : pm_H) (m_2661 : Nat → Int32) (x5_2661 : Int32) (g6_2661 : Value) (g7_2661 : Value) (g8_2661 : Value), cl_T ck E m_2661 o h_2661 → cl_F ck [] 0 0 h h_2661 → rf_W [] m m_2661 → sf_B 0 10 x5_2661 → g6_2661.category = 1 → g7_2661.category = 1 → g8_2661.category = 1 → cl_NT ck h h_2661 → (10 - x5_2661.toInt).toNat = N → pm_R (d + 2) 129 3 [.ref b, .int a0, .int a1, .int a2, .int a3, .int x5_2661, g6_2661, g7_2661, g8_2661] [] h_2661 Q := by
    intro N
    induction N using Nat.strongRecOn with
    | ind N ih_2661 =>
      intro h_2661 m_2661 x5_2661 g6_2661 g7_2661 g8_2661 T_2661 F_2661 W_2661 Bx5_2661 Cg6_2661 Cg7_2661 Cg8_2661 X_2661 hN_2661
      have W2664 : rf_W [] m m_2661 := (rf_W.refl [] m).trans W_2661 (by decide)
      refine pm_R_lo pm_M129 (pc_q := 5) rfl rfl rfl ?_
      refine pm_R_lo pm_M129 (pc_q := 6) rfl rfl rfl ?_
      obtain ⟨lo2665, fi2666, av2667, ah2668, an2669, kl2670, B2671, B2672, eS2673⟩ := id (X_2661 _ hk nn)
      have nn2674 : cl_NN ck h_2661 b := ⟨lo2665, fi2666, av2667, ah2668, an2669, kl2670, B2671, B2672, eS2673⟩
      refine pm_R_get pm_M129 (pc_q := 9) (v := .ref lo2665) rfl rfl eS2673 (G.ge hk (by decide)) (T_2661.al hk (by decide)) rfl rfl ?_
      obtain ⟨rc2675, tc2676, rs2677, fv2678, fw2679, fr2680, ft2681, fn2682, h2683, h2684, B2685, eE2686, eE2687, eE2688, eE2689, eE2690, eE2691, b2692, b2693, b2694⟩ := (G.2.1 lo2665 kl2670).2.2.2.2.2
      have kq2695 := G.2.1 lo2665 kl2670
      refine pm_R_get pm_M129 (pc_q := 12) (v := .int (Int32.ofNat rc2675)) rfl rfl (T_2661.im kl2670 (by decide) (by decide) eE2686) (G.ge kl2670 (by decide)) (T_2661.al kl2670 (by decide)) rfl rfl ?_
      refine pm_R_icmp pm_M129 (t := 189) (pc_q := 15) rfl rfl rfl (fun c2696 => ?_) (fun c2696 => ?_)
      · skip
        exact pm_R_ret pm_M129 (r := none) (pm_q129_1 (Nat.le_of_ble_eq_true rfl)) rfl (K m_2661 h_2661 T_2661 F_2661 W2664 X_2661)
      · have B2697 : sf_B 0 9 x5_2661 := sf_ltL (Int32.not_le.mp c2696) Bx5_2661 (sf_ofB h2683 (by decide))
        have B2698 : sf_B 1 10 (Int32.ofNat rc2675) := sf_ltR (Int32.not_le.mp c2696) Bx5_2661 (sf_ofB h2683 (by decide))
        refine pm_R_lo pm_M129 (pc_q := 16) rfl rfl rfl ?_
        refine pm_R_lo pm_M129 (pc_q := 17) rfl rfl rfl ?_
        refine pm_R_get pm_M129 (pc_q := 20) (v := .ref lo2665) rfl rfl eS2673 (G.ge hk (by decide)) (T_2661.al hk (by decide)) rfl rfl ?_
        refine pm_R_get pm_M129 (pc_q := 23) (v := .ref (lo2665 + 3)) rfl rfl (T_2661.im kl2670 (by decide) (by decide) eE2686) (G.ge kl2670 (by decide)) (T_2661.al kl2670 (by decide)) rfl rfl ?_
        refine pm_R_lo pm_M129 (pc_q := 25) rfl rfl rfl ?_
        refine pm_R_op pm_M129 (pc_q := 26) (st_q := [.int 4, .int x5_2661, .ref (lo2665 + 3), .int a0]) rfl rfl rfl ?_
        refine sf_R_imul pm_M129 (pc_q := 27) rfl rfl B2697 sf_k4 (by decide) (by decide) (by decide) (fun z2699 e2700 B2701 => ?_)
        have q2705 := cl_in4 (n := rc2675) (Nat.le_trans h2683 (by decide)) (Int32.not_le.mp c2696) (cl_aux5 _ _ e2700) B2697 (by decide) (by decide)
        obtain ⟨z2702, ez2703⟩ : ∃ y, fr2680 (Int32.toNatClampNeg z2699) = y := ⟨_, rfl⟩
        have B2704 : sf_B 0 5 z2702 := ez2703 ▸ q2705.2.2 ▸ (b2692 _ q2705.2.1).1
        refine pm_R_iald pm_M129 (pc_q := 28) (v := z2702) rfl (T_2661.im kq2695.2.2.1 (by decide) (by decide) eE2689) (T_2661.al kq2695.2.2.1 (by decide)) q2705.1 ez2703 rfl ?_
        refine sf_R_iadd pm_M129 (pc_q := 29) rfl rfl Ba0 B2704 (by decide) (by decide) (fun z2706 e2707 B2708 => ?_)
        refine pm_R_lo pm_M129 (pc_q := 31) (ls_q := [.ref b, .int a0, .int a1, .int a2, .int a3, .int x5_2661, .int z2706, g7_2661, g8_2661]) (st_q := []) rfl rfl rfl ?_
        refine pm_R_lo pm_M129 (pc_q := 32) rfl rfl rfl ?_
        refine pm_R_lo pm_M129 (pc_q := 33) rfl rfl rfl ?_
        refine pm_R_get pm_M129 (pc_q := 36) (v := .ref lo2665) rfl rfl eS2673 (G.ge hk (by decide)) (T_2661.al hk (by decide)) rfl rfl ?_
        refine pm_R_get pm_M129 (pc_q := 39) (v := .ref (lo2665 + 3)) rfl rfl (T_2661.im kl2670 (by decide) (by decide) eE2686) (G.ge kl2670 (by decide)) (T_2661.al kl2670 (by decide)) rfl rfl ?_
        refine pm_R_lo pm_M129 (pc_q := 41) rfl rfl rfl ?_
        refine pm_R_op pm_M129 (pc_q := 42) (st_q := [.int 4, .int x5_2661, .ref (lo2665 + 3), .int a1]) rfl rfl rfl ?_
        refine sf_R_imulV pm_M129 (pc_q := 43) rfl rfl B2697 sf_k4 (by decide) (by decide) (by decide) e2700 ?_
        refine pm_R_op pm_M129 (pc_q := 44) (st_q := [.int 1, .int z2699, .ref (lo2665 + 3), .int a1]) rfl rfl rfl ?_
        refine sf_R_iadd pm_M129 (pc_q := 45) rfl rfl B2701 sf_k1 (by decide) (by decide) (fun z2709 e2710 B2711 => ?_)
        have q2715 := cl_in4 (n := rc2675) (Nat.le_trans h2683 (by decide)) (Int32.not_le.mp c2696) (cl_aux7 _ _ _ e2700 e2710) B2697 (by decide) (by decide)
        obtain ⟨z2712, ez2713⟩ : ∃ y, fr2680 (Int32.toNatClampNeg z2709) = y := ⟨_, rfl⟩
        have B2714 : sf_B 0 5 z2712 := ez2713 ▸ q2715.2.2 ▸ (b2692 _ q2715.2.1).2.1
        refine pm_R_iald pm_M129 (pc_q := 46) (v := z2712) rfl (T_2661.im kq2695.2.2.1 (by decide) (by decide) eE2689) (T_2661.al kq2695.2.2.1 (by decide)) q2715.1 ez2713 rfl ?_
        refine sf_R_iadd pm_M129 (pc_q := 47) rfl rfl Ba1 B2714 (by decide) (by decide) (fun z2716 e2717 B2718 => ?_)
        refine pm_R_lo pm_M129 (pc_q := 49) (ls_q := [.ref b, .int a0, .int a1, .int a2, .int a3, .int x5_2661, .int z2706, .int z2716, g8_2661]) (st_q := []) rfl rfl rfl ?_
        refine pm_R_lo pm_M129 (pc_q := 50) rfl rfl rfl ?_
        refine pm_R_lo pm_M129 (pc_q := 51) rfl rfl rfl ?_
        refine pm_R_get pm_M129 (pc_q := 54) (v := .ref lo2665) rfl rfl eS2673 (G.ge hk (by decide)) (T_2661.al hk (by decide)) rfl rfl ?_
        refine pm_R_get pm_M129 (pc_q := 57) (v := .ref (lo2665 + 3)) rfl rfl (T_2661.im kl2670 (by decide) (by decide) eE2686) (G.ge kl2670 (by decide)) (T_2661.al kl2670 (by decide)) rfl rfl ?_
        refine pm_R_lo pm_M129 (pc_q := 59) rfl rfl rfl ?_
        refine pm_R_op pm_M129 (pc_q := 60) (st_q := [.int 4, .int x5_2661, .ref (lo2665 + 3), .int a2]) rfl rfl rfl ?_
        refine sf_R_imulV pm_M129 (pc_q := 61) rfl rfl B2697 sf_k4 (by decide) (by decide) (by decide) e2700 ?_
        refine pm_R_op pm_M129 (pc_q := 62) (st_q := [.int 2, .int z2699, .ref (lo2665 + 3), .int a2]) rfl rfl rfl ?_
        refine sf_R_iadd pm_M129 (pc_q := 63) rfl rfl B2701 sf_k2 (by decide) (by decide) (fun z2719 e2720 B2721 => ?_)
        have q2725 := cl_in4 (n := rc2675) (Nat.le_trans h2683 (by decide)) (Int32.not_le.mp c2696) (cl_aux6 _ _ _ e2700 e2720) B2697 (by decide) (by decide)
        obtain ⟨z2722, ez2723⟩ : ∃ y, fr2680 (Int32.toNatClampNeg z2719) = y := ⟨_, rfl⟩
        have B2724 : sf_B 0 5 z2722 := ez2723 ▸ q2725.2.2 ▸ (b2692 _ q2725.2.1).2.2
        refine pm_R_iald pm_M129 (pc_q := 64) (v := z2722) rfl (T_2661.im kq2695.2.2.1 (by decide) (by decide) eE2689) (T_2661.al kq2695.2.2.1 (by decide)) q2725.1 ez2723 rfl ?_
        refine sf_R_iadd pm_M129 (pc_q := 65) rfl rfl Ba2 B2724 (by decide) (by decide) (fun z2726 e2727 B2728 => ?_)
        refine pm_R_lo pm_M129 (pc_q := 67) (ls_q := [.ref b, .int a0, .int a1, .int a2, .int a3, .int x5_2661, .int z2706, .int z2716, .int z2726]) (st_q := []) rfl rfl rfl ?_
        refine pm_R_lo pm_M129 (pc_q := 68) rfl rfl rfl ?_
        refine pm_R_get pm_M129 (pc_q := 71) (v := .ref (b + 3)) rfl rfl eS2673 (G.ge hk (by decide)) (T_2661.al hk (by decide)) rfl rfl ?_
        refine pm_R_lo pm_M129 (pc_q := 73) rfl rfl rfl ?_
        obtain ⟨f2732, e2733⟩ := T_2661.D.2.2.2.2.2.2.1 _ (G.s25 hk).2.2.1
        obtain ⟨z2729, ez2730⟩ : ∃ y, f2732 (Int32.toNatClampNeg z2716) = y := ⟨_, rfl⟩
        refine pm_R_iald pm_M129 (pc_q := 74) (v := z2729) rfl e2733 (T_2661.al (G.s25 hk).2.2.1 (by decide)) (sf_in B2718 (by decide) (by decide)) ez2730 rfl ?_
        refine pm_R_ifc pm_M129 (t := 183) (pc_q := 77) rfl rfl rfl (fun c2734 => ?_) (fun c2734 => ?_)
        · have B2735 : sf_B 0 0 z2729 := sf_eqL c2734 sf_k0
          refine sf_R_iinc pm_M129 (pc_q := 186) (ls_q := fun z => [.ref b, .int a0, .int a1, .int a2, .int a3, .int z, .int z2706, .int z2716, .int z2726]) (pm_q129_1 (Nat.le_of_ble_eq_true rfl)) B2697 rfl (by decide) (by decide) (by decide) (fun _ => rfl) rfl (fun z2736 e2737 B2738 => ?_)
          show pm_R _ 129 186 [.ref b, .int a0, .int a1, .int a2, .int a3, .int z2736, .int z2706, .int z2716, .int z2726] [] _ _
          refine pm_R_br pm_M129 (pc_q := 3) (pm_q129_1 (Nat.le_of_ble_eq_true rfl)) rfl ?_
          exact ih_2661 _ (sf_up hN_2661 e2737 B2697 (by decide) (by decide)) h_2661 m_2661 z2736 (.int z2706) (.int z2716) (.int z2726) T_2661 F_2661 W_2661 (sf_weak B2738 (by decide) (by decide)) rfl rfl rfl X_2661 rfl
        · skip
          refine pm_R_lo pm_M129 (pc_q := 78) rfl rfl rfl ?_
          refine pm_R_get pm_M129 (pc_q := 81) (v := .ref (b + 3)) rfl rfl eS2673 (G.ge hk (by decide)) (T_2661.al hk (by decide)) rfl rfl ?_
          refine pm_R_lo pm_M129 (pc_q := 83) rfl rfl rfl ?_
          obtain ⟨z2739, ez2740⟩ : ∃ y, f2732 (Int32.toNatClampNeg z2726) = y := ⟨_, rfl⟩
          refine pm_R_iald pm_M129 (pc_q := 84) (v := z2739) rfl e2733 (T_2661.al (G.s25 hk).2.2.1 (by decide)) (sf_in B2728 (by decide) (by decide)) ez2740 rfl ?_
          refine pm_R_ifc pm_M129 (t := 183) (pc_q := 87) rfl rfl rfl (fun c2742 => ?_) (fun c2742 => ?_)
          · have B2743 : sf_B 0 0 z2739 := sf_eqL c2742 sf_k0
            refine sf_R_iinc pm_M129 (pc_q := 186) (ls_q := fun z => [.ref b, .int a0, .int a1, .int a2, .int a3, .int z, .int z2706, .int z2716, .int z2726]) (pm_q129_1 (Nat.le_of_ble_eq_true rfl)) B2697 rfl (by decide) (by decide) (by decide) (fun _ => rfl) rfl (fun z2744 e2745 B2746 => ?_)
            show pm_R _ 129 186 [.ref b, .int a0, .int a1, .int a2, .int a3, .int z2744, .int z2706, .int z2716, .int z2726] [] _ _
            refine pm_R_br pm_M129 (pc_q := 3) (pm_q129_1 (Nat.le_of_ble_eq_true rfl)) rfl ?_
            exact ih_2661 _ (sf_up hN_2661 e2745 B2697 (by decide) (by decide)) h_2661 m_2661 z2744 (.int z2706) (.int z2716) (.int z2726) T_2661 F_2661 W_2661 (sf_weak B2746 (by decide) (by decide)) rfl rfl rfl X_2661 rfl
          · skip
            refine pm_R_lo pm_M129 (pc_q := 89) rfl rfl rfl ?_
            refine pm_R_ifc pm_M129 (t := 101) (pc_q := 92) rfl rfl rfl (fun c2747 => ?_) (fun c2747 => ?_)
            · have B2748 : sf_B 0 0 a3 := sf_eqL c2747 sf_k0
              refine pm_R_lo pm_M129 (pc_q := 102) rfl rfl rfl ?_
              refine pm_R_get pm_M129 (pc_q := 105) (v := .ref (b + 3)) rfl rfl eS2673 (G.ge hk (by decide)) (T_2661.al hk (by decide)) rfl rfl ?_
              refine pm_R_lo pm_M129 (pc_q := 107) rfl rfl rfl ?_
              refine pm_R_op pm_M129 (pc_q := 108) (st_q := [.int z2706, .ref (b + 3), .int z2706, .ref (b + 3)]) (pm_q129_1 (Nat.le_of_ble_eq_true rfl)) rfl rfl ?_
              obtain ⟨z2749, ez2750⟩ : ∃ y, f2732 (Int32.toNatClampNeg z2706) = y := ⟨_, rfl⟩
              refine pm_R_iald pm_M129 (pc_q := 109) (v := z2749) (pm_q129_1 (Nat.le_of_ble_eq_true rfl)) e2733 (T_2661.al (G.s25 hk).2.2.1 (by decide)) (sf_in B2708 (by decide) (by decide)) ez2750 rfl ?_
              refine pm_R_lo pm_M129 (pc_q := 110) (pm_q129_1 (Nat.le_of_ble_eq_true rfl)) rfl rfl ?_
              refine pm_R_get pm_M129 (pc_q := 113) (v := .ref (b + 3)) (pm_q129_1 (Nat.le_of_ble_eq_true rfl)) rfl eS2673 (G.ge hk (by decide)) (T_2661.al hk (by decide)) rfl rfl ?_
              refine pm_R_lo pm_M129 (pc_q := 115) (pm_q129_1 (Nat.le_of_ble_eq_true rfl)) rfl rfl ?_
              obtain ⟨z2752, ez2753⟩ : ∃ y, f2732 (Int32.toNatClampNeg z2716) = y := ⟨_, rfl⟩
              refine pm_R_iald pm_M129 (pc_q := 116) (v := z2752) (pm_q129_1 (Nat.le_of_ble_eq_true rfl)) e2733 (T_2661.al (G.s25 hk).2.2.1 (by decide)) (sf_in B2718 (by decide) (by decide)) ez2753 rfl ?_
              refine pm_R_lo pm_M129 (pc_q := 117) (pm_q129_1 (Nat.le_of_ble_eq_true rfl)) rfl rfl ?_
              refine pm_R_get pm_M129 (pc_q := 120) (v := .ref (b + 3)) (pm_q129_1 (Nat.le_of_ble_eq_true rfl)) rfl eS2673 (G.ge hk (by decide)) (T_2661.al hk (by decide)) rfl rfl ?_
              refine pm_R_lo pm_M129 (pc_q := 122) (pm_q129_1 (Nat.le_of_ble_eq_true rfl)) rfl rfl ?_
              obtain ⟨z2755, ez2756⟩ : ∃ y, f2732 (Int32.toNatClampNeg z2726) = y := ⟨_, rfl⟩
              refine pm_R_iald pm_M129 (pc_q := 123) (v := z2755) (pm_q129_1 (Nat.le_of_ble_eq_true rfl)) e2733 (T_2661.al (G.s25 hk).2.2.1 (by decide)) (sf_in B2728 (by decide) (by decide)) ez2756 rfl ?_
              refine sf_R_iany pm_M129 (pc_q := 124) (st := [.int z2749, .int z2706, .ref (b + 3)]) (pm_q129_1 (Nat.le_of_ble_eq_true rfl)) rfl rfl (fun z2761 => ?_)
              refine sf_R_iany pm_M129 (pc_q := 125) (st := [.int z2706, .ref (b + 3)]) (pm_q129_1 (Nat.le_of_ble_eq_true rfl)) rfl rfl (fun z2765 => ?_)
              refine cl_R_sst27 G pm_M129 T_2661 (pc_q := 126) (pm_q129_1 (Nat.le_of_ble_eq_true rfl)) hk e2733 (sf_in B2708 (by decide) (by decide)) rfl (fun h2766 T2767 F2768 U2769 => ?_)
              have F2770 := F_2661.trans (N := 0) (S := 0) F2768 (by decide) (by decide) (by decide)
              have nn2771 := cl_NT.same U2769 _ hk nn2674
              have eS2772 := (U2769 _ hk).trans eS2673
              have NT2773 := X_2661.trans (cl_NT.same U2769)
              refine pm_R_lo pm_M129 (pc_q := 128) (pm_q129_1 (Nat.le_of_ble_eq_true rfl)) rfl rfl ?_
              refine pm_R_ifc pm_M129 (t := 142) (pc_q := 131) (pm_q129_1 (Nat.le_of_ble_eq_true rfl)) rfl rfl (fun c2774 => ?_) (fun c2774 => absurd (sf_pt2 B2748 sf_k0) c2774)
              refine pm_R_lo pm_M129 (pc_q := 143) (pm_q129_1 (Nat.le_of_ble_eq_true rfl)) rfl rfl ?_
              refine pm_R_get pm_M129 (pc_q := 146) (v := .ref (b + 2)) (pm_q129_1 (Nat.le_of_ble_eq_true rfl)) rfl eS2772 (G.ge hk (by decide)) (T2767.al hk (by decide)) rfl rfl ?_
              refine pm_R_lo pm_M129 (pc_q := 148) (pm_q129_1 (Nat.le_of_ble_eq_true rfl)) rfl rfl ?_
              refine pm_R_op pm_M129 (pc_q := 149) (st_q := [.int z2706, .ref (b + 2), .int z2706, .ref (b + 2)]) (pm_q129_1 (Nat.le_of_ble_eq_true rfl)) rfl rfl ?_
              obtain ⟨f2778, e2779⟩ := T2767.D.2.2.2.2.2.1 _ (G.s25 hk).2.1
              obtain ⟨z2775, ez2776⟩ : ∃ y, f2778 (Int32.toNatClampNeg z2706) = y := ⟨_, rfl⟩
              refine pm_R_lald pm_M129 (pc_q := 150) (v := z2775) (pm_q129_1 (Nat.le_of_ble_eq_true rfl)) e2779 (G.ge (G.s25 hk).2.1 (by decide)) (T2767.al (G.s25 hk).2.1 (by decide)) (sf_in B2708 (by decide) (by decide)) ez2776 rfl ?_
              refine pm_R_lo pm_M129 (pc_q := 151) (pm_q129_1 (Nat.le_of_ble_eq_true rfl)) rfl rfl ?_
              refine pm_R_get pm_M129 (pc_q := 154) (v := .ref lo2665) (pm_q129_1 (Nat.le_of_ble_eq_true rfl)) rfl eS2772 (G.ge hk (by decide)) (T2767.al hk (by decide)) rfl rfl ?_
              refine pm_R_get pm_M129 (pc_q := 157) (v := .ref (lo2665 + 3)) (pm_q129_1 (Nat.le_of_ble_eq_true rfl)) rfl (T2767.im kl2670 (by decide) (by decide) eE2686) (G.ge kl2670 (by decide)) (T2767.al kl2670 (by decide)) rfl rfl ?_
              refine pm_R_lo pm_M129 (pc_q := 159) (pm_q129_1 (Nat.le_of_ble_eq_true rfl)) rfl rfl ?_
              refine pm_R_op pm_M129 (pc_q := 160) (st_q := [.int 4, .int x5_2661, .ref (lo2665 + 3), .long z2775, .int z2706, .ref (b + 2)]) (pm_q129_1 (Nat.le_of_ble_eq_true rfl)) rfl rfl ?_
              refine sf_R_imulV pm_M129 (pc_q := 161) (pm_q129_1 (Nat.le_of_ble_eq_true rfl)) rfl B2697 sf_k4 (by decide) (by decide) (by decide) e2700 ?_
              refine pm_R_op pm_M129 (pc_q := 162) (st_q := [.int 3, .int z2699, .ref (lo2665 + 3), .long z2775, .int z2706, .ref (b + 2)]) (pm_q129_1 (Nat.le_of_ble_eq_true rfl)) rfl rfl ?_
              refine sf_R_iadd pm_M129 (pc_q := 163) (pm_q129_1 (Nat.le_of_ble_eq_true rfl)) rfl B2701 sf_k3 (by decide) (by decide) (fun z2780 e2781 B2782 => ?_)
              have q2786 := cl_in4 (n := rc2675) (Nat.le_trans h2683 (by decide)) (Int32.not_le.mp c2696) (cl_aux9 _ _ _ e2700 e2781) B2697 (by decide) (by decide)
              obtain ⟨z2783, ez2784⟩ : ∃ y, fr2680 (Int32.toNatClampNeg z2780) = y := ⟨_, rfl⟩
              refine pm_R_iald pm_M129 (pc_q := 164) (v := z2783) (pm_q129_1 (Nat.le_of_ble_eq_true rfl)) (T2767.im kq2695.2.2.1 (by decide) (by decide) eE2689) (T2767.al kq2695.2.2.1 (by decide)) q2786.1 ez2784 rfl ?_
              refine pm_R_lo pm_M129 (pc_q := 165) (pm_q129_1 (Nat.le_of_ble_eq_true rfl)) rfl rfl ?_
              refine pm_R_get pm_M129 (pc_q := 168) (v := .ref (b + 2)) (pm_q129_1 (Nat.le_of_ble_eq_true rfl)) rfl eS2772 (G.ge hk (by decide)) (T2767.al hk (by decide)) rfl rfl ?_
              refine pm_R_lo pm_M129 (pc_q := 170) (pm_q129_1 (Nat.le_of_ble_eq_true rfl)) rfl rfl ?_
              obtain ⟨z2787, ez2788⟩ : ∃ y, f2778 (Int32.toNatClampNeg z2716) = y := ⟨_, rfl⟩
              refine pm_R_lald pm_M129 (pc_q := 171) (v := z2787) (pm_q129_1 (Nat.le_of_ble_eq_true rfl)) e2779 (G.ge (G.s25 hk).2.1 (by decide)) (T2767.al (G.s25 hk).2.1 (by decide)) (sf_in B2718 (by decide) (by decide)) ez2788 rfl ?_
              refine pm_R_lo pm_M129 (pc_q := 172) (pm_q129_1 (Nat.le_of_ble_eq_true rfl)) rfl rfl ?_
              refine pm_R_get pm_M129 (pc_q := 175) (v := .ref (b + 2)) (pm_q129_1 (Nat.le_of_ble_eq_true rfl)) rfl eS2772 (G.ge hk (by decide)) (T2767.al hk (by decide)) rfl rfl ?_
              refine pm_R_lo pm_M129 (pc_q := 177) (pm_q129_1 (Nat.le_of_ble_eq_true rfl)) rfl rfl ?_
              obtain ⟨z2790, ez2791⟩ : ∃ y, f2778 (Int32.toNatClampNeg z2726) = y := ⟨_, rfl⟩
              refine pm_R_lald pm_M129 (pc_q := 178) (v := z2790) (pm_q129_1 (Nat.le_of_ble_eq_true rfl)) e2779 (G.ge (G.s25 hk).2.1 (by decide)) (T2767.al (G.s25 hk).2.1 (by decide)) (sf_in B2728 (by decide) (by decide)) ez2791 rfl ?_
              refine pm_R_cs pm_M129 (pc_q := 181) (ra := [.long z2790, .long z2787, .int z2783]) (rest := [.long z2775, .int z2706, .ref (b + 2)]) (ls_q := [.int z2783, .long z2787, pm_no, .long z2790, pm_no]) (pm_q129_1 (Nat.le_of_ble_eq_true rfl)) rfl (Or.inr rfl) pm_M104 rfl rfl (Nat.le_of_ble_eq_true rfl) rfl rfl ?_
              refine pm_R_lo pm_M104 (pc_q := 1) rfl rfl rfl ?_
              by_cases c2793 : z2783 < 0
              · refine pm_R_tswD pm_M104 (pc_q := 57) rfl (Or.inl (Int32.lt_iff_toInt_lt.mp c2793)) rfl ?_
                have B2794 : sf_B (-2147483648) (-1) z2783 := sf_ltL c2793 (sf_any z2783) sf_k0
                refine pm_R_lo pm_M104 (pc_q := 58) rfl rfl rfl ?_
                refine pm_R_cs pm_M104 (pc_q := 61) (ra := [.long z2790]) (rest := []) (ls_q := [.long z2790, pm_no, pm_no, pm_no, pm_no]) rfl rfl (Or.inl rfl) pm_M106 rfl rfl (Nat.le_of_ble_eq_true rfl) rfl rfl ?_
                refine cl_c106 (d := d + 0)  (fun r2795 => ?_)
                show pm_R _ 104 61 [.int z2783, .long z2787, pm_no, .long z2790, pm_no] [.long r2795] _ _
                refine pm_R_ret pm_M104 (r := some (.long r2795)) rfl rfl ?_
                show pm_R _ 129 181 [.ref b, .int a0, .int a1, .int a2, .int a3, .int x5_2661, .int z2706, .int z2716, .int z2726] [.long r2795, .long z2775, .int z2706, .ref (b + 2)] _ _
                refine sf_R_lany pm_M129 (pc_q := 182) (st := [.int z2706, .ref (b + 2)]) (pm_q129_1 (Nat.le_of_ble_eq_true rfl)) rfl rfl (fun z2802 => ?_)
                refine cl_R_sst26 G pm_M129 T2767 (pc_q := 183) (pm_q129_1 (Nat.le_of_ble_eq_true rfl)) hk e2779 (sf_in B2708 (by decide) (by decide)) rfl (fun h2803 T2804 F2805 U2806 => ?_)
                have F2807 := F2770.trans (N := 0) (S := 0) F2805 (by decide) (by decide) (by decide)
                have nn2808 := cl_NT.same U2806 _ hk nn2771
                have eS2809 := (U2806 _ hk).trans eS2772
                have NT2810 := NT2773.trans (cl_NT.same U2806)
                refine sf_R_iinc pm_M129 (pc_q := 186) (ls_q := fun z => [.ref b, .int a0, .int a1, .int a2, .int a3, .int z, .int z2706, .int z2716, .int z2726]) (pm_q129_1 (Nat.le_of_ble_eq_true rfl)) B2697 rfl (by decide) (by decide) (by decide) (fun _ => rfl) rfl (fun z2811 e2812 B2813 => ?_)
                show pm_R _ 129 186 [.ref b, .int a0, .int a1, .int a2, .int a3, .int z2811, .int z2706, .int z2716, .int z2726] [] _ _
                refine pm_R_br pm_M129 (pc_q := 3) (pm_q129_1 (Nat.le_of_ble_eq_true rfl)) rfl ?_
                exact ih_2661 _ (sf_up hN_2661 e2812 B2697 (by decide) (by decide)) h2803 m_2661 z2811 (.int z2706) (.int z2716) (.int z2726) T2804 F2807 W_2661 (sf_weak B2813 (by decide) (by decide)) rfl rfl rfl NT2810 rfl
              have B2814 : sf_B 0 2147483647 z2783 := sf_leR (Int32.not_lt.mp c2793) sf_k0 (sf_any z2783)
              by_cases c2815 : 3 < z2783
              · refine pm_R_tswD pm_M104 (pc_q := 57) rfl (Or.inr (Int32.lt_iff_toInt_lt.mp c2815)) rfl ?_
                have B2816 : sf_B 4 2147483647 z2783 := sf_ltR c2815 sf_k3 (sf_any z2783)
                refine pm_R_lo pm_M104 (pc_q := 58) rfl rfl rfl ?_
                refine pm_R_cs pm_M104 (pc_q := 61) (ra := [.long z2790]) (rest := []) (ls_q := [.long z2790, pm_no, pm_no, pm_no, pm_no]) rfl rfl (Or.inl rfl) pm_M106 rfl rfl (Nat.le_of_ble_eq_true rfl) rfl rfl ?_
                refine cl_c106 (d := d + 0)  (fun r2817 => ?_)
                show pm_R _ 104 61 [.int z2783, .long z2787, pm_no, .long z2790, pm_no] [.long r2817] _ _
                refine pm_R_ret pm_M104 (r := some (.long r2817)) rfl rfl ?_
                show pm_R _ 129 181 [.ref b, .int a0, .int a1, .int a2, .int a3, .int x5_2661, .int z2706, .int z2716, .int z2726] [.long r2817, .long z2775, .int z2706, .ref (b + 2)] _ _
                refine sf_R_lany pm_M129 (pc_q := 182) (st := [.int z2706, .ref (b + 2)]) (pm_q129_1 (Nat.le_of_ble_eq_true rfl)) rfl rfl (fun z2824 => ?_)
                refine cl_R_sst26 G pm_M129 T2767 (pc_q := 183) (pm_q129_1 (Nat.le_of_ble_eq_true rfl)) hk e2779 (sf_in B2708 (by decide) (by decide)) rfl (fun h2825 T2826 F2827 U2828 => ?_)
                have F2829 := F2770.trans (N := 0) (S := 0) F2827 (by decide) (by decide) (by decide)
                have nn2830 := cl_NT.same U2828 _ hk nn2771
                have eS2831 := (U2828 _ hk).trans eS2772
                have NT2832 := NT2773.trans (cl_NT.same U2828)
                refine sf_R_iinc pm_M129 (pc_q := 186) (ls_q := fun z => [.ref b, .int a0, .int a1, .int a2, .int a3, .int z, .int z2706, .int z2716, .int z2726]) (pm_q129_1 (Nat.le_of_ble_eq_true rfl)) B2697 rfl (by decide) (by decide) (by decide) (fun _ => rfl) rfl (fun z2833 e2834 B2835 => ?_)
                show pm_R _ 129 186 [.ref b, .int a0, .int a1, .int a2, .int a3, .int z2833, .int z2706, .int z2716, .int z2726] [] _ _
                refine pm_R_br pm_M129 (pc_q := 3) (pm_q129_1 (Nat.le_of_ble_eq_true rfl)) rfl ?_
                exact ih_2661 _ (sf_up hN_2661 e2834 B2697 (by decide) (by decide)) h2825 m_2661 z2833 (.int z2706) (.int z2716) (.int z2726) T2826 F2829 W_2661 (sf_weak B2835 (by decide) (by decide)) rfl rfl rfl NT2832 rfl
              have B2836 : sf_B (-2147483648) 3 z2783 := sf_leL (Int32.not_lt.mp c2815) (sf_any z2783) sf_k3
              by_cases c2837 : z2783 < 0
              · refine pm_R_tswD pm_M104 (pc_q := 57) rfl (Or.inl (Int32.lt_iff_toInt_lt.mp c2837)) rfl ?_
                have B2838 : sf_B (-2147483648) (-1) z2783 := sf_ltL c2837 B2836 sf_k0
                refine pm_R_lo pm_M104 (pc_q := 58) rfl rfl rfl ?_
                refine pm_R_cs pm_M104 (pc_q := 61) (ra := [.long z2790]) (rest := []) (ls_q := [.long z2790, pm_no, pm_no, pm_no, pm_no]) rfl rfl (Or.inl rfl) pm_M106 rfl rfl (Nat.le_of_ble_eq_true rfl) rfl rfl ?_
                refine cl_c106 (d := d + 0)  (fun r2839 => ?_)
                show pm_R _ 104 61 [.int z2783, .long z2787, pm_no, .long z2790, pm_no] [.long r2839] _ _
                refine pm_R_ret pm_M104 (r := some (.long r2839)) rfl rfl ?_
                show pm_R _ 129 181 [.ref b, .int a0, .int a1, .int a2, .int a3, .int x5_2661, .int z2706, .int z2716, .int z2726] [.long r2839, .long z2775, .int z2706, .ref (b + 2)] _ _
                refine sf_R_lany pm_M129 (pc_q := 182) (st := [.int z2706, .ref (b + 2)]) (pm_q129_1 (Nat.le_of_ble_eq_true rfl)) rfl rfl (fun z2846 => ?_)
                refine cl_R_sst26 G pm_M129 T2767 (pc_q := 183) (pm_q129_1 (Nat.le_of_ble_eq_true rfl)) hk e2779 (sf_in B2708 (by decide) (by decide)) rfl (fun h2847 T2848 F2849 U2850 => ?_)
                have F2851 := F2770.trans (N := 0) (S := 0) F2849 (by decide) (by decide) (by decide)
                have nn2852 := cl_NT.same U2850 _ hk nn2771
                have eS2853 := (U2850 _ hk).trans eS2772
                have NT2854 := NT2773.trans (cl_NT.same U2850)
                refine sf_R_iinc pm_M129 (pc_q := 186) (ls_q := fun z => [.ref b, .int a0, .int a1, .int a2, .int a3, .int z, .int z2706, .int z2716, .int z2726]) (pm_q129_1 (Nat.le_of_ble_eq_true rfl)) B2697 rfl (by decide) (by decide) (by decide) (fun _ => rfl) rfl (fun z2855 e2856 B2857 => ?_)
                show pm_R _ 129 186 [.ref b, .int a0, .int a1, .int a2, .int a3, .int z2855, .int z2706, .int z2716, .int z2726] [] _ _
                refine pm_R_br pm_M129 (pc_q := 3) (pm_q129_1 (Nat.le_of_ble_eq_true rfl)) rfl ?_
                exact ih_2661 _ (sf_up hN_2661 e2856 B2697 (by decide) (by decide)) h2847 m_2661 z2855 (.int z2706) (.int z2716) (.int z2726) T2848 F2851 W_2661 (sf_weak B2857 (by decide) (by decide)) rfl rfl rfl NT2854 rfl
              have B2858 : sf_B 0 3 z2783 := sf_leR (Int32.not_lt.mp c2837) sf_k0 B2836
              by_cases c2859 : 3 < z2783
              · refine pm_R_tswD pm_M104 (pc_q := 57) rfl (Or.inr (Int32.lt_iff_toInt_lt.mp c2859)) rfl ?_
                have B2860 : sf_B 4 3 z2783 := sf_ltR c2859 sf_k3 B2836
                refine pm_R_lo pm_M104 (pc_q := 58) rfl rfl rfl ?_
                refine pm_R_cs pm_M104 (pc_q := 61) (ra := [.long z2790]) (rest := []) (ls_q := [.long z2790, pm_no, pm_no, pm_no, pm_no]) rfl rfl (Or.inl rfl) pm_M106 rfl rfl (Nat.le_of_ble_eq_true rfl) rfl rfl ?_
                refine cl_c106 (d := d + 0)  (fun r2861 => ?_)
                show pm_R _ 104 61 [.int z2783, .long z2787, pm_no, .long z2790, pm_no] [.long r2861] _ _
                refine pm_R_ret pm_M104 (r := some (.long r2861)) rfl rfl ?_
                show pm_R _ 129 181 [.ref b, .int a0, .int a1, .int a2, .int a3, .int x5_2661, .int z2706, .int z2716, .int z2726] [.long r2861, .long z2775, .int z2706, .ref (b + 2)] _ _
                refine sf_R_lany pm_M129 (pc_q := 182) (st := [.int z2706, .ref (b + 2)]) (pm_q129_1 (Nat.le_of_ble_eq_true rfl)) rfl rfl (fun z2868 => ?_)
                refine cl_R_sst26 G pm_M129 T2767 (pc_q := 183) (pm_q129_1 (Nat.le_of_ble_eq_true rfl)) hk e2779 (sf_in B2708 (by decide) (by decide)) rfl (fun h2869 T2870 F2871 U2872 => ?_)
                have F2873 := F2770.trans (N := 0) (S := 0) F2871 (by decide) (by decide) (by decide)
                have nn2874 := cl_NT.same U2872 _ hk nn2771
                have eS2875 := (U2872 _ hk).trans eS2772
                have NT2876 := NT2773.trans (cl_NT.same U2872)
                refine sf_R_iinc pm_M129 (pc_q := 186) (ls_q := fun z => [.ref b, .int a0, .int a1, .int a2, .int a3, .int z, .int z2706, .int z2716, .int z2726]) (pm_q129_1 (Nat.le_of_ble_eq_true rfl)) B2697 rfl (by decide) (by decide) (by decide) (fun _ => rfl) rfl (fun z2877 e2878 B2879 => ?_)
                show pm_R _ 129 186 [.ref b, .int a0, .int a1, .int a2, .int a3, .int z2877, .int z2706, .int z2716, .int z2726] [] _ _
                refine pm_R_br pm_M129 (pc_q := 3) (pm_q129_1 (Nat.le_of_ble_eq_true rfl)) rfl ?_
                exact ih_2661 _ (sf_up hN_2661 e2878 B2697 (by decide) (by decide)) h2869 m_2661 z2877 (.int z2706) (.int z2716) (.int z2726) T2870 F2873 W_2661 (sf_weak B2879 (by decide) (by decide)) rfl rfl rfl NT2876 rfl
              skip
              by_cases c2880 : z2783 = 0
              · rw [c2880]
                refine pm_R_br pm_M104 (pc_q := 32) (st_q := []) rfl rfl ?_
                refine pm_R_lo pm_M104 (pc_q := 33) rfl rfl rfl ?_
                refine pm_R_ret pm_M104 (r := some (.long z2787)) rfl rfl ?_
                show pm_R _ 129 181 [.ref b, .int a0, .int a1, .int a2, .int a3, .int x5_2661, .int z2706, .int z2716, .int z2726] [.long z2787, .long z2775, .int z2706, .ref (b + 2)] _ _
                refine sf_R_lany pm_M129 (pc_q := 182) (st := [.int z2706, .ref (b + 2)]) (pm_q129_1 (Nat.le_of_ble_eq_true rfl)) rfl rfl (fun z2881 => ?_)
                refine cl_R_sst26 G pm_M129 T2767 (pc_q := 183) (pm_q129_1 (Nat.le_of_ble_eq_true rfl)) hk e2779 (sf_in B2708 (by decide) (by decide)) rfl (fun h2882 T2883 F2884 U2885 => ?_)
                have F2886 := F2770.trans (N := 0) (S := 0) F2884 (by decide) (by decide) (by decide)
                have nn2887 := cl_NT.same U2885 _ hk nn2771
                have eS2888 := (U2885 _ hk).trans eS2772
                have NT2889 := NT2773.trans (cl_NT.same U2885)
                refine sf_R_iinc pm_M129 (pc_q := 186) (ls_q := fun z => [.ref b, .int a0, .int a1, .int a2, .int a3, .int z, .int z2706, .int z2716, .int z2726]) (pm_q129_1 (Nat.le_of_ble_eq_true rfl)) B2697 rfl (by decide) (by decide) (by decide) (fun _ => rfl) rfl (fun z2890 e2891 B2892 => ?_)
                show pm_R _ 129 186 [.ref b, .int a0, .int a1, .int a2, .int a3, .int z2890, .int z2706, .int z2716, .int z2726] [] _ _
                refine pm_R_br pm_M129 (pc_q := 3) (pm_q129_1 (Nat.le_of_ble_eq_true rfl)) rfl ?_
                exact ih_2661 _ (sf_up hN_2661 e2891 B2697 (by decide) (by decide)) h2882 m_2661 z2890 (.int z2706) (.int z2716) (.int z2726) T2883 F2886 W_2661 (sf_weak B2892 (by decide) (by decide)) rfl rfl rfl NT2889 rfl
              have B2893 : sf_B 1 3 z2783 := sf_neL0 c2880 sf_k0 B2858
              by_cases c2894 : z2783 = 1
              · rw [c2894]
                refine pm_R_br pm_M104 (pc_q := 34) (st_q := []) rfl rfl ?_
                refine pm_R_lo pm_M104 (pc_q := 35) rfl rfl rfl ?_
                refine pm_R_ret pm_M104 (r := some (.long z2790)) rfl rfl ?_
                show pm_R _ 129 181 [.ref b, .int a0, .int a1, .int a2, .int a3, .int x5_2661, .int z2706, .int z2716, .int z2726] [.long z2790, .long z2775, .int z2706, .ref (b + 2)] _ _
                refine sf_R_lany pm_M129 (pc_q := 182) (st := [.int z2706, .ref (b + 2)]) (pm_q129_1 (Nat.le_of_ble_eq_true rfl)) rfl rfl (fun z2895 => ?_)
                refine cl_R_sst26 G pm_M129 T2767 (pc_q := 183) (pm_q129_1 (Nat.le_of_ble_eq_true rfl)) hk e2779 (sf_in B2708 (by decide) (by decide)) rfl (fun h2896 T2897 F2898 U2899 => ?_)
                have F2900 := F2770.trans (N := 0) (S := 0) F2898 (by decide) (by decide) (by decide)
                have nn2901 := cl_NT.same U2899 _ hk nn2771
                have eS2902 := (U2899 _ hk).trans eS2772
                have NT2903 := NT2773.trans (cl_NT.same U2899)
                refine sf_R_iinc pm_M129 (pc_q := 186) (ls_q := fun z => [.ref b, .int a0, .int a1, .int a2, .int a3, .int z, .int z2706, .int z2716, .int z2726]) (pm_q129_1 (Nat.le_of_ble_eq_true rfl)) B2697 rfl (by decide) (by decide) (by decide) (fun _ => rfl) rfl (fun z2904 e2905 B2906 => ?_)
                show pm_R _ 129 186 [.ref b, .int a0, .int a1, .int a2, .int a3, .int z2904, .int z2706, .int z2716, .int z2726] [] _ _
                refine pm_R_br pm_M129 (pc_q := 3) (pm_q129_1 (Nat.le_of_ble_eq_true rfl)) rfl ?_
                exact ih_2661 _ (sf_up hN_2661 e2905 B2697 (by decide) (by decide)) h2896 m_2661 z2904 (.int z2706) (.int z2716) (.int z2726) T2897 F2900 W_2661 (sf_weak B2906 (by decide) (by decide)) rfl rfl rfl NT2903 rfl
              have B2907 : sf_B 2 3 z2783 := sf_neL0 c2894 sf_k1 B2893
              by_cases c2908 : z2783 = 2
              · rw [c2908]
                refine pm_R_br pm_M104 (pc_q := 36) (st_q := []) rfl rfl ?_
                refine pm_R_lo pm_M104 (pc_q := 37) rfl rfl rfl ?_
                refine pm_R_lo pm_M104 (pc_q := 38) rfl rfl rfl ?_
                refine pm_R_cs pm_M104 (pc_q := 41) (ra := [.long z2790, .long z2787]) (rest := []) (ls_q := [.long z2787, pm_no, .long z2790, pm_no, pm_no, pm_no, pm_no]) rfl rfl (Or.inl rfl) pm_M105 rfl rfl (Nat.le_of_ble_eq_true rfl) rfl rfl ?_
                refine cl_c105 (d := d + 0)  (fun r2909 => ?_)
                show pm_R _ 104 41 [.int 2, .long z2787, pm_no, .long z2790, pm_no] [.long r2909] _ _
                refine pm_R_ret pm_M104 (r := some (.long r2909)) rfl rfl ?_
                show pm_R _ 129 181 [.ref b, .int a0, .int a1, .int a2, .int a3, .int x5_2661, .int z2706, .int z2716, .int z2726] [.long r2909, .long z2775, .int z2706, .ref (b + 2)] _ _
                refine sf_R_lany pm_M129 (pc_q := 182) (st := [.int z2706, .ref (b + 2)]) (pm_q129_1 (Nat.le_of_ble_eq_true rfl)) rfl rfl (fun z2916 => ?_)
                refine cl_R_sst26 G pm_M129 T2767 (pc_q := 183) (pm_q129_1 (Nat.le_of_ble_eq_true rfl)) hk e2779 (sf_in B2708 (by decide) (by decide)) rfl (fun h2917 T2918 F2919 U2920 => ?_)
                have F2921 := F2770.trans (N := 0) (S := 0) F2919 (by decide) (by decide) (by decide)
                have nn2922 := cl_NT.same U2920 _ hk nn2771
                have eS2923 := (U2920 _ hk).trans eS2772
                have NT2924 := NT2773.trans (cl_NT.same U2920)
                refine sf_R_iinc pm_M129 (pc_q := 186) (ls_q := fun z => [.ref b, .int a0, .int a1, .int a2, .int a3, .int z, .int z2706, .int z2716, .int z2726]) (pm_q129_1 (Nat.le_of_ble_eq_true rfl)) B2697 rfl (by decide) (by decide) (by decide) (fun _ => rfl) rfl (fun z2925 e2926 B2927 => ?_)
                show pm_R _ 129 186 [.ref b, .int a0, .int a1, .int a2, .int a3, .int z2925, .int z2706, .int z2716, .int z2726] [] _ _
                refine pm_R_br pm_M129 (pc_q := 3) (pm_q129_1 (Nat.le_of_ble_eq_true rfl)) rfl ?_
                exact ih_2661 _ (sf_up hN_2661 e2926 B2697 (by decide) (by decide)) h2917 m_2661 z2925 (.int z2706) (.int z2716) (.int z2726) T2918 F2921 W_2661 (sf_weak B2927 (by decide) (by decide)) rfl rfl rfl NT2924 rfl
              have B2928 : sf_B 3 3 z2783 := sf_neL0 c2908 sf_k2 B2907
              rw [sf_pt2 B2928 sf_k3]
              refine pm_R_br pm_M104 (pc_q := 42) (st_q := []) rfl rfl ?_
              refine pm_R_lo pm_M104 (pc_q := 43) rfl rfl rfl ?_
              refine pm_R_ldc2 pm_M104 (pc_q := 46) rfl rfl rfl ?_
              refine pm_R_cs pm_M104 (pc_q := 49) (ra := [.long 2, .long z2787]) (rest := []) (ls_q := [.long z2787, pm_no, .long 2, pm_no, pm_no, pm_no, pm_no]) rfl rfl (Or.inl rfl) pm_M105 rfl rfl (Nat.le_of_ble_eq_true rfl) rfl rfl ?_
              refine cl_c105 (d := d + 0)  (fun r2929 => ?_)
              show pm_R _ 104 49 [.int 3, .long z2787, pm_no, .long z2790, pm_no] [.long r2929] _ _
              refine pm_R_lo pm_M104 (pc_q := 50) rfl rfl rfl ?_
              refine pm_R_cs pm_M104 (pc_q := 53) (ra := [.long z2790]) (rest := [.long r2929]) (ls_q := [.long z2790, pm_no, pm_no, pm_no, pm_no]) rfl rfl (Or.inl rfl) pm_M106 rfl rfl (Nat.le_of_ble_eq_true rfl) rfl rfl ?_
              refine cl_c106 (d := d + 0)  (fun r2936 => ?_)
              show pm_R _ 104 53 [.int 3, .long z2787, pm_no, .long z2790, pm_no] [.long r2936, .long r2929] _ _
              refine pm_R_cs pm_M104 (pc_q := 56) (ra := [.long r2936, .long r2929]) (rest := []) (ls_q := [.long r2929, pm_no, .long r2936, pm_no, pm_no, pm_no, pm_no]) rfl rfl (Or.inl rfl) pm_M105 rfl rfl (Nat.le_of_ble_eq_true rfl) rfl rfl ?_
              refine cl_c105 (d := d + 0)  (fun r2943 => ?_)
              show pm_R _ 104 56 [.int 3, .long z2787, pm_no, .long z2790, pm_no] [.long r2943] _ _
              refine pm_R_ret pm_M104 (r := some (.long r2943)) rfl rfl ?_
              show pm_R _ 129 181 [.ref b, .int a0, .int a1, .int a2, .int a3, .int x5_2661, .int z2706, .int z2716, .int z2726] [.long r2943, .long z2775, .int z2706, .ref (b + 2)] _ _
              refine sf_R_lany pm_M129 (pc_q := 182) (st := [.int z2706, .ref (b + 2)]) (pm_q129_1 (Nat.le_of_ble_eq_true rfl)) rfl rfl (fun z2950 => ?_)
              refine cl_R_sst26 G pm_M129 T2767 (pc_q := 183) (pm_q129_1 (Nat.le_of_ble_eq_true rfl)) hk e2779 (sf_in B2708 (by decide) (by decide)) rfl (fun h2951 T2952 F2953 U2954 => ?_)
              have F2955 := F2770.trans (N := 0) (S := 0) F2953 (by decide) (by decide) (by decide)
              have nn2956 := cl_NT.same U2954 _ hk nn2771
              have eS2957 := (U2954 _ hk).trans eS2772
              have NT2958 := NT2773.trans (cl_NT.same U2954)
              refine sf_R_iinc pm_M129 (pc_q := 186) (ls_q := fun z => [.ref b, .int a0, .int a1, .int a2, .int a3, .int z, .int z2706, .int z2716, .int z2726]) (pm_q129_1 (Nat.le_of_ble_eq_true rfl)) B2697 rfl (by decide) (by decide) (by decide) (fun _ => rfl) rfl (fun z2959 e2960 B2961 => ?_)
              show pm_R _ 129 186 [.ref b, .int a0, .int a1, .int a2, .int a3, .int z2959, .int z2706, .int z2716, .int z2726] [] _ _
              refine pm_R_br pm_M129 (pc_q := 3) (pm_q129_1 (Nat.le_of_ble_eq_true rfl)) rfl ?_
              exact ih_2661 _ (sf_up hN_2661 e2960 B2697 (by decide) (by decide)) h2951 m_2661 z2959 (.int z2706) (.int z2716) (.int z2726) T2952 F2955 W_2661 (sf_weak B2961 (by decide) (by decide)) rfl rfl rfl NT2958 rfl
            · have B2962 : sf_B 1 1 a3 := sf_neL0 c2747 sf_k0 Ba3
              refine pm_R_lo pm_M129 (pc_q := 94) rfl rfl rfl ?_
              refine pm_R_lo pm_M129 (pc_q := 95) rfl rfl rfl ?_
              refine pm_R_icmp pm_M129 (t := 101) (pc_q := 98) rfl rfl rfl (fun c2963 => ?_) (fun c2963 => ?_)
              · have B2964 : sf_B 0 6660 z2706 := sf_eqL c2963 Ba0
                refine pm_R_lo pm_M129 (pc_q := 102) rfl rfl rfl ?_
                refine pm_R_get pm_M129 (pc_q := 105) (v := .ref (b + 3)) rfl rfl eS2673 (G.ge hk (by decide)) (T_2661.al hk (by decide)) rfl rfl ?_
                refine pm_R_lo pm_M129 (pc_q := 107) rfl rfl rfl ?_
                refine pm_R_op pm_M129 (pc_q := 108) (st_q := [.int z2706, .ref (b + 3), .int z2706, .ref (b + 3)]) (pm_q129_1 (Nat.le_of_ble_eq_true rfl)) rfl rfl ?_
                obtain ⟨z2965, ez2966⟩ : ∃ y, f2732 (Int32.toNatClampNeg z2706) = y := ⟨_, rfl⟩
                refine pm_R_iald pm_M129 (pc_q := 109) (v := z2965) (pm_q129_1 (Nat.le_of_ble_eq_true rfl)) e2733 (T_2661.al (G.s25 hk).2.2.1 (by decide)) (sf_in B2964 (by decide) (by decide)) ez2966 rfl ?_
                refine pm_R_lo pm_M129 (pc_q := 110) (pm_q129_1 (Nat.le_of_ble_eq_true rfl)) rfl rfl ?_
                refine pm_R_get pm_M129 (pc_q := 113) (v := .ref (b + 3)) (pm_q129_1 (Nat.le_of_ble_eq_true rfl)) rfl eS2673 (G.ge hk (by decide)) (T_2661.al hk (by decide)) rfl rfl ?_
                refine pm_R_lo pm_M129 (pc_q := 115) (pm_q129_1 (Nat.le_of_ble_eq_true rfl)) rfl rfl ?_
                obtain ⟨z2968, ez2969⟩ : ∃ y, f2732 (Int32.toNatClampNeg z2716) = y := ⟨_, rfl⟩
                refine pm_R_iald pm_M129 (pc_q := 116) (v := z2968) (pm_q129_1 (Nat.le_of_ble_eq_true rfl)) e2733 (T_2661.al (G.s25 hk).2.2.1 (by decide)) (sf_in B2718 (by decide) (by decide)) ez2969 rfl ?_
                refine pm_R_lo pm_M129 (pc_q := 117) (pm_q129_1 (Nat.le_of_ble_eq_true rfl)) rfl rfl ?_
                refine pm_R_get pm_M129 (pc_q := 120) (v := .ref (b + 3)) (pm_q129_1 (Nat.le_of_ble_eq_true rfl)) rfl eS2673 (G.ge hk (by decide)) (T_2661.al hk (by decide)) rfl rfl ?_
                refine pm_R_lo pm_M129 (pc_q := 122) (pm_q129_1 (Nat.le_of_ble_eq_true rfl)) rfl rfl ?_
                obtain ⟨z2971, ez2972⟩ : ∃ y, f2732 (Int32.toNatClampNeg z2726) = y := ⟨_, rfl⟩
                refine pm_R_iald pm_M129 (pc_q := 123) (v := z2971) (pm_q129_1 (Nat.le_of_ble_eq_true rfl)) e2733 (T_2661.al (G.s25 hk).2.2.1 (by decide)) (sf_in B2728 (by decide) (by decide)) ez2972 rfl ?_
                refine sf_R_iany pm_M129 (pc_q := 124) (st := [.int z2965, .int z2706, .ref (b + 3)]) (pm_q129_1 (Nat.le_of_ble_eq_true rfl)) rfl rfl (fun z2977 => ?_)
                refine sf_R_iany pm_M129 (pc_q := 125) (st := [.int z2706, .ref (b + 3)]) (pm_q129_1 (Nat.le_of_ble_eq_true rfl)) rfl rfl (fun z2981 => ?_)
                refine cl_R_sst27 G pm_M129 T_2661 (pc_q := 126) (pm_q129_1 (Nat.le_of_ble_eq_true rfl)) hk e2733 (sf_in B2964 (by decide) (by decide)) rfl (fun h2982 T2983 F2984 U2985 => ?_)
                have F2986 := F_2661.trans (N := 0) (S := 0) F2984 (by decide) (by decide) (by decide)
                have nn2987 := cl_NT.same U2985 _ hk nn2674
                have eS2988 := (U2985 _ hk).trans eS2673
                have NT2989 := X_2661.trans (cl_NT.same U2985)
                refine pm_R_lo pm_M129 (pc_q := 128) (pm_q129_1 (Nat.le_of_ble_eq_true rfl)) rfl rfl ?_
                refine pm_R_ifc pm_M129 (t := 142) (pc_q := 131) (pm_q129_1 (Nat.le_of_ble_eq_true rfl)) rfl rfl (fun c2990 => absurd c2990 (sf_neq1 B2962 sf_k0 (by decide))) (fun c2990 => ?_)
                skip
                refine pm_R_lo pm_M129 (pc_q := 132) (pm_q129_1 (Nat.le_of_ble_eq_true rfl)) rfl rfl ?_
                refine pm_R_get pm_M129 (pc_q := 135) (v := .ref (b + 3)) (pm_q129_1 (Nat.le_of_ble_eq_true rfl)) rfl eS2988 (G.ge hk (by decide)) (T2983.al hk (by decide)) rfl rfl ?_
                refine pm_R_lo pm_M129 (pc_q := 137) (pm_q129_1 (Nat.le_of_ble_eq_true rfl)) rfl rfl ?_
                obtain ⟨f2994, e2995⟩ := T2983.D.2.2.2.2.2.2.1 _ (G.s25 hk).2.2.1
                obtain ⟨z2991, ez2992⟩ : ∃ y, f2994 (Int32.toNatClampNeg z2706) = y := ⟨_, rfl⟩
                refine pm_R_iald pm_M129 (pc_q := 138) (v := z2991) (pm_q129_1 (Nat.le_of_ble_eq_true rfl)) e2995 (T2983.al (G.s25 hk).2.2.1 (by decide)) (sf_in B2964 (by decide) (by decide)) ez2992 rfl ?_
                refine pm_R_op pm_M129 (pc_q := 139) (st_q := [.int 1, .int z2991]) (pm_q129_1 (Nat.le_of_ble_eq_true rfl)) rfl rfl ?_
                refine pm_R_icmp pm_M129 (t := 183) (pc_q := 142) (pm_q129_1 (Nat.le_of_ble_eq_true rfl)) rfl rfl (fun c2996 => ?_) (fun c2996 => ?_)
                · skip
                  refine sf_R_iinc pm_M129 (pc_q := 186) (ls_q := fun z => [.ref b, .int a0, .int a1, .int a2, .int a3, .int z, .int z2706, .int z2716, .int z2726]) (pm_q129_1 (Nat.le_of_ble_eq_true rfl)) B2697 rfl (by decide) (by decide) (by decide) (fun _ => rfl) rfl (fun z2997 e2998 B2999 => ?_)
                  show pm_R _ 129 186 [.ref b, .int a0, .int a1, .int a2, .int a3, .int z2997, .int z2706, .int z2716, .int z2726] [] _ _
                  refine pm_R_br pm_M129 (pc_q := 3) (pm_q129_1 (Nat.le_of_ble_eq_true rfl)) rfl ?_
                  exact ih_2661 _ (sf_up hN_2661 e2998 B2697 (by decide) (by decide)) h2982 m_2661 z2997 (.int z2706) (.int z2716) (.int z2726) T2983 F2986 W_2661 (sf_weak B2999 (by decide) (by decide)) rfl rfl rfl NT2989 rfl
                · have B3000 : sf_B 1 1 z2991 := sf_eqL (Classical.not_not.mp c2996) sf_k1
                  refine pm_R_lo pm_M129 (pc_q := 143) (pm_q129_1 (Nat.le_of_ble_eq_true rfl)) rfl rfl ?_
                  refine pm_R_get pm_M129 (pc_q := 146) (v := .ref (b + 2)) (pm_q129_1 (Nat.le_of_ble_eq_true rfl)) rfl eS2988 (G.ge hk (by decide)) (T2983.al hk (by decide)) rfl rfl ?_
                  refine pm_R_lo pm_M129 (pc_q := 148) (pm_q129_1 (Nat.le_of_ble_eq_true rfl)) rfl rfl ?_
                  refine pm_R_op pm_M129 (pc_q := 149) (st_q := [.int z2706, .ref (b + 2), .int z2706, .ref (b + 2)]) (pm_q129_1 (Nat.le_of_ble_eq_true rfl)) rfl rfl ?_
                  obtain ⟨f3004, e3005⟩ := T2983.D.2.2.2.2.2.1 _ (G.s25 hk).2.1
                  obtain ⟨z3001, ez3002⟩ : ∃ y, f3004 (Int32.toNatClampNeg z2706) = y := ⟨_, rfl⟩
                  refine pm_R_lald pm_M129 (pc_q := 150) (v := z3001) (pm_q129_1 (Nat.le_of_ble_eq_true rfl)) e3005 (G.ge (G.s25 hk).2.1 (by decide)) (T2983.al (G.s25 hk).2.1 (by decide)) (sf_in B2964 (by decide) (by decide)) ez3002 rfl ?_
                  refine pm_R_lo pm_M129 (pc_q := 151) (pm_q129_1 (Nat.le_of_ble_eq_true rfl)) rfl rfl ?_
                  refine pm_R_get pm_M129 (pc_q := 154) (v := .ref lo2665) (pm_q129_1 (Nat.le_of_ble_eq_true rfl)) rfl eS2988 (G.ge hk (by decide)) (T2983.al hk (by decide)) rfl rfl ?_
                  refine pm_R_get pm_M129 (pc_q := 157) (v := .ref (lo2665 + 3)) (pm_q129_1 (Nat.le_of_ble_eq_true rfl)) rfl (T2983.im kl2670 (by decide) (by decide) eE2686) (G.ge kl2670 (by decide)) (T2983.al kl2670 (by decide)) rfl rfl ?_
                  refine pm_R_lo pm_M129 (pc_q := 159) (pm_q129_1 (Nat.le_of_ble_eq_true rfl)) rfl rfl ?_
                  refine pm_R_op pm_M129 (pc_q := 160) (st_q := [.int 4, .int x5_2661, .ref (lo2665 + 3), .long z3001, .int z2706, .ref (b + 2)]) (pm_q129_1 (Nat.le_of_ble_eq_true rfl)) rfl rfl ?_
                  refine sf_R_imulV pm_M129 (pc_q := 161) (pm_q129_1 (Nat.le_of_ble_eq_true rfl)) rfl B2697 sf_k4 (by decide) (by decide) (by decide) e2700 ?_
                  refine pm_R_op pm_M129 (pc_q := 162) (st_q := [.int 3, .int z2699, .ref (lo2665 + 3), .long z3001, .int z2706, .ref (b + 2)]) (pm_q129_1 (Nat.le_of_ble_eq_true rfl)) rfl rfl ?_
                  refine sf_R_iadd pm_M129 (pc_q := 163) (pm_q129_1 (Nat.le_of_ble_eq_true rfl)) rfl B2701 sf_k3 (by decide) (by decide) (fun z3006 e3007 B3008 => ?_)
                  have q3012 := cl_in4 (n := rc2675) (Nat.le_trans h2683 (by decide)) (Int32.not_le.mp c2696) (cl_aux9 _ _ _ e2700 e3007) B2697 (by decide) (by decide)
                  obtain ⟨z3009, ez3010⟩ : ∃ y, fr2680 (Int32.toNatClampNeg z3006) = y := ⟨_, rfl⟩
                  refine pm_R_iald pm_M129 (pc_q := 164) (v := z3009) (pm_q129_1 (Nat.le_of_ble_eq_true rfl)) (T2983.im kq2695.2.2.1 (by decide) (by decide) eE2689) (T2983.al kq2695.2.2.1 (by decide)) q3012.1 ez3010 rfl ?_
                  refine pm_R_lo pm_M129 (pc_q := 165) (pm_q129_1 (Nat.le_of_ble_eq_true rfl)) rfl rfl ?_
                  refine pm_R_get pm_M129 (pc_q := 168) (v := .ref (b + 2)) (pm_q129_1 (Nat.le_of_ble_eq_true rfl)) rfl eS2988 (G.ge hk (by decide)) (T2983.al hk (by decide)) rfl rfl ?_
                  refine pm_R_lo pm_M129 (pc_q := 170) (pm_q129_1 (Nat.le_of_ble_eq_true rfl)) rfl rfl ?_
                  obtain ⟨z3013, ez3014⟩ : ∃ y, f3004 (Int32.toNatClampNeg z2716) = y := ⟨_, rfl⟩
                  refine pm_R_lald pm_M129 (pc_q := 171) (v := z3013) (pm_q129_1 (Nat.le_of_ble_eq_true rfl)) e3005 (G.ge (G.s25 hk).2.1 (by decide)) (T2983.al (G.s25 hk).2.1 (by decide)) (sf_in B2718 (by decide) (by decide)) ez3014 rfl ?_
                  refine pm_R_lo pm_M129 (pc_q := 172) (pm_q129_1 (Nat.le_of_ble_eq_true rfl)) rfl rfl ?_
                  refine pm_R_get pm_M129 (pc_q := 175) (v := .ref (b + 2)) (pm_q129_1 (Nat.le_of_ble_eq_true rfl)) rfl eS2988 (G.ge hk (by decide)) (T2983.al hk (by decide)) rfl rfl ?_
                  refine pm_R_lo pm_M129 (pc_q := 177) (pm_q129_1 (Nat.le_of_ble_eq_true rfl)) rfl rfl ?_
                  obtain ⟨z3016, ez3017⟩ : ∃ y, f3004 (Int32.toNatClampNeg z2726) = y := ⟨_, rfl⟩
                  refine pm_R_lald pm_M129 (pc_q := 178) (v := z3016) (pm_q129_1 (Nat.le_of_ble_eq_true rfl)) e3005 (G.ge (G.s25 hk).2.1 (by decide)) (T2983.al (G.s25 hk).2.1 (by decide)) (sf_in B2728 (by decide) (by decide)) ez3017 rfl ?_
                  refine pm_R_cs pm_M129 (pc_q := 181) (ra := [.long z3016, .long z3013, .int z3009]) (rest := [.long z3001, .int z2706, .ref (b + 2)]) (ls_q := [.int z3009, .long z3013, pm_no, .long z3016, pm_no]) (pm_q129_1 (Nat.le_of_ble_eq_true rfl)) rfl (Or.inr rfl) pm_M104 rfl rfl (Nat.le_of_ble_eq_true rfl) rfl rfl ?_
                  refine pm_R_lo pm_M104 (pc_q := 1) rfl rfl rfl ?_
                  by_cases c3019 : z3009 < 0
                  · refine pm_R_tswD pm_M104 (pc_q := 57) rfl (Or.inl (Int32.lt_iff_toInt_lt.mp c3019)) rfl ?_
                    have B3020 : sf_B (-2147483648) (-1) z3009 := sf_ltL c3019 (sf_any z3009) sf_k0
                    refine pm_R_lo pm_M104 (pc_q := 58) rfl rfl rfl ?_
                    refine pm_R_cs pm_M104 (pc_q := 61) (ra := [.long z3016]) (rest := []) (ls_q := [.long z3016, pm_no, pm_no, pm_no, pm_no]) rfl rfl (Or.inl rfl) pm_M106 rfl rfl (Nat.le_of_ble_eq_true rfl) rfl rfl ?_
                    refine cl_c106 (d := d + 0)  (fun r3021 => ?_)
                    show pm_R _ 104 61 [.int z3009, .long z3013, pm_no, .long z3016, pm_no] [.long r3021] _ _
                    refine pm_R_ret pm_M104 (r := some (.long r3021)) rfl rfl ?_
                    show pm_R _ 129 181 [.ref b, .int a0, .int a1, .int a2, .int a3, .int x5_2661, .int z2706, .int z2716, .int z2726] [.long r3021, .long z3001, .int z2706, .ref (b + 2)] _ _
                    refine sf_R_lany pm_M129 (pc_q := 182) (st := [.int z2706, .ref (b + 2)]) (pm_q129_1 (Nat.le_of_ble_eq_true rfl)) rfl rfl (fun z3028 => ?_)
                    refine cl_R_sst26 G pm_M129 T2983 (pc_q := 183) (pm_q129_1 (Nat.le_of_ble_eq_true rfl)) hk e3005 (sf_in B2964 (by decide) (by decide)) rfl (fun h3029 T3030 F3031 U3032 => ?_)
                    have F3033 := F2986.trans (N := 0) (S := 0) F3031 (by decide) (by decide) (by decide)
                    have nn3034 := cl_NT.same U3032 _ hk nn2987
                    have eS3035 := (U3032 _ hk).trans eS2988
                    have NT3036 := NT2989.trans (cl_NT.same U3032)
                    refine sf_R_iinc pm_M129 (pc_q := 186) (ls_q := fun z => [.ref b, .int a0, .int a1, .int a2, .int a3, .int z, .int z2706, .int z2716, .int z2726]) (pm_q129_1 (Nat.le_of_ble_eq_true rfl)) B2697 rfl (by decide) (by decide) (by decide) (fun _ => rfl) rfl (fun z3037 e3038 B3039 => ?_)
                    show pm_R _ 129 186 [.ref b, .int a0, .int a1, .int a2, .int a3, .int z3037, .int z2706, .int z2716, .int z2726] [] _ _
                    refine pm_R_br pm_M129 (pc_q := 3) (pm_q129_1 (Nat.le_of_ble_eq_true rfl)) rfl ?_
                    exact ih_2661 _ (sf_up hN_2661 e3038 B2697 (by decide) (by decide)) h3029 m_2661 z3037 (.int z2706) (.int z2716) (.int z2726) T3030 F3033 W_2661 (sf_weak B3039 (by decide) (by decide)) rfl rfl rfl NT3036 rfl
                  have B3040 : sf_B 0 2147483647 z3009 := sf_leR (Int32.not_lt.mp c3019) sf_k0 (sf_any z3009)
                  by_cases c3041 : 3 < z3009
                  · refine pm_R_tswD pm_M104 (pc_q := 57) rfl (Or.inr (Int32.lt_iff_toInt_lt.mp c3041)) rfl ?_
                    have B3042 : sf_B 4 2147483647 z3009 := sf_ltR c3041 sf_k3 (sf_any z3009)
                    refine pm_R_lo pm_M104 (pc_q := 58) rfl rfl rfl ?_
                    refine pm_R_cs pm_M104 (pc_q := 61) (ra := [.long z3016]) (rest := []) (ls_q := [.long z3016, pm_no, pm_no, pm_no, pm_no]) rfl rfl (Or.inl rfl) pm_M106 rfl rfl (Nat.le_of_ble_eq_true rfl) rfl rfl ?_
                    refine cl_c106 (d := d + 0)  (fun r3043 => ?_)
                    show pm_R _ 104 61 [.int z3009, .long z3013, pm_no, .long z3016, pm_no] [.long r3043] _ _
                    refine pm_R_ret pm_M104 (r := some (.long r3043)) rfl rfl ?_
                    show pm_R _ 129 181 [.ref b, .int a0, .int a1, .int a2, .int a3, .int x5_2661, .int z2706, .int z2716, .int z2726] [.long r3043, .long z3001, .int z2706, .ref (b + 2)] _ _
                    refine sf_R_lany pm_M129 (pc_q := 182) (st := [.int z2706, .ref (b + 2)]) (pm_q129_1 (Nat.le_of_ble_eq_true rfl)) rfl rfl (fun z3050 => ?_)
                    refine cl_R_sst26 G pm_M129 T2983 (pc_q := 183) (pm_q129_1 (Nat.le_of_ble_eq_true rfl)) hk e3005 (sf_in B2964 (by decide) (by decide)) rfl (fun h3051 T3052 F3053 U3054 => ?_)
                    have F3055 := F2986.trans (N := 0) (S := 0) F3053 (by decide) (by decide) (by decide)
                    have nn3056 := cl_NT.same U3054 _ hk nn2987
                    have eS3057 := (U3054 _ hk).trans eS2988
                    have NT3058 := NT2989.trans (cl_NT.same U3054)
                    refine sf_R_iinc pm_M129 (pc_q := 186) (ls_q := fun z => [.ref b, .int a0, .int a1, .int a2, .int a3, .int z, .int z2706, .int z2716, .int z2726]) (pm_q129_1 (Nat.le_of_ble_eq_true rfl)) B2697 rfl (by decide) (by decide) (by decide) (fun _ => rfl) rfl (fun z3059 e3060 B3061 => ?_)
                    show pm_R _ 129 186 [.ref b, .int a0, .int a1, .int a2, .int a3, .int z3059, .int z2706, .int z2716, .int z2726] [] _ _
                    refine pm_R_br pm_M129 (pc_q := 3) (pm_q129_1 (Nat.le_of_ble_eq_true rfl)) rfl ?_
                    exact ih_2661 _ (sf_up hN_2661 e3060 B2697 (by decide) (by decide)) h3051 m_2661 z3059 (.int z2706) (.int z2716) (.int z2726) T3052 F3055 W_2661 (sf_weak B3061 (by decide) (by decide)) rfl rfl rfl NT3058 rfl
                  have B3062 : sf_B (-2147483648) 3 z3009 := sf_leL (Int32.not_lt.mp c3041) (sf_any z3009) sf_k3
                  by_cases c3063 : z3009 < 0
                  · refine pm_R_tswD pm_M104 (pc_q := 57) rfl (Or.inl (Int32.lt_iff_toInt_lt.mp c3063)) rfl ?_
                    have B3064 : sf_B (-2147483648) (-1) z3009 := sf_ltL c3063 B3062 sf_k0
                    refine pm_R_lo pm_M104 (pc_q := 58) rfl rfl rfl ?_
                    refine pm_R_cs pm_M104 (pc_q := 61) (ra := [.long z3016]) (rest := []) (ls_q := [.long z3016, pm_no, pm_no, pm_no, pm_no]) rfl rfl (Or.inl rfl) pm_M106 rfl rfl (Nat.le_of_ble_eq_true rfl) rfl rfl ?_
                    refine cl_c106 (d := d + 0)  (fun r3065 => ?_)
                    show pm_R _ 104 61 [.int z3009, .long z3013, pm_no, .long z3016, pm_no] [.long r3065] _ _
                    refine pm_R_ret pm_M104 (r := some (.long r3065)) rfl rfl ?_
                    show pm_R _ 129 181 [.ref b, .int a0, .int a1, .int a2, .int a3, .int x5_2661, .int z2706, .int z2716, .int z2726] [.long r3065, .long z3001, .int z2706, .ref (b + 2)] _ _
                    refine sf_R_lany pm_M129 (pc_q := 182) (st := [.int z2706, .ref (b + 2)]) (pm_q129_1 (Nat.le_of_ble_eq_true rfl)) rfl rfl (fun z3072 => ?_)
                    refine cl_R_sst26 G pm_M129 T2983 (pc_q := 183) (pm_q129_1 (Nat.le_of_ble_eq_true rfl)) hk e3005 (sf_in B2964 (by decide) (by decide)) rfl (fun h3073 T3074 F3075 U3076 => ?_)
                    have F3077 := F2986.trans (N := 0) (S := 0) F3075 (by decide) (by decide) (by decide)
                    have nn3078 := cl_NT.same U3076 _ hk nn2987
                    have eS3079 := (U3076 _ hk).trans eS2988
                    have NT3080 := NT2989.trans (cl_NT.same U3076)
                    refine sf_R_iinc pm_M129 (pc_q := 186) (ls_q := fun z => [.ref b, .int a0, .int a1, .int a2, .int a3, .int z, .int z2706, .int z2716, .int z2726]) (pm_q129_1 (Nat.le_of_ble_eq_true rfl)) B2697 rfl (by decide) (by decide) (by decide) (fun _ => rfl) rfl (fun z3081 e3082 B3083 => ?_)
                    show pm_R _ 129 186 [.ref b, .int a0, .int a1, .int a2, .int a3, .int z3081, .int z2706, .int z2716, .int z2726] [] _ _
                    refine pm_R_br pm_M129 (pc_q := 3) (pm_q129_1 (Nat.le_of_ble_eq_true rfl)) rfl ?_
                    exact ih_2661 _ (sf_up hN_2661 e3082 B2697 (by decide) (by decide)) h3073 m_2661 z3081 (.int z2706) (.int z2716) (.int z2726) T3074 F3077 W_2661 (sf_weak B3083 (by decide) (by decide)) rfl rfl rfl NT3080 rfl
                  have B3084 : sf_B 0 3 z3009 := sf_leR (Int32.not_lt.mp c3063) sf_k0 B3062
                  by_cases c3085 : 3 < z3009
                  · refine pm_R_tswD pm_M104 (pc_q := 57) rfl (Or.inr (Int32.lt_iff_toInt_lt.mp c3085)) rfl ?_
                    have B3086 : sf_B 4 3 z3009 := sf_ltR c3085 sf_k3 B3062
                    refine pm_R_lo pm_M104 (pc_q := 58) rfl rfl rfl ?_
                    refine pm_R_cs pm_M104 (pc_q := 61) (ra := [.long z3016]) (rest := []) (ls_q := [.long z3016, pm_no, pm_no, pm_no, pm_no]) rfl rfl (Or.inl rfl) pm_M106 rfl rfl (Nat.le_of_ble_eq_true rfl) rfl rfl ?_
                    refine cl_c106 (d := d + 0)  (fun r3087 => ?_)
                    show pm_R _ 104 61 [.int z3009, .long z3013, pm_no, .long z3016, pm_no] [.long r3087] _ _
                    refine pm_R_ret pm_M104 (r := some (.long r3087)) rfl rfl ?_
                    show pm_R _ 129 181 [.ref b, .int a0, .int a1, .int a2, .int a3, .int x5_2661, .int z2706, .int z2716, .int z2726] [.long r3087, .long z3001, .int z2706, .ref (b + 2)] _ _
                    refine sf_R_lany pm_M129 (pc_q := 182) (st := [.int z2706, .ref (b + 2)]) (pm_q129_1 (Nat.le_of_ble_eq_true rfl)) rfl rfl (fun z3094 => ?_)
                    refine cl_R_sst26 G pm_M129 T2983 (pc_q := 183) (pm_q129_1 (Nat.le_of_ble_eq_true rfl)) hk e3005 (sf_in B2964 (by decide) (by decide)) rfl (fun h3095 T3096 F3097 U3098 => ?_)
                    have F3099 := F2986.trans (N := 0) (S := 0) F3097 (by decide) (by decide) (by decide)
                    have nn3100 := cl_NT.same U3098 _ hk nn2987
                    have eS3101 := (U3098 _ hk).trans eS2988
                    have NT3102 := NT2989.trans (cl_NT.same U3098)
                    refine sf_R_iinc pm_M129 (pc_q := 186) (ls_q := fun z => [.ref b, .int a0, .int a1, .int a2, .int a3, .int z, .int z2706, .int z2716, .int z2726]) (pm_q129_1 (Nat.le_of_ble_eq_true rfl)) B2697 rfl (by decide) (by decide) (by decide) (fun _ => rfl) rfl (fun z3103 e3104 B3105 => ?_)
                    show pm_R _ 129 186 [.ref b, .int a0, .int a1, .int a2, .int a3, .int z3103, .int z2706, .int z2716, .int z2726] [] _ _
                    refine pm_R_br pm_M129 (pc_q := 3) (pm_q129_1 (Nat.le_of_ble_eq_true rfl)) rfl ?_
                    exact ih_2661 _ (sf_up hN_2661 e3104 B2697 (by decide) (by decide)) h3095 m_2661 z3103 (.int z2706) (.int z2716) (.int z2726) T3096 F3099 W_2661 (sf_weak B3105 (by decide) (by decide)) rfl rfl rfl NT3102 rfl
                  skip
                  by_cases c3106 : z3009 = 0
                  · rw [c3106]
                    refine pm_R_br pm_M104 (pc_q := 32) (st_q := []) rfl rfl ?_
                    refine pm_R_lo pm_M104 (pc_q := 33) rfl rfl rfl ?_
                    refine pm_R_ret pm_M104 (r := some (.long z3013)) rfl rfl ?_
                    show pm_R _ 129 181 [.ref b, .int a0, .int a1, .int a2, .int a3, .int x5_2661, .int z2706, .int z2716, .int z2726] [.long z3013, .long z3001, .int z2706, .ref (b + 2)] _ _
                    refine sf_R_lany pm_M129 (pc_q := 182) (st := [.int z2706, .ref (b + 2)]) (pm_q129_1 (Nat.le_of_ble_eq_true rfl)) rfl rfl (fun z3107 => ?_)
                    refine cl_R_sst26 G pm_M129 T2983 (pc_q := 183) (pm_q129_1 (Nat.le_of_ble_eq_true rfl)) hk e3005 (sf_in B2964 (by decide) (by decide)) rfl (fun h3108 T3109 F3110 U3111 => ?_)
                    have F3112 := F2986.trans (N := 0) (S := 0) F3110 (by decide) (by decide) (by decide)
                    have nn3113 := cl_NT.same U3111 _ hk nn2987
                    have eS3114 := (U3111 _ hk).trans eS2988
                    have NT3115 := NT2989.trans (cl_NT.same U3111)
                    refine sf_R_iinc pm_M129 (pc_q := 186) (ls_q := fun z => [.ref b, .int a0, .int a1, .int a2, .int a3, .int z, .int z2706, .int z2716, .int z2726]) (pm_q129_1 (Nat.le_of_ble_eq_true rfl)) B2697 rfl (by decide) (by decide) (by decide) (fun _ => rfl) rfl (fun z3116 e3117 B3118 => ?_)
                    show pm_R _ 129 186 [.ref b, .int a0, .int a1, .int a2, .int a3, .int z3116, .int z2706, .int z2716, .int z2726] [] _ _
                    refine pm_R_br pm_M129 (pc_q := 3) (pm_q129_1 (Nat.le_of_ble_eq_true rfl)) rfl ?_
                    exact ih_2661 _ (sf_up hN_2661 e3117 B2697 (by decide) (by decide)) h3108 m_2661 z3116 (.int z2706) (.int z2716) (.int z2726) T3109 F3112 W_2661 (sf_weak B3118 (by decide) (by decide)) rfl rfl rfl NT3115 rfl
                  have B3119 : sf_B 1 3 z3009 := sf_neL0 c3106 sf_k0 B3084
                  by_cases c3120 : z3009 = 1
                  · rw [c3120]
                    refine pm_R_br pm_M104 (pc_q := 34) (st_q := []) rfl rfl ?_
                    refine pm_R_lo pm_M104 (pc_q := 35) rfl rfl rfl ?_
                    refine pm_R_ret pm_M104 (r := some (.long z3016)) rfl rfl ?_
                    show pm_R _ 129 181 [.ref b, .int a0, .int a1, .int a2, .int a3, .int x5_2661, .int z2706, .int z2716, .int z2726] [.long z3016, .long z3001, .int z2706, .ref (b + 2)] _ _
                    refine sf_R_lany pm_M129 (pc_q := 182) (st := [.int z2706, .ref (b + 2)]) (pm_q129_1 (Nat.le_of_ble_eq_true rfl)) rfl rfl (fun z3121 => ?_)
                    refine cl_R_sst26 G pm_M129 T2983 (pc_q := 183) (pm_q129_1 (Nat.le_of_ble_eq_true rfl)) hk e3005 (sf_in B2964 (by decide) (by decide)) rfl (fun h3122 T3123 F3124 U3125 => ?_)
                    have F3126 := F2986.trans (N := 0) (S := 0) F3124 (by decide) (by decide) (by decide)
                    have nn3127 := cl_NT.same U3125 _ hk nn2987
                    have eS3128 := (U3125 _ hk).trans eS2988
                    have NT3129 := NT2989.trans (cl_NT.same U3125)
                    refine sf_R_iinc pm_M129 (pc_q := 186) (ls_q := fun z => [.ref b, .int a0, .int a1, .int a2, .int a3, .int z, .int z2706, .int z2716, .int z2726]) (pm_q129_1 (Nat.le_of_ble_eq_true rfl)) B2697 rfl (by decide) (by decide) (by decide) (fun _ => rfl) rfl (fun z3130 e3131 B3132 => ?_)
                    show pm_R _ 129 186 [.ref b, .int a0, .int a1, .int a2, .int a3, .int z3130, .int z2706, .int z2716, .int z2726] [] _ _
                    refine pm_R_br pm_M129 (pc_q := 3) (pm_q129_1 (Nat.le_of_ble_eq_true rfl)) rfl ?_
                    exact ih_2661 _ (sf_up hN_2661 e3131 B2697 (by decide) (by decide)) h3122 m_2661 z3130 (.int z2706) (.int z2716) (.int z2726) T3123 F3126 W_2661 (sf_weak B3132 (by decide) (by decide)) rfl rfl rfl NT3129 rfl
                  have B3133 : sf_B 2 3 z3009 := sf_neL0 c3120 sf_k1 B3119
                  by_cases c3134 : z3009 = 2
                  · rw [c3134]
                    refine pm_R_br pm_M104 (pc_q := 36) (st_q := []) rfl rfl ?_
                    refine pm_R_lo pm_M104 (pc_q := 37) rfl rfl rfl ?_
                    refine pm_R_lo pm_M104 (pc_q := 38) rfl rfl rfl ?_
                    refine pm_R_cs pm_M104 (pc_q := 41) (ra := [.long z3016, .long z3013]) (rest := []) (ls_q := [.long z3013, pm_no, .long z3016, pm_no, pm_no, pm_no, pm_no]) rfl rfl (Or.inl rfl) pm_M105 rfl rfl (Nat.le_of_ble_eq_true rfl) rfl rfl ?_
                    refine cl_c105 (d := d + 0)  (fun r3135 => ?_)
                    show pm_R _ 104 41 [.int 2, .long z3013, pm_no, .long z3016, pm_no] [.long r3135] _ _
                    refine pm_R_ret pm_M104 (r := some (.long r3135)) rfl rfl ?_
                    show pm_R _ 129 181 [.ref b, .int a0, .int a1, .int a2, .int a3, .int x5_2661, .int z2706, .int z2716, .int z2726] [.long r3135, .long z3001, .int z2706, .ref (b + 2)] _ _
                    refine sf_R_lany pm_M129 (pc_q := 182) (st := [.int z2706, .ref (b + 2)]) (pm_q129_1 (Nat.le_of_ble_eq_true rfl)) rfl rfl (fun z3142 => ?_)
                    refine cl_R_sst26 G pm_M129 T2983 (pc_q := 183) (pm_q129_1 (Nat.le_of_ble_eq_true rfl)) hk e3005 (sf_in B2964 (by decide) (by decide)) rfl (fun h3143 T3144 F3145 U3146 => ?_)
                    have F3147 := F2986.trans (N := 0) (S := 0) F3145 (by decide) (by decide) (by decide)
                    have nn3148 := cl_NT.same U3146 _ hk nn2987
                    have eS3149 := (U3146 _ hk).trans eS2988
                    have NT3150 := NT2989.trans (cl_NT.same U3146)
                    refine sf_R_iinc pm_M129 (pc_q := 186) (ls_q := fun z => [.ref b, .int a0, .int a1, .int a2, .int a3, .int z, .int z2706, .int z2716, .int z2726]) (pm_q129_1 (Nat.le_of_ble_eq_true rfl)) B2697 rfl (by decide) (by decide) (by decide) (fun _ => rfl) rfl (fun z3151 e3152 B3153 => ?_)
                    show pm_R _ 129 186 [.ref b, .int a0, .int a1, .int a2, .int a3, .int z3151, .int z2706, .int z2716, .int z2726] [] _ _
                    refine pm_R_br pm_M129 (pc_q := 3) (pm_q129_1 (Nat.le_of_ble_eq_true rfl)) rfl ?_
                    exact ih_2661 _ (sf_up hN_2661 e3152 B2697 (by decide) (by decide)) h3143 m_2661 z3151 (.int z2706) (.int z2716) (.int z2726) T3144 F3147 W_2661 (sf_weak B3153 (by decide) (by decide)) rfl rfl rfl NT3150 rfl
                  have B3154 : sf_B 3 3 z3009 := sf_neL0 c3134 sf_k2 B3133
                  rw [sf_pt2 B3154 sf_k3]
                  refine pm_R_br pm_M104 (pc_q := 42) (st_q := []) rfl rfl ?_
                  refine pm_R_lo pm_M104 (pc_q := 43) rfl rfl rfl ?_
                  refine pm_R_ldc2 pm_M104 (pc_q := 46) rfl rfl rfl ?_
                  refine pm_R_cs pm_M104 (pc_q := 49) (ra := [.long 2, .long z3013]) (rest := []) (ls_q := [.long z3013, pm_no, .long 2, pm_no, pm_no, pm_no, pm_no]) rfl rfl (Or.inl rfl) pm_M105 rfl rfl (Nat.le_of_ble_eq_true rfl) rfl rfl ?_
                  refine cl_c105 (d := d + 0)  (fun r3155 => ?_)
                  show pm_R _ 104 49 [.int 3, .long z3013, pm_no, .long z3016, pm_no] [.long r3155] _ _
                  refine pm_R_lo pm_M104 (pc_q := 50) rfl rfl rfl ?_
                  refine pm_R_cs pm_M104 (pc_q := 53) (ra := [.long z3016]) (rest := [.long r3155]) (ls_q := [.long z3016, pm_no, pm_no, pm_no, pm_no]) rfl rfl (Or.inl rfl) pm_M106 rfl rfl (Nat.le_of_ble_eq_true rfl) rfl rfl ?_
                  refine cl_c106 (d := d + 0)  (fun r3162 => ?_)
                  show pm_R _ 104 53 [.int 3, .long z3013, pm_no, .long z3016, pm_no] [.long r3162, .long r3155] _ _
                  refine pm_R_cs pm_M104 (pc_q := 56) (ra := [.long r3162, .long r3155]) (rest := []) (ls_q := [.long r3155, pm_no, .long r3162, pm_no, pm_no, pm_no, pm_no]) rfl rfl (Or.inl rfl) pm_M105 rfl rfl (Nat.le_of_ble_eq_true rfl) rfl rfl ?_
                  refine cl_c105 (d := d + 0)  (fun r3169 => ?_)
                  show pm_R _ 104 56 [.int 3, .long z3013, pm_no, .long z3016, pm_no] [.long r3169] _ _
                  refine pm_R_ret pm_M104 (r := some (.long r3169)) rfl rfl ?_
                  show pm_R _ 129 181 [.ref b, .int a0, .int a1, .int a2, .int a3, .int x5_2661, .int z2706, .int z2716, .int z2726] [.long r3169, .long z3001, .int z2706, .ref (b + 2)] _ _
                  refine sf_R_lany pm_M129 (pc_q := 182) (st := [.int z2706, .ref (b + 2)]) (pm_q129_1 (Nat.le_of_ble_eq_true rfl)) rfl rfl (fun z3176 => ?_)
                  refine cl_R_sst26 G pm_M129 T2983 (pc_q := 183) (pm_q129_1 (Nat.le_of_ble_eq_true rfl)) hk e3005 (sf_in B2964 (by decide) (by decide)) rfl (fun h3177 T3178 F3179 U3180 => ?_)
                  have F3181 := F2986.trans (N := 0) (S := 0) F3179 (by decide) (by decide) (by decide)
                  have nn3182 := cl_NT.same U3180 _ hk nn2987
                  have eS3183 := (U3180 _ hk).trans eS2988
                  have NT3184 := NT2989.trans (cl_NT.same U3180)
                  refine sf_R_iinc pm_M129 (pc_q := 186) (ls_q := fun z => [.ref b, .int a0, .int a1, .int a2, .int a3, .int z, .int z2706, .int z2716, .int z2726]) (pm_q129_1 (Nat.le_of_ble_eq_true rfl)) B2697 rfl (by decide) (by decide) (by decide) (fun _ => rfl) rfl (fun z3185 e3186 B3187 => ?_)
                  show pm_R _ 129 186 [.ref b, .int a0, .int a1, .int a2, .int a3, .int z3185, .int z2706, .int z2716, .int z2726] [] _ _
                  refine pm_R_br pm_M129 (pc_q := 3) (pm_q129_1 (Nat.le_of_ble_eq_true rfl)) rfl ?_
                  exact ih_2661 _ (sf_up hN_2661 e3186 B2697 (by decide) (by decide)) h3177 m_2661 z3185 (.int z2706) (.int z2716) (.int z2726) T3178 F3181 W_2661 (sf_weak B3187 (by decide) (by decide)) rfl rfl rfl NT3184 rfl
              · skip
                refine pm_R_br pm_M129 (pc_q := 183) rfl rfl ?_
                refine sf_R_iinc pm_M129 (pc_q := 186) (ls_q := fun z => [.ref b, .int a0, .int a1, .int a2, .int a3, .int z, .int z2706, .int z2716, .int z2726]) (pm_q129_1 (Nat.le_of_ble_eq_true rfl)) B2697 rfl (by decide) (by decide) (by decide) (fun _ => rfl) rfl (fun z3188 e3189 B3190 => ?_)
                show pm_R _ 129 186 [.ref b, .int a0, .int a1, .int a2, .int a3, .int z3188, .int z2706, .int z2716, .int z2726] [] _ _
                refine pm_R_br pm_M129 (pc_q := 3) (pm_q129_1 (Nat.le_of_ble_eq_true rfl)) rfl ?_
                exact ih_2661 _ (sf_up hN_2661 e3189 B2697 (by decide) (by decide)) h_2661 m_2661 z3188 (.int z2706) (.int z2716) (.int z2726) T_2661 F_2661 W_2661 (sf_weak B3190 (by decide) (by decide)) rfl rfl rfl X_2661 rfl
  exact L_2661 _ h m 0 (pm_no) (pm_no) (pm_no) T (cl_F.refl (ck := ck) (A := []) (n := 0) (s := 0) T.1) (rf_W.refl _ _) (sf_weak sf_k0 (by decide) (by decide)) rfl rfl rfl (cl_NT.refl ck h) rfl

set_option maxRecDepth 100000 in
set_option maxHeartbeats 4000000 in
/-- SilentTable$ShortRows.noteRow -/
theorem cl_c130 {d : Nat} {ck : cl_K} {E : Nat → pm_E} {m : Nat → Int32} {o : Nat → Option Nat} {h : pm_H} {Q : Option Value → pm_H → Prop} {b : Nat} {a0 : Int32} {a1 : Int32} {a2 : Int32} (G : cl_G ck E) (T : cl_T ck E m o h) (hk : ck b = 24) (Ba0 : sf_B 1 4 a0) (Ba1 : sf_B 0 11109 a1) (Ba2 : sf_B 0 6660 a2) (nn : cl_NN ck h b) (K : ∀ (m_q : Nat → Int32) (h_q : pm_H), cl_T ck E m_q o h_q → cl_F ck [] 0 0 h h_q → rf_W [] m m_q → cl_NT ck h h_q → Q none h_q) : pm_R (d + 2) 130 0 [.ref b, .int a0, .int a1, .int a2] [] h Q := by
  refine pm_R_lo pm_M130 (pc_q := 1) rfl rfl rfl ?_
  obtain ⟨lo1, fi2, av3, ah4, an5, kl6, B7, B8, eS9⟩ := id nn
  have nn10 : cl_NN ck h b := ⟨lo1, fi2, av3, ah4, an5, kl6, B7, B8, eS9⟩
  refine pm_R_get pm_M130 (pc_q := 4) (v := .ref (b + 4)) rfl rfl eS9 (G.ge hk (by decide)) (T.al hk (by decide)) rfl rfl ?_
  refine pm_R_lo pm_M130 (pc_q := 5) rfl rfl rfl ?_
  refine pm_R_op pm_M130 (pc_q := 6) (st_q := [.int (-1), .int a1, .ref (b + 4)]) rfl rfl rfl ?_
  obtain ⟨f11, e12⟩ := T.D.2.2.2.2.2.2.2 _ (G.s25 hk).2.2.2
  refine cl_R_sst28 G pm_M130 T (pc_q := 7) rfl hk e12 (sf_in Ba1 (by decide) (by decide)) rfl (fun h13 T14 F15 U16 => ?_)
  have F17 := (cl_F.refl (ck := ck) (A := []) (n := 0) (s := 0) T.1).trans (N := 0) (S := 0) F15 (by decide) (by decide) (by decide)
  have nn18 := cl_NT.same U16 _ hk nn10
  have eS19 := (U16 _ hk).trans eS9
  have NT20 := (cl_NT.refl ck h).trans (cl_NT.same U16)
  refine pm_R_lo pm_M130 (pc_q := 8) rfl rfl rfl ?_
  refine pm_R_get pm_M130 (pc_q := 11) (v := .ref (b + 3)) rfl rfl eS19 (G.ge hk (by decide)) (T14.al hk (by decide)) rfl rfl ?_
  refine pm_R_lo pm_M130 (pc_q := 12) rfl rfl rfl ?_
  obtain ⟨f24, e25⟩ := T14.D.2.2.2.2.2.2.1 _ (G.s25 hk).2.2.1
  obtain ⟨z21, ez22⟩ : ∃ y, f24 (Int32.toNatClampNeg a2) = y := ⟨_, rfl⟩
  refine pm_R_iald pm_M130 (pc_q := 13) (v := z21) rfl e25 (T14.al (G.s25 hk).2.2.1 (by decide)) (sf_in Ba2 (by decide) (by decide)) ez22 rfl ?_
  refine pm_R_ifc pm_M130 (t := 28) (pc_q := 16) rfl rfl rfl (fun c26 => ?_) (fun c26 => ?_)
  · have B27 : sf_B (-2147483648) 0 z21 := sf_leL c26 (sf_any z21) sf_k0
    refine pm_R_lo pm_M130 (pc_q := 29) rfl rfl rfl ?_
    refine pm_R_get pm_M130 (pc_q := 32) (v := .ref (b + 3)) rfl rfl eS19 (G.ge hk (by decide)) (T14.al hk (by decide)) rfl rfl ?_
    refine pm_R_lo pm_M130 (pc_q := 33) rfl rfl rfl ?_
    obtain ⟨z28, ez29⟩ : ∃ y, f24 (Int32.toNatClampNeg a2) = y := ⟨_, rfl⟩
    refine pm_R_iald pm_M130 (pc_q := 34) (v := z28) rfl e25 (T14.al (G.s25 hk).2.2.1 (by decide)) (sf_in Ba2 (by decide) (by decide)) ez29 rfl ?_
    refine pm_R_op pm_M130 (pc_q := 35) (st_q := [.int 1, .int z28]) rfl rfl rfl ?_
    refine pm_R_icmp pm_M130 (t := 69) (pc_q := 38) rfl rfl rfl (fun c31 => ?_) (fun c31 => ?_)
    · skip
      refine pm_R_lo pm_M130 (pc_q := 70) rfl rfl rfl ?_
      refine pm_R_get pm_M130 (pc_q := 73) (v := .ref (b + 1)) rfl rfl eS19 (G.ge hk (by decide)) (T14.al hk (by decide)) rfl rfl ?_
      refine pm_R_lo pm_M130 (pc_q := 74) rfl rfl rfl ?_
      refine pm_R_op pm_M130 (pc_q := 75) (st_q := [.int 3, .int a0, .ref (b + 1)]) rfl rfl rfl ?_
      refine sf_R_imul pm_M130 (pc_q := 76) rfl rfl Ba0 sf_k3 (by decide) (by decide) (by decide) (fun z32 e33 B34 => ?_)
      refine pm_R_op pm_M130 (pc_q := 77) (st_q := [.int 2, .int z32, .ref (b + 1)]) rfl rfl rfl ?_
      refine sf_R_iadd pm_M130 (pc_q := 78) rfl rfl B34 sf_k2 (by decide) (by decide) (fun z35 e36 B37 => ?_)
      refine pm_R_lo pm_M130 (pc_q := 79) rfl rfl rfl ?_
      refine pm_R_get pm_M130 (pc_q := 82) (v := .ref (b + 1)) rfl rfl eS19 (G.ge hk (by decide)) (T14.al hk (by decide)) rfl rfl ?_
      refine pm_R_lo pm_M130 (pc_q := 83) rfl rfl rfl ?_
      refine pm_R_op pm_M130 (pc_q := 84) (st_q := [.int 3, .int a0, .ref (b + 1), .int z35, .ref (b + 1)]) rfl rfl rfl ?_
      refine sf_R_imulV pm_M130 (pc_q := 85) (pm_q130_1 (Nat.le_of_ble_eq_true rfl)) rfl Ba0 sf_k3 (by decide) (by decide) (by decide) e33 ?_
      refine pm_R_op pm_M130 (pc_q := 86) (st_q := [.int 2, .int z32, .ref (b + 1), .int z35, .ref (b + 1)]) (pm_q130_1 (Nat.le_of_ble_eq_true rfl)) rfl rfl ?_
      refine sf_R_iaddV pm_M130 (pc_q := 87) (pm_q130_1 (Nat.le_of_ble_eq_true rfl)) rfl B34 sf_k2 (by decide) (by decide) e36 ?_
      obtain ⟨f41, e42⟩ := T14.D.2.2.2.2.1 _ (G.s25 hk).1
      obtain ⟨z38, ez39⟩ : ∃ y, f41 (Int32.toNatClampNeg z35) = y := ⟨_, rfl⟩
      refine pm_R_iald pm_M130 (pc_q := 88) (v := z38) (pm_q130_1 (Nat.le_of_ble_eq_true rfl)) e42 (T14.al (G.s25 hk).1 (by decide)) (sf_in B37 (by decide) (by decide)) ez39 rfl ?_
      refine pm_R_lo pm_M130 (pc_q := 89) (pm_q130_1 (Nat.le_of_ble_eq_true rfl)) rfl rfl ?_
      refine pm_R_get pm_M130 (pc_q := 92) (v := .ref (b + 3)) (pm_q130_1 (Nat.le_of_ble_eq_true rfl)) rfl eS19 (G.ge hk (by decide)) (T14.al hk (by decide)) rfl rfl ?_
      refine pm_R_lo pm_M130 (pc_q := 93) (pm_q130_1 (Nat.le_of_ble_eq_true rfl)) rfl rfl ?_
      obtain ⟨z43, ez44⟩ : ∃ y, f24 (Int32.toNatClampNeg a2) = y := ⟨_, rfl⟩
      refine pm_R_iald pm_M130 (pc_q := 94) (v := z43) (pm_q130_1 (Nat.le_of_ble_eq_true rfl)) e25 (T14.al (G.s25 hk).2.2.1 (by decide)) (sf_in Ba2 (by decide) (by decide)) ez44 rfl ?_
      refine cl_R_max pm_M130 (pc_q := 97) (pm_q130_1 (Nat.le_of_ble_eq_true rfl)) rfl rfl (Nat.le_of_ble_eq_true rfl) rfl (sf_any z38) (sf_any z43) (fun z46 B47 => ?_)
      refine cl_R_sst25 G pm_M130 T14 (pc_q := 98) (pm_q130_1 (Nat.le_of_ble_eq_true rfl)) hk e42 (sf_in B37 (by decide) (by decide)) rfl (fun h48 T49 F50 U51 => ?_)
      have F52 := F17.trans (N := 0) (S := 0) F50 (by decide) (by decide) (by decide)
      have nn53 := cl_NT.same U51 _ hk nn18
      have eS54 := (U51 _ hk).trans eS19
      have NT55 := NT20.trans (cl_NT.same U51)
      exact pm_R_ret pm_M130 (r := none) (pm_q130_1 (Nat.le_of_ble_eq_true rfl)) rfl (K m h48 T49 F52 (rf_W.refl [] m) NT55)
    · have B56 : sf_B 1 1 z28 := sf_eqL (Classical.not_not.mp c31) sf_k1
      refine pm_R_lo pm_M130 (pc_q := 39) rfl rfl rfl ?_
      refine pm_R_get pm_M130 (pc_q := 42) (v := .ref (b + 1)) rfl rfl eS19 (G.ge hk (by decide)) (T14.al hk (by decide)) rfl rfl ?_
      refine pm_R_lo pm_M130 (pc_q := 43) rfl rfl rfl ?_
      refine pm_R_op pm_M130 (pc_q := 44) (st_q := [.int 3, .int a0, .ref (b + 1)]) rfl rfl rfl ?_
      refine sf_R_imul pm_M130 (pc_q := 45) rfl rfl Ba0 sf_k3 (by decide) (by decide) (by decide) (fun z57 e58 B59 => ?_)
      refine pm_R_op pm_M130 (pc_q := 46) (st_q := [.int 1, .int z57, .ref (b + 1)]) rfl rfl rfl ?_
      refine sf_R_iadd pm_M130 (pc_q := 47) rfl rfl B59 sf_k1 (by decide) (by decide) (fun z60 e61 B62 => ?_)
      refine pm_R_op pm_M130 (pc_q := 48) (st_q := [.int z60, .ref (b + 1), .int z60, .ref (b + 1)]) rfl rfl rfl ?_
      obtain ⟨f66, e67⟩ := T14.D.2.2.2.2.1 _ (G.s25 hk).1
      obtain ⟨z63, ez64⟩ : ∃ y, f66 (Int32.toNatClampNeg z60) = y := ⟨_, rfl⟩
      refine pm_R_iald pm_M130 (pc_q := 49) (v := z63) rfl e67 (T14.al (G.s25 hk).1 (by decide)) (sf_in B62 (by decide) (by decide)) ez64 rfl ?_
      refine pm_R_op pm_M130 (pc_q := 50) (st_q := [.int 1, .int z63, .int z60, .ref (b + 1)]) rfl rfl rfl ?_
      refine sf_R_iany pm_M130 (pc_q := 51) (st := [.int z60, .ref (b + 1)]) rfl rfl rfl (fun z71 => ?_)
      refine cl_R_sst25 G pm_M130 T14 (pc_q := 52) rfl hk e67 (sf_in B62 (by decide) (by decide)) rfl (fun h72 T73 F74 U75 => ?_)
      have F76 := F17.trans (N := 0) (S := 0) F74 (by decide) (by decide) (by decide)
      have nn77 := cl_NT.same U75 _ hk nn18
      have eS78 := (U75 _ hk).trans eS19
      have NT79 := NT20.trans (cl_NT.same U75)
      refine pm_R_lo pm_M130 (pc_q := 53) rfl rfl rfl ?_
      refine pm_R_get pm_M130 (pc_q := 56) (v := .ref (b + 4)) rfl rfl eS78 (G.ge hk (by decide)) (T73.al hk (by decide)) rfl rfl ?_
      refine pm_R_lo pm_M130 (pc_q := 57) rfl rfl rfl ?_
      refine pm_R_lo pm_M130 (pc_q := 58) rfl rfl rfl ?_
      refine pm_R_get pm_M130 (pc_q := 61) (v := .ref (b + 2)) rfl rfl eS78 (G.ge hk (by decide)) (T73.al hk (by decide)) rfl rfl ?_
      refine pm_R_lo pm_M130 (pc_q := 62) rfl rfl rfl ?_
      obtain ⟨f83, e84⟩ := T73.D.2.2.2.2.2.1 _ (G.s25 hk).2.1
      obtain ⟨z80, ez81⟩ : ∃ y, f83 (Int32.toNatClampNeg a2) = y := ⟨_, rfl⟩
      refine pm_R_lald pm_M130 (pc_q := 63) (v := z80) rfl e84 (G.ge (G.s25 hk).2.1 (by decide)) (T73.al (G.s25 hk).2.1 (by decide)) (sf_in Ba2 (by decide) (by decide)) ez81 rfl ?_
      refine pm_R_op pm_M130 (pc_q := 64) (st_q := [.int 0, .long z80, .int a1, .ref (b + 4)]) rfl rfl rfl ?_
      refine pm_R_cs pm_M130 (pc_q := 67) (ra := [.int 0, .long z80]) (rest := [.int a1, .ref (b + 4)]) (ls_q := [.long z80, pm_no, .int 0, pm_no, pm_no, pm_no]) rfl rfl (Or.inr rfl) pm_M107 rfl rfl (Nat.le_of_ble_eq_true rfl) rfl rfl ?_
      refine cl_c107 (d := d + 0)  (fun r85 B86 => ?_)
      show pm_R _ 130 67 [.ref b, .int a0, .int a1, .int a2] [.int r85, .int a1, .ref (b + 4)] _ _
      refine sf_R_iany pm_M130 (pc_q := 68) (st := [.int a1, .ref (b + 4)]) rfl rfl rfl (fun z92 => ?_)
      obtain ⟨f93, e94⟩ := T73.D.2.2.2.2.2.2.2 _ (G.s25 hk).2.2.2
      refine cl_R_sst28 G pm_M130 T73 (pc_q := 69) rfl hk e94 (sf_in Ba1 (by decide) (by decide)) rfl (fun h95 T96 F97 U98 => ?_)
      have F99 := F76.trans (N := 0) (S := 0) F97 (by decide) (by decide) (by decide)
      have nn100 := cl_NT.same U98 _ hk nn77
      have eS101 := (U98 _ hk).trans eS78
      have NT102 := NT79.trans (cl_NT.same U98)
      refine pm_R_lo pm_M130 (pc_q := 70) rfl rfl rfl ?_
      refine pm_R_get pm_M130 (pc_q := 73) (v := .ref (b + 1)) rfl rfl eS101 (G.ge hk (by decide)) (T96.al hk (by decide)) rfl rfl ?_
      refine pm_R_lo pm_M130 (pc_q := 74) rfl rfl rfl ?_
      refine pm_R_op pm_M130 (pc_q := 75) (st_q := [.int 3, .int a0, .ref (b + 1)]) rfl rfl rfl ?_
      refine sf_R_imulV pm_M130 (pc_q := 76) rfl rfl Ba0 sf_k3 (by decide) (by decide) (by decide) e58 ?_
      refine pm_R_op pm_M130 (pc_q := 77) (st_q := [.int 2, .int z57, .ref (b + 1)]) rfl rfl rfl ?_
      refine sf_R_iadd pm_M130 (pc_q := 78) rfl rfl B59 sf_k2 (by decide) (by decide) (fun z103 e104 B105 => ?_)
      refine pm_R_lo pm_M130 (pc_q := 79) rfl rfl rfl ?_
      refine pm_R_get pm_M130 (pc_q := 82) (v := .ref (b + 1)) rfl rfl eS101 (G.ge hk (by decide)) (T96.al hk (by decide)) rfl rfl ?_
      refine pm_R_lo pm_M130 (pc_q := 83) rfl rfl rfl ?_
      refine pm_R_op pm_M130 (pc_q := 84) (st_q := [.int 3, .int a0, .ref (b + 1), .int z103, .ref (b + 1)]) rfl rfl rfl ?_
      refine sf_R_imulV pm_M130 (pc_q := 85) (pm_q130_1 (Nat.le_of_ble_eq_true rfl)) rfl Ba0 sf_k3 (by decide) (by decide) (by decide) e58 ?_
      refine pm_R_op pm_M130 (pc_q := 86) (st_q := [.int 2, .int z57, .ref (b + 1), .int z103, .ref (b + 1)]) (pm_q130_1 (Nat.le_of_ble_eq_true rfl)) rfl rfl ?_
      refine sf_R_iaddV pm_M130 (pc_q := 87) (pm_q130_1 (Nat.le_of_ble_eq_true rfl)) rfl B59 sf_k2 (by decide) (by decide) e104 ?_
      obtain ⟨f109, e110⟩ := T96.D.2.2.2.2.1 _ (G.s25 hk).1
      obtain ⟨z106, ez107⟩ : ∃ y, f109 (Int32.toNatClampNeg z103) = y := ⟨_, rfl⟩
      refine pm_R_iald pm_M130 (pc_q := 88) (v := z106) (pm_q130_1 (Nat.le_of_ble_eq_true rfl)) e110 (T96.al (G.s25 hk).1 (by decide)) (sf_in B105 (by decide) (by decide)) ez107 rfl ?_
      refine pm_R_lo pm_M130 (pc_q := 89) (pm_q130_1 (Nat.le_of_ble_eq_true rfl)) rfl rfl ?_
      refine pm_R_get pm_M130 (pc_q := 92) (v := .ref (b + 3)) (pm_q130_1 (Nat.le_of_ble_eq_true rfl)) rfl eS101 (G.ge hk (by decide)) (T96.al hk (by decide)) rfl rfl ?_
      refine pm_R_lo pm_M130 (pc_q := 93) (pm_q130_1 (Nat.le_of_ble_eq_true rfl)) rfl rfl ?_
      obtain ⟨f114, e115⟩ := T96.D.2.2.2.2.2.2.1 _ (G.s25 hk).2.2.1
      obtain ⟨z111, ez112⟩ : ∃ y, f114 (Int32.toNatClampNeg a2) = y := ⟨_, rfl⟩
      refine pm_R_iald pm_M130 (pc_q := 94) (v := z111) (pm_q130_1 (Nat.le_of_ble_eq_true rfl)) e115 (T96.al (G.s25 hk).2.2.1 (by decide)) (sf_in Ba2 (by decide) (by decide)) ez112 rfl ?_
      refine cl_R_max pm_M130 (pc_q := 97) (pm_q130_1 (Nat.le_of_ble_eq_true rfl)) rfl rfl (Nat.le_of_ble_eq_true rfl) rfl (sf_any z106) (sf_any z111) (fun z116 B117 => ?_)
      refine cl_R_sst25 G pm_M130 T96 (pc_q := 98) (pm_q130_1 (Nat.le_of_ble_eq_true rfl)) hk e110 (sf_in B105 (by decide) (by decide)) rfl (fun h118 T119 F120 U121 => ?_)
      have F122 := F99.trans (N := 0) (S := 0) F120 (by decide) (by decide) (by decide)
      have nn123 := cl_NT.same U121 _ hk nn100
      have eS124 := (U121 _ hk).trans eS101
      have NT125 := NT102.trans (cl_NT.same U121)
      exact pm_R_ret pm_M130 (r := none) (pm_q130_1 (Nat.le_of_ble_eq_true rfl)) rfl (K m h118 T119 F122 (rf_W.refl [] m) NT125)
  · have B126 : sf_B 1 2147483647 z21 := sf_ltR (Int32.not_le.mp c26) sf_k0 (sf_any z21)
    refine pm_R_lo pm_M130 (pc_q := 17) rfl rfl rfl ?_
    refine pm_R_get pm_M130 (pc_q := 20) (v := .ref (b + 1)) rfl rfl eS19 (G.ge hk (by decide)) (T14.al hk (by decide)) rfl rfl ?_
    refine pm_R_lo pm_M130 (pc_q := 21) rfl rfl rfl ?_
    refine pm_R_op pm_M130 (pc_q := 22) (st_q := [.int 3, .int a0, .ref (b + 1)]) rfl rfl rfl ?_
    refine sf_R_imul pm_M130 (pc_q := 23) rfl rfl Ba0 sf_k3 (by decide) (by decide) (by decide) (fun z127 e128 B129 => ?_)
    refine pm_R_op pm_M130 (pc_q := 24) (st_q := [.int z127, .ref (b + 1), .int z127, .ref (b + 1)]) rfl rfl rfl ?_
    obtain ⟨f133, e134⟩ := T14.D.2.2.2.2.1 _ (G.s25 hk).1
    obtain ⟨z130, ez131⟩ : ∃ y, f133 (Int32.toNatClampNeg z127) = y := ⟨_, rfl⟩
    refine pm_R_iald pm_M130 (pc_q := 25) (v := z130) rfl e134 (T14.al (G.s25 hk).1 (by decide)) (sf_in B129 (by decide) (by decide)) ez131 rfl ?_
    refine pm_R_op pm_M130 (pc_q := 26) (st_q := [.int 1, .int z130, .int z127, .ref (b + 1)]) rfl rfl rfl ?_
    refine sf_R_iany pm_M130 (pc_q := 27) (st := [.int z127, .ref (b + 1)]) rfl rfl rfl (fun z138 => ?_)
    refine cl_R_sst25 G pm_M130 T14 (pc_q := 28) rfl hk e134 (sf_in B129 (by decide) (by decide)) rfl (fun h139 T140 F141 U142 => ?_)
    have F143 := F17.trans (N := 0) (S := 0) F141 (by decide) (by decide) (by decide)
    have nn144 := cl_NT.same U142 _ hk nn18
    have eS145 := (U142 _ hk).trans eS19
    have NT146 := NT20.trans (cl_NT.same U142)
    refine pm_R_lo pm_M130 (pc_q := 29) rfl rfl rfl ?_
    refine pm_R_get pm_M130 (pc_q := 32) (v := .ref (b + 3)) rfl rfl eS145 (G.ge hk (by decide)) (T140.al hk (by decide)) rfl rfl ?_
    refine pm_R_lo pm_M130 (pc_q := 33) rfl rfl rfl ?_
    obtain ⟨f150, e151⟩ := T140.D.2.2.2.2.2.2.1 _ (G.s25 hk).2.2.1
    obtain ⟨z147, ez148⟩ : ∃ y, f150 (Int32.toNatClampNeg a2) = y := ⟨_, rfl⟩
    refine pm_R_iald pm_M130 (pc_q := 34) (v := z147) rfl e151 (T140.al (G.s25 hk).2.2.1 (by decide)) (sf_in Ba2 (by decide) (by decide)) ez148 rfl ?_
    refine pm_R_op pm_M130 (pc_q := 35) (st_q := [.int 1, .int z147]) rfl rfl rfl ?_
    refine pm_R_icmp pm_M130 (t := 69) (pc_q := 38) rfl rfl rfl (fun c152 => ?_) (fun c152 => ?_)
    · skip
      refine pm_R_lo pm_M130 (pc_q := 70) rfl rfl rfl ?_
      refine pm_R_get pm_M130 (pc_q := 73) (v := .ref (b + 1)) rfl rfl eS145 (G.ge hk (by decide)) (T140.al hk (by decide)) rfl rfl ?_
      refine pm_R_lo pm_M130 (pc_q := 74) rfl rfl rfl ?_
      refine pm_R_op pm_M130 (pc_q := 75) (st_q := [.int 3, .int a0, .ref (b + 1)]) rfl rfl rfl ?_
      refine sf_R_imulV pm_M130 (pc_q := 76) rfl rfl Ba0 sf_k3 (by decide) (by decide) (by decide) e128 ?_
      refine pm_R_op pm_M130 (pc_q := 77) (st_q := [.int 2, .int z127, .ref (b + 1)]) rfl rfl rfl ?_
      refine sf_R_iadd pm_M130 (pc_q := 78) rfl rfl B129 sf_k2 (by decide) (by decide) (fun z153 e154 B155 => ?_)
      refine pm_R_lo pm_M130 (pc_q := 79) rfl rfl rfl ?_
      refine pm_R_get pm_M130 (pc_q := 82) (v := .ref (b + 1)) rfl rfl eS145 (G.ge hk (by decide)) (T140.al hk (by decide)) rfl rfl ?_
      refine pm_R_lo pm_M130 (pc_q := 83) rfl rfl rfl ?_
      refine pm_R_op pm_M130 (pc_q := 84) (st_q := [.int 3, .int a0, .ref (b + 1), .int z153, .ref (b + 1)]) rfl rfl rfl ?_
      refine sf_R_imulV pm_M130 (pc_q := 85) (pm_q130_1 (Nat.le_of_ble_eq_true rfl)) rfl Ba0 sf_k3 (by decide) (by decide) (by decide) e128 ?_
      refine pm_R_op pm_M130 (pc_q := 86) (st_q := [.int 2, .int z127, .ref (b + 1), .int z153, .ref (b + 1)]) (pm_q130_1 (Nat.le_of_ble_eq_true rfl)) rfl rfl ?_
      refine sf_R_iaddV pm_M130 (pc_q := 87) (pm_q130_1 (Nat.le_of_ble_eq_true rfl)) rfl B129 sf_k2 (by decide) (by decide) e154 ?_
      obtain ⟨f159, e160⟩ := T140.D.2.2.2.2.1 _ (G.s25 hk).1
      obtain ⟨z156, ez157⟩ : ∃ y, f159 (Int32.toNatClampNeg z153) = y := ⟨_, rfl⟩
      refine pm_R_iald pm_M130 (pc_q := 88) (v := z156) (pm_q130_1 (Nat.le_of_ble_eq_true rfl)) e160 (T140.al (G.s25 hk).1 (by decide)) (sf_in B155 (by decide) (by decide)) ez157 rfl ?_
      refine pm_R_lo pm_M130 (pc_q := 89) (pm_q130_1 (Nat.le_of_ble_eq_true rfl)) rfl rfl ?_
      refine pm_R_get pm_M130 (pc_q := 92) (v := .ref (b + 3)) (pm_q130_1 (Nat.le_of_ble_eq_true rfl)) rfl eS145 (G.ge hk (by decide)) (T140.al hk (by decide)) rfl rfl ?_
      refine pm_R_lo pm_M130 (pc_q := 93) (pm_q130_1 (Nat.le_of_ble_eq_true rfl)) rfl rfl ?_
      obtain ⟨z161, ez162⟩ : ∃ y, f150 (Int32.toNatClampNeg a2) = y := ⟨_, rfl⟩
      refine pm_R_iald pm_M130 (pc_q := 94) (v := z161) (pm_q130_1 (Nat.le_of_ble_eq_true rfl)) e151 (T140.al (G.s25 hk).2.2.1 (by decide)) (sf_in Ba2 (by decide) (by decide)) ez162 rfl ?_
      refine cl_R_max pm_M130 (pc_q := 97) (pm_q130_1 (Nat.le_of_ble_eq_true rfl)) rfl rfl (Nat.le_of_ble_eq_true rfl) rfl (sf_any z156) (sf_any z161) (fun z164 B165 => ?_)
      refine cl_R_sst25 G pm_M130 T140 (pc_q := 98) (pm_q130_1 (Nat.le_of_ble_eq_true rfl)) hk e160 (sf_in B155 (by decide) (by decide)) rfl (fun h166 T167 F168 U169 => ?_)
      have F170 := F143.trans (N := 0) (S := 0) F168 (by decide) (by decide) (by decide)
      have nn171 := cl_NT.same U169 _ hk nn144
      have eS172 := (U169 _ hk).trans eS145
      have NT173 := NT146.trans (cl_NT.same U169)
      exact pm_R_ret pm_M130 (r := none) (pm_q130_1 (Nat.le_of_ble_eq_true rfl)) rfl (K m h166 T167 F170 (rf_W.refl [] m) NT173)
    · have B174 : sf_B 1 1 z147 := sf_eqL (Classical.not_not.mp c152) sf_k1
      refine pm_R_lo pm_M130 (pc_q := 39) rfl rfl rfl ?_
      refine pm_R_get pm_M130 (pc_q := 42) (v := .ref (b + 1)) rfl rfl eS145 (G.ge hk (by decide)) (T140.al hk (by decide)) rfl rfl ?_
      refine pm_R_lo pm_M130 (pc_q := 43) rfl rfl rfl ?_
      refine pm_R_op pm_M130 (pc_q := 44) (st_q := [.int 3, .int a0, .ref (b + 1)]) rfl rfl rfl ?_
      refine sf_R_imulV pm_M130 (pc_q := 45) rfl rfl Ba0 sf_k3 (by decide) (by decide) (by decide) e128 ?_
      refine pm_R_op pm_M130 (pc_q := 46) (st_q := [.int 1, .int z127, .ref (b + 1)]) rfl rfl rfl ?_
      refine sf_R_iadd pm_M130 (pc_q := 47) rfl rfl B129 sf_k1 (by decide) (by decide) (fun z175 e176 B177 => ?_)
      refine pm_R_op pm_M130 (pc_q := 48) (st_q := [.int z175, .ref (b + 1), .int z175, .ref (b + 1)]) rfl rfl rfl ?_
      obtain ⟨f181, e182⟩ := T140.D.2.2.2.2.1 _ (G.s25 hk).1
      obtain ⟨z178, ez179⟩ : ∃ y, f181 (Int32.toNatClampNeg z175) = y := ⟨_, rfl⟩
      refine pm_R_iald pm_M130 (pc_q := 49) (v := z178) rfl e182 (T140.al (G.s25 hk).1 (by decide)) (sf_in B177 (by decide) (by decide)) ez179 rfl ?_
      refine pm_R_op pm_M130 (pc_q := 50) (st_q := [.int 1, .int z178, .int z175, .ref (b + 1)]) rfl rfl rfl ?_
      refine sf_R_iany pm_M130 (pc_q := 51) (st := [.int z175, .ref (b + 1)]) rfl rfl rfl (fun z186 => ?_)
      refine cl_R_sst25 G pm_M130 T140 (pc_q := 52) rfl hk e182 (sf_in B177 (by decide) (by decide)) rfl (fun h187 T188 F189 U190 => ?_)
      have F191 := F143.trans (N := 0) (S := 0) F189 (by decide) (by decide) (by decide)
      have nn192 := cl_NT.same U190 _ hk nn144
      have eS193 := (U190 _ hk).trans eS145
      have NT194 := NT146.trans (cl_NT.same U190)
      refine pm_R_lo pm_M130 (pc_q := 53) rfl rfl rfl ?_
      refine pm_R_get pm_M130 (pc_q := 56) (v := .ref (b + 4)) rfl rfl eS193 (G.ge hk (by decide)) (T188.al hk (by decide)) rfl rfl ?_
      refine pm_R_lo pm_M130 (pc_q := 57) rfl rfl rfl ?_
      refine pm_R_lo pm_M130 (pc_q := 58) rfl rfl rfl ?_
      refine pm_R_get pm_M130 (pc_q := 61) (v := .ref (b + 2)) rfl rfl eS193 (G.ge hk (by decide)) (T188.al hk (by decide)) rfl rfl ?_
      refine pm_R_lo pm_M130 (pc_q := 62) rfl rfl rfl ?_
      obtain ⟨f198, e199⟩ := T188.D.2.2.2.2.2.1 _ (G.s25 hk).2.1
      obtain ⟨z195, ez196⟩ : ∃ y, f198 (Int32.toNatClampNeg a2) = y := ⟨_, rfl⟩
      refine pm_R_lald pm_M130 (pc_q := 63) (v := z195) rfl e199 (G.ge (G.s25 hk).2.1 (by decide)) (T188.al (G.s25 hk).2.1 (by decide)) (sf_in Ba2 (by decide) (by decide)) ez196 rfl ?_
      refine pm_R_op pm_M130 (pc_q := 64) (st_q := [.int 0, .long z195, .int a1, .ref (b + 4)]) rfl rfl rfl ?_
      refine pm_R_cs pm_M130 (pc_q := 67) (ra := [.int 0, .long z195]) (rest := [.int a1, .ref (b + 4)]) (ls_q := [.long z195, pm_no, .int 0, pm_no, pm_no, pm_no]) rfl rfl (Or.inr rfl) pm_M107 rfl rfl (Nat.le_of_ble_eq_true rfl) rfl rfl ?_
      refine cl_c107 (d := d + 0)  (fun r200 B201 => ?_)
      show pm_R _ 130 67 [.ref b, .int a0, .int a1, .int a2] [.int r200, .int a1, .ref (b + 4)] _ _
      refine sf_R_iany pm_M130 (pc_q := 68) (st := [.int a1, .ref (b + 4)]) rfl rfl rfl (fun z207 => ?_)
      obtain ⟨f208, e209⟩ := T188.D.2.2.2.2.2.2.2 _ (G.s25 hk).2.2.2
      refine cl_R_sst28 G pm_M130 T188 (pc_q := 69) rfl hk e209 (sf_in Ba1 (by decide) (by decide)) rfl (fun h210 T211 F212 U213 => ?_)
      have F214 := F191.trans (N := 0) (S := 0) F212 (by decide) (by decide) (by decide)
      have nn215 := cl_NT.same U213 _ hk nn192
      have eS216 := (U213 _ hk).trans eS193
      have NT217 := NT194.trans (cl_NT.same U213)
      refine pm_R_lo pm_M130 (pc_q := 70) rfl rfl rfl ?_
      refine pm_R_get pm_M130 (pc_q := 73) (v := .ref (b + 1)) rfl rfl eS216 (G.ge hk (by decide)) (T211.al hk (by decide)) rfl rfl ?_
      refine pm_R_lo pm_M130 (pc_q := 74) rfl rfl rfl ?_
      refine pm_R_op pm_M130 (pc_q := 75) (st_q := [.int 3, .int a0, .ref (b + 1)]) rfl rfl rfl ?_
      refine sf_R_imulV pm_M130 (pc_q := 76) rfl rfl Ba0 sf_k3 (by decide) (by decide) (by decide) e128 ?_
      refine pm_R_op pm_M130 (pc_q := 77) (st_q := [.int 2, .int z127, .ref (b + 1)]) rfl rfl rfl ?_
      refine sf_R_iadd pm_M130 (pc_q := 78) rfl rfl B129 sf_k2 (by decide) (by decide) (fun z218 e219 B220 => ?_)
      refine pm_R_lo pm_M130 (pc_q := 79) rfl rfl rfl ?_
      refine pm_R_get pm_M130 (pc_q := 82) (v := .ref (b + 1)) rfl rfl eS216 (G.ge hk (by decide)) (T211.al hk (by decide)) rfl rfl ?_
      refine pm_R_lo pm_M130 (pc_q := 83) rfl rfl rfl ?_
      refine pm_R_op pm_M130 (pc_q := 84) (st_q := [.int 3, .int a0, .ref (b + 1), .int z218, .ref (b + 1)]) rfl rfl rfl ?_
      refine sf_R_imulV pm_M130 (pc_q := 85) (pm_q130_1 (Nat.le_of_ble_eq_true rfl)) rfl Ba0 sf_k3 (by decide) (by decide) (by decide) e128 ?_
      refine pm_R_op pm_M130 (pc_q := 86) (st_q := [.int 2, .int z127, .ref (b + 1), .int z218, .ref (b + 1)]) (pm_q130_1 (Nat.le_of_ble_eq_true rfl)) rfl rfl ?_
      refine sf_R_iaddV pm_M130 (pc_q := 87) (pm_q130_1 (Nat.le_of_ble_eq_true rfl)) rfl B129 sf_k2 (by decide) (by decide) e219 ?_
      obtain ⟨f224, e225⟩ := T211.D.2.2.2.2.1 _ (G.s25 hk).1
      obtain ⟨z221, ez222⟩ : ∃ y, f224 (Int32.toNatClampNeg z218) = y := ⟨_, rfl⟩
      refine pm_R_iald pm_M130 (pc_q := 88) (v := z221) (pm_q130_1 (Nat.le_of_ble_eq_true rfl)) e225 (T211.al (G.s25 hk).1 (by decide)) (sf_in B220 (by decide) (by decide)) ez222 rfl ?_
      refine pm_R_lo pm_M130 (pc_q := 89) (pm_q130_1 (Nat.le_of_ble_eq_true rfl)) rfl rfl ?_
      refine pm_R_get pm_M130 (pc_q := 92) (v := .ref (b + 3)) (pm_q130_1 (Nat.le_of_ble_eq_true rfl)) rfl eS216 (G.ge hk (by decide)) (T211.al hk (by decide)) rfl rfl ?_
      refine pm_R_lo pm_M130 (pc_q := 93) (pm_q130_1 (Nat.le_of_ble_eq_true rfl)) rfl rfl ?_
      obtain ⟨f229, e230⟩ := T211.D.2.2.2.2.2.2.1 _ (G.s25 hk).2.2.1
      obtain ⟨z226, ez227⟩ : ∃ y, f229 (Int32.toNatClampNeg a2) = y := ⟨_, rfl⟩
      refine pm_R_iald pm_M130 (pc_q := 94) (v := z226) (pm_q130_1 (Nat.le_of_ble_eq_true rfl)) e230 (T211.al (G.s25 hk).2.2.1 (by decide)) (sf_in Ba2 (by decide) (by decide)) ez227 rfl ?_
      refine cl_R_max pm_M130 (pc_q := 97) (pm_q130_1 (Nat.le_of_ble_eq_true rfl)) rfl rfl (Nat.le_of_ble_eq_true rfl) rfl (sf_any z221) (sf_any z226) (fun z231 B232 => ?_)
      refine cl_R_sst25 G pm_M130 T211 (pc_q := 98) (pm_q130_1 (Nat.le_of_ble_eq_true rfl)) hk e225 (sf_in B220 (by decide) (by decide)) rfl (fun h233 T234 F235 U236 => ?_)
      have F237 := F214.trans (N := 0) (S := 0) F235 (by decide) (by decide) (by decide)
      have nn238 := cl_NT.same U236 _ hk nn215
      have eS239 := (U236 _ hk).trans eS216
      have NT240 := NT217.trans (cl_NT.same U236)
      exact pm_R_ret pm_M130 (r := none) (pm_q130_1 (Nat.le_of_ble_eq_true rfl)) rfl (K m h233 T234 F237 (rf_W.refl [] m) NT240)
