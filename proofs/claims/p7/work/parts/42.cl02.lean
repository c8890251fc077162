set_option maxRecDepth 100000 in
set_option maxHeartbeats 4000000 in
/-- java/util/Arrays.fill -/
theorem cl_c13_36 {d : Nat} {ck : cl_K} {E : Nat → pm_E} {m : Nat → Int32} {o : Nat → Option Nat} {h : pm_H} {Q : Option Value → pm_H → Prop} {a1 : Int32} (G : cl_G ck E) (T : cl_T ck E m o h)  (K : ∀ (m_q : Nat → Int32) (h_q : pm_H), cl_T ck E m_q o h_q → cl_F ck [36] 0 0 h h_q → rf_W [] m m_q → Q none h_q) : pm_R (d + 0) 13 0 [.ref 36, .int a1, pm_no, pm_no] [] h Q := by
  refine pm_R_op pm_M13 (pc_q := 1) (st_q := [.int 0]) rfl rfl rfl ?_
  refine pm_R_lo pm_M13 (pc_q := 2) (ls_q := [.ref 36, .int a1, .int 0, pm_no]) (st_q := []) rfl rfl rfl ?_
  refine pm_R_lo pm_M13 (pc_q := 3) rfl rfl rfl ?_
  obtain ⟨f1, e2⟩ := T.C 36 (by decide) (by decide)
  refine pm_R_alen pm_M13 (pc_q := 4) (v := 78) rfl e2 (by decide) (T.lt (by decide)) (by decide) rfl rfl ?_
  refine pm_R_lo pm_M13 (pc_q := 5) (ls_q := [.ref 36, .int a1, .int 0, .int 78]) (st_q := []) rfl rfl rfl ?_
  have L_88 : ∀ (N : Nat) (h_88 : pm_H) (m_88 : Nat → Int32) (x2_88 : Int32), cl_T ck E m_88 o h_88 → cl_F ck [36] 0 0 h h_88 → rf_W [] m m_88 → sf_B 0 78 x2_88 → (78 - x2_88.toInt).toNat = N → pm_R (d + 0) 13 5 [.ref 36, .int a1, .int x2_88, .int 78] [] h_88 Q := by
    intro N
    induction N using Nat.strongRecOn with
    | ind N ih_88 =>
      intro h_88 m_88 x2_88 T_88 F_88 W_88 Bx2_88 hN_88
      have W91 : rf_W [] m m_88 := (rf_W.refl [] m).trans W_88 (by decide)
      refine pm_R_lo pm_M13 (pc_q := 6) rfl rfl rfl ?_
      refine pm_R_lo pm_M13 (pc_q := 7) rfl rfl rfl ?_
      refine pm_R_icmp pm_M13 (t := 20) (pc_q := 10) rfl rfl rfl (fun c92 => ?_) (fun c92 => ?_)
      · have B93 : sf_B 78 78 x2_88 := sf_leR c92 sf_k78 Bx2_88
        exact pm_R_ret pm_M13 (r := none) rfl rfl (K m_88 h_88 T_88 F_88 W91)
      · have B94 : sf_B 0 77 x2_88 := sf_ltL (Int32.not_le.mp c92) Bx2_88 sf_k78
        refine pm_R_lo pm_M13 (pc_q := 11) rfl rfl rfl ?_
        refine pm_R_lo pm_M13 (pc_q := 12) rfl rfl rfl ?_
        refine pm_R_lo pm_M13 (pc_q := 13) rfl rfl rfl ?_
        obtain ⟨f95, e96⟩ := T_88.C 36 (by decide) (by decide)
        refine cl_R_ist G pm_M13 T_88 (pc_q := 14) rfl e96 (by decide) ⟨_, rfl⟩ (sf_in B94 (by decide) (by decide)) rfl (fun h98 T99 F100 e101 => ?_)
        have F102 := F100.cl (ck := ck) T_88.1
        have F103 := F_88.trans (N := 0) (S := 0) F102 (by decide) (by decide) (by decide)
        refine sf_R_iinc pm_M13 (pc_q := 17) (ls_q := fun z => [.ref 36, .int a1, .int z, .int 78]) rfl B94 rfl (by decide) (by decide) (by decide) (fun _ => rfl) rfl (fun z104 e105 B106 => ?_)
        show pm_R _ 13 17 [.ref 36, .int a1, .int z104, .int 78] [] _ _
        refine pm_R_br pm_M13 (pc_q := 5) rfl rfl ?_
        exact ih_88 _ (sf_up hN_88 e105 B94 (by decide) (by decide)) h98 m_88 z104 T99 F103 W_88 (sf_weak B106 (by decide) (by decide)) rfl
  exact L_88 _ h m 0 T (cl_F.refl (ck := ck) (A := [36]) (n := 0) (s := 0) T.1) (rf_W.refl _ _) (sf_weak sf_k0 (by decide) (by decide)) rfl

theorem cl_aux8 (v0 v1 v2 v3 v4 : Int) (q0 : v0 = v1 + v2) (q1 : v3 = v0 * 6) (q2 : v4 = v3 + 6) (q3 : 0 ≤ v1) (q4 : v1 ≤ 66) (q5 : 0 ≤ v2) (q6 : v2 ≤ 11) : v3 ≤ v4 := by omega
set_option maxRecDepth 100000 in
set_option maxHeartbeats 4000000 in
/-- SilentTable$MeaningChart.fillSign -/
theorem cl_c101 {d : Nat} {ck : cl_K} {E : Nat → pm_E} {m : Nat → Int32} {o : Nat → Option Nat} {h : pm_H} {Q : Option Value → pm_H → Prop} {a0 : Nat} {a1 : Int32} {a2 : Int32} (G : cl_G ck E) (T : cl_T ck E m o h) (hk0 : ck a0 = 1) (Ba2 : sf_B 0 11 a2) (K : ∀ (m_q : Nat → Int32) (h_q : pm_H), cl_T ck E m_q o h_q → cl_F ck [32] 0 0 h h_q → rf_W [] m m_q → Q none h_q) : pm_R (d + 2) 101 0 [.ref 31, .ref a0, .int a1, .int a2, pm_no, pm_no, pm_no] [] h Q := by
  refine pm_R_lo pm_M101 (pc_q := 1) rfl rfl rfl ?_
  refine pm_R_lo pm_M101 (pc_q := 2) rfl rfl rfl ?_
  refine pm_R_cs pm_M101 (pc_q := 5) (ra := [.int a2, .int a2]) (rest := []) (ls_q := [.int a2, .int a2]) rfl rfl (Or.inr rfl) pm_M73 rfl rfl (Nat.le_of_ble_eq_true rfl) rfl rfl ?_
  refine pm_R_lo pm_M73 (pc_q := 1) rfl rfl rfl ?_
  refine pm_R_lo pm_M73 (pc_q := 2) rfl rfl rfl ?_
  refine pm_R_op pm_M73 (pc_q := 3) (st_q := [.int 1, .int a2, .int a2]) rfl rfl rfl ?_
  refine sf_R_iadd pm_M73 (pc_q := 4) rfl rfl Ba2 sf_k1 (by decide) (by decide) (fun z1 e2 B3 => ?_)
  refine sf_R_imul pm_M73 (pc_q := 5) rfl rfl Ba2 B3 (by decide) (by decide) (by decide) (fun z4 e5 B6 => ?_)
  refine pm_R_op pm_M73 (pc_q := 6) (st_q := [.int 2, .int z4]) rfl rfl rfl ?_
  refine sf_R_idiv pm_M73 (pc_q := 7) rfl rfl B6 sf_k2 (by decide) (by decide) (fun z7 e8 B9 => ?_)
  refine pm_R_lo pm_M73 (pc_q := 8) rfl rfl rfl ?_
  refine sf_R_iadd pm_M73 (pc_q := 9) rfl rfl B9 Ba2 (by decide) (by decide) (fun z10 e11 B12 => ?_)
  refine pm_R_ret pm_M73 (r := some (.int z10)) rfl (pm_ret_i _) ?_
  show pm_R _ 101 5 [.ref 31, .ref a0, .int a1, .int a2, pm_no, pm_no, pm_no] [.int z10] _ _
  refine pm_R_op pm_M101 (pc_q := 7) (st_q := [.int 6, .int z10]) rfl rfl rfl ?_
  refine sf_R_imul pm_M101 (pc_q := 8) rfl rfl B12 sf_k6 (by decide) (by decide) (by decide) (fun z13 e14 B15 => ?_)
  refine pm_R_lo pm_M101 (pc_q := 10) (ls_q := [.ref 31, .ref a0, .int a1, .int a2, .int z13, pm_no, pm_no]) (st_q := []) rfl rfl rfl ?_
  refine pm_R_lo pm_M101 (pc_q := 11) rfl rfl rfl ?_
  refine pm_R_get pm_M101 (pc_q := 14) (v := .ref 32) rfl rfl T.e31 (by decide) (T.lt (by decide)) rfl rfl ?_
  refine pm_R_lo pm_M101 (pc_q := 16) rfl rfl rfl ?_
  refine pm_R_lo pm_M101 (pc_q := 18) rfl rfl rfl ?_
  refine pm_R_op pm_M101 (pc_q := 20) (st_q := [.int 6, .int z13, .int z13, .ref 32]) rfl rfl rfl ?_
  refine sf_R_iadd pm_M101 (pc_q := 21) rfl rfl B15 sf_k6 (by decide) (by decide) (fun z16 e17 B18 => ?_)
  refine pm_R_op pm_M101 (pc_q := 22) (st_q := [.long 0, .int z16, .int z13, .ref 32]) rfl rfl rfl ?_
  refine pm_R_cs pm_M101 (pc_q := 25) (ra := [.long 0, .int z16, .int z13, .ref 32]) (rest := []) (ls_q := [.ref 32, .int z13, .int z16, .long 0, pm_no, pm_no]) rfl rfl (Or.inl rfl) pm_M102 rfl rfl (Nat.le_of_ble_eq_true rfl) rfl rfl ?_
  refine cl_c102_32 (d := d + 0) G T (sf_weak B15 (by decide) (by decide)) (sf_weak B18 (by decide) (by decide)) (Int32.le_iff_toInt_le.mpr (cl_aux8 _ _ _ _ _ e11 e14 e17 B9.1 B9.2 Ba2.1 Ba2.2)) (fun m21 h22 T23 F24 W25 => ?_)
  have F26 := (cl_F.refl (ck := ck) (A := [32]) (n := 0) (s := 0) T.1).trans (N := 0) (S := 0) F24 (by decide) (by decide) (by decide)
  have W27 : rf_W [] m m21 := (rf_W.refl [] m).trans W25 (by decide)
  show pm_R _ 101 25 [.ref 31, .ref a0, .int a1, .int a2, .int z13, pm_no, pm_no] [] _ _
  refine pm_R_op pm_M101 (pc_q := 26) (st_q := [.int 0]) rfl rfl rfl ?_
  refine pm_R_lo pm_M101 (pc_q := 28) (ls_q := [.ref 31, .ref a0, .int a1, .int a2, .int z13, .int 0, pm_no]) (st_q := []) rfl rfl rfl ?_
  have L_1497 : ∀ (N : Nat) (h_1497 : pm_H) (m_1497 : Nat → Int32) (x5_1497 : Int32) (g6_1497 : Value), cl_T ck E m_1497 o h_1497 → cl_F ck [32] 0 0 h h_1497 → rf_W [] m21 m_1497 → sf_B 0 10 x5_1497 → g6_1497.category = 1 → (10 - x5_1497.toInt).toNat = N → pm_R (d + 2) 101 28 [.ref 31, .ref a0, .int a1, .int a2, .int z13, .int x5_1497, g6_1497] [] h_1497 Q := by
    intro N
    induction N using Nat.strongRecOn with
    | ind N ih_1497 =>
      intro h_1497 m_1497 x5_1497 g6_1497 T_1497 F_1497 W_1497 Bx5_1497 Cg6_1497 hN_1497
      have W1500 : rf_W [] m m_1497 := W27.trans W_1497 (by decide)
      refine pm_R_lo pm_M101 (pc_q := 30) rfl rfl rfl ?_
      refine pm_R_op pm_M101 (pc_q := 32) (st_q := [.int 10, .int x5_1497]) rfl rfl rfl ?_
      refine pm_R_icmp pm_M101 (t := 92) (pc_q := 35) rfl rfl rfl (fun c1501 => ?_) (fun c1501 => ?_)
      · have B1502 : sf_B 10 10 x5_1497 := sf_leR c1501 sf_k10 Bx5_1497
        exact pm_R_ret pm_M101 (r := none) rfl rfl (K m_1497 h_1497 T_1497 F_1497 W1500)
      · have B1503 : sf_B 0 9 x5_1497 := sf_ltL (Int32.not_le.mp c1501) Bx5_1497 sf_k10
        refine pm_R_lo pm_M101 (pc_q := 36) rfl rfl rfl ?_
        refine pm_R_lo pm_M101 (pc_q := 38) rfl rfl rfl ?_
        refine sf_R_iany pm_M101 (pc_q := 39) (st := []) rfl rfl rfl (fun z1507 => ?_)
        refine pm_R_op pm_M101 (pc_q := 40) (st_q := [.int 1, .int z1507]) rfl rfl rfl ?_
        refine sf_R_iandE pm_M101 (pc_q := 41) rfl rfl sf_k1 (by decide) (fun z1508 e1509 B1510 => ?_)
        refine pm_R_ifc pm_M101 (t := 86) (pc_q := 44) rfl rfl rfl (fun c1511 => ?_) (fun c1511 => ?_)
        · have B1512 : sf_B 0 0 z1508 := sf_eqL c1511 sf_k0
          refine sf_R_iinc pm_M101 (pc_q := 89) (ls_q := fun z => [.ref 31, .ref a0, .int a1, .int a2, .int z13, .int z, g6_1497]) rfl B1503 rfl (by decide) (by decide) (by decide) (fun _ => rfl) rfl (fun z1513 e1514 B1515 => ?_)
          show pm_R _ 101 89 [.ref 31, .ref a0, .int a1, .int a2, .int z13, .int z1513, g6_1497] [] _ _
          refine pm_R_br pm_M101 (pc_q := 28) rfl rfl ?_
          exact ih_1497 _ (sf_up hN_1497 e1514 B1503 (by decide) (by decide)) h_1497 m_1497 z1513 (g6_1497) T_1497 F_1497 W_1497 (sf_weak B1515 (by decide) (by decide)) Cg6_1497 rfl
        · have B1516 : sf_B 1 1 z1508 := sf_neL0 c1511 sf_k0 B1510
          refine pm_R_op pm_M101 (pc_q := 45) (st_q := [.int 0]) rfl rfl rfl ?_
          refine pm_R_lo pm_M101 (pc_q := 47) (ls_q := [.ref 31, .ref a0, .int a1, .int a2, .int z13, .int x5_1497, .int 0]) (st_q := []) rfl rfl rfl ?_
          have L_1792 : ∀ (N : Nat) (h_1792 : pm_H) (m_1792 : Nat → Int32) (x6_1792 : Int32), cl_T ck E m_1792 o h_1792 → cl_F ck [32] 0 0 h h_1792 → rf_W [] m_1497 m_1792 → sf_B 0 6 x6_1792 → (6 - x6_1792.toInt).toNat = N → pm_R (d + 2) 101 47 [.ref 31, .ref a0, .int a1, .int a2, .int z13, .int x5_1497, .int x6_1792] [] h_1792 Q := by
            intro N
            induction N using Nat.strongRecOn with
            | ind N ih_1792 =>
              intro h_1792 m_1792 x6_1792 T_1792 F_1792 W_1792 Bx6_1792 hN_1792
              have W1795 : rf_W [] m m_1792 := W1500.trans W_1792 (by decide)
              have W1796 : rf_W [] m21 m_1792 := W_1497.trans W_1792 (by decide)
              refine pm_R_lo pm_M101 (pc_q := 49) rfl rfl rfl ?_
              refine pm_R_op pm_M101 (pc_q := 51) (st_q := [.int 6, .int x6_1792]) rfl rfl rfl ?_
              refine pm_R_icmp pm_M101 (t := 86) (pc_q := 54) rfl rfl rfl (fun c1797 => ?_) (fun c1797 => ?_)
              · have B1798 : sf_B 6 6 x6_1792 := sf_leR c1797 sf_k6 Bx6_1792
                refine sf_R_iinc pm_M101 (pc_q := 89) (ls_q := fun z => [.ref 31, .ref a0, .int a1, .int a2, .int z13, .int z, .int x6_1792]) rfl B1503 rfl (by decide) (by decide) (by decide) (fun _ => rfl) rfl (fun z1799 e1800 B1801 => ?_)
                show pm_R _ 101 89 [.ref 31, .ref a0, .int a1, .int a2, .int z13, .int z1799, .int x6_1792] [] _ _
                refine pm_R_br pm_M101 (pc_q := 28) rfl rfl ?_
                exact ih_1497 _ (sf_up hN_1497 e1800 B1503 (by decide) (by decide)) h_1792 m_1792 z1799 (.int x6_1792) T_1792 F_1792 W1796 (sf_weak B1801 (by decide) (by decide)) rfl rfl
              · have B1802 : sf_B 0 5 x6_1792 := sf_ltL (Int32.not_le.mp c1797) Bx6_1792 sf_k6
                refine pm_R_lo pm_M101 (pc_q := 55) rfl rfl rfl ?_
                refine pm_R_get pm_M101 (pc_q := 58) (v := .ref 32) rfl rfl T_1792.e31 (by decide) (T_1792.lt (by decide)) rfl rfl ?_
                refine pm_R_lo pm_M101 (pc_q := 60) rfl rfl rfl ?_
                refine pm_R_lo pm_M101 (pc_q := 62) rfl rfl rfl ?_
                refine sf_R_iadd pm_M101 (pc_q := 63) rfl rfl B15 B1802 (by decide) (by decide) (fun z1803 e1804 B1805 => ?_)
                refine pm_R_op pm_M101 (pc_q := 64) (st_q := [.int z1803, .ref 32, .int z1803, .ref 32]) rfl rfl rfl ?_
                obtain ⟨f1809, e1810⟩ := T_1792.C 32 (by decide) (by decide)
                obtain ⟨z1806, ez1807⟩ : ∃ y, f1809 (Int32.toNatClampNeg z1803) = y := ⟨_, rfl⟩
                refine pm_R_lald pm_M101 (pc_q := 65) (v := z1806) rfl e1810 (by decide) (T_1792.lt (by decide)) (sf_in B1805 (by decide) (by decide)) ez1807 rfl ?_
                refine pm_R_lo pm_M101 (pc_q := 66) rfl rfl rfl ?_
                obtain ⟨rc1812, tc1813, rs1814, fv1815, fw1816, fr1817, ft1818, fn1819, h1820, h1821, B1822, eE1823, eE1824, eE1825, eE1826, eE1827, eE1828, b1829, b1830, b1831⟩ := (G.2.1 a0 hk0).2.2.2.2.2
                have kq1832 := G.2.1 a0 hk0
                refine pm_R_get pm_M101 (pc_q := 69) (v := .ref (a0 + 1)) rfl rfl (T_1792.im hk0 (by decide) (by decide) eE1823) (G.ge hk0 (by decide)) (T_1792.al hk0 (by decide)) rfl rfl ?_
                refine pm_R_lo pm_M101 (pc_q := 71) rfl rfl rfl ?_
                refine pm_R_op pm_M101 (pc_q := 73) (st_q := [.int 6, .int x5_1497, .ref (a0 + 1), .long z1806, .int z1803, .ref 32]) rfl rfl rfl ?_
                refine sf_R_imul pm_M101 (pc_q := 74) rfl rfl B1503 sf_k6 (by decide) (by decide) (by decide) (fun z1833 e1834 B1835 => ?_)
                refine pm_R_lo pm_M101 (pc_q := 76) rfl rfl rfl ?_
                refine sf_R_iadd pm_M101 (pc_q := 77) rfl rfl B1835 B1802 (by decide) (by decide) (fun z1836 e1837 B1838 => ?_)
                obtain ⟨z1839, ez1840⟩ : ∃ y, fv1815 (Int32.toNatClampNeg z1836) = y := ⟨_, rfl⟩
                refine pm_R_lald pm_M101 (pc_q := 78) (v := z1839) rfl (T_1792.im kq1832.1 (by decide) (by decide) eE1824) (G.ge kq1832.1 (by decide)) (T_1792.al kq1832.1 (by decide)) (sf_in B1838 (by decide) (by decide)) ez1840 rfl ?_
                refine sf_R_lany pm_M101 (pc_q := 79) (st := [.int z1803, .ref 32]) rfl rfl rfl (fun z1842 => ?_)
                refine cl_R_lst G pm_M101 T_1792 (pc_q := 80) rfl e1810 (by decide) ⟨_, rfl⟩ (sf_in B1805 (by decide) (by decide)) rfl (fun h1843 T1844 F1845 e1846 => ?_)
                have F1847 := F1845.cl (ck := ck) T_1792.1
                have F1848 := F_1792.trans (N := 0) (S := 0) F1847 (by decide) (by decide) (by decide)
                refine sf_R_iinc pm_M101 (pc_q := 83) (ls_q := fun z => [.ref 31, .ref a0, .int a1, .int a2, .int z13, .int x5_1497, .int z]) rfl B1802 rfl (by decide) (by decide) (by decide) (fun _ => rfl) rfl (fun z1849 e1850 B1851 => ?_)
                show pm_R _ 101 83 [.ref 31, .ref a0, .int a1, .int a2, .int z13, .int x5_1497, .int z1849] [] _ _
                refine pm_R_br pm_M101 (pc_q := 47) rfl rfl ?_
                exact ih_1792 _ (sf_up hN_1792 e1850 B1802 (by decide) (by decide)) h1843 m_1792 z1849 T1844 F1848 W_1792 (sf_weak B1851 (by decide) (by decide)) rfl
          exact L_1792 _ h_1497 m_1497 0 T_1497 F_1497 (rf_W.refl _ _) (sf_weak sf_k0 (by decide) (by decide)) rfl
  exact L_1497 _ h22 m21 0 (pm_no) T23 F26 (rf_W.refl _ _) (sf_weak sf_k0 (by decide) (by decide)) rfl rfl

theorem cl_aux9 (v0 v1 v2 : Int) (q0 : v0 = v1 * 4) (q1 : v2 = v0 + 3) : v2 = 4 * v1 + 3 := by omega
set_option maxRecDepth 100000 in
set_option maxHeartbeats 4000000 in
/-- SilentTable$MeaningChart.fillPart -/
theorem cl_c103 {d : Nat} {ck : cl_K} {E : Nat → pm_E} {m : Nat → Int32} {o : Nat → Option Nat} {h : pm_H} {Q : Option Value → pm_H → Prop} {a0 : Nat} {a1 : Int32} {a2 : Int32} (G : cl_G ck E) (T : cl_T ck E m o h) (hk0 : ck a0 = 1) (Ba1 : sf_B 0 11 a1) (Ba2 : sf_B 0 11 a2) (K : ∀ (m_q : Nat → Int32) (h_q : pm_H), cl_T ck E m_q o h_q → cl_F ck [32] 0 0 h h_q → rf_W [] m m_q → Q none h_q) : pm_R (d + 2) 103 0 [.ref 31, .ref a0, .int a1, .int a2, pm_no, pm_no, pm_no, pm_no, pm_no, pm_no, pm_no, pm_no, pm_no, pm_no] [] h Q := by
  refine pm_R_lo pm_M103 (pc_q := 1) rfl rfl rfl ?_
  refine pm_R_lo pm_M103 (pc_q := 2) rfl rfl rfl ?_
  refine pm_R_cs pm_M103 (pc_q := 5) (ra := [.int a2, .int a1]) (rest := []) (ls_q := [.int a1, .int a2]) rfl rfl (Or.inr rfl) pm_M73 rfl rfl (Nat.le_of_ble_eq_true rfl) rfl rfl ?_
  refine pm_R_lo pm_M73 (pc_q := 1) rfl rfl rfl ?_
  refine pm_R_lo pm_M73 (pc_q := 2) rfl rfl rfl ?_
  refine pm_R_op pm_M73 (pc_q := 3) (st_q := [.int 1, .int a2, .int a2]) rfl rfl rfl ?_
  refine sf_R_iadd pm_M73 (pc_q := 4) rfl rfl Ba2 sf_k1 (by decide) (by decide) (fun z1 e2 B3 => ?_)
  refine sf_R_imul pm_M73 (pc_q := 5) rfl rfl Ba2 B3 (by decide) (by decide) (by decide) (fun z4 e5 B6 => ?_)
  refine pm_R_op pm_M73 (pc_q := 6) (st_q := [.int 2, .int z4]) rfl rfl rfl ?_
  refine sf_R_idiv pm_M73 (pc_q := 7) rfl rfl B6 sf_k2 (by decide) (by decide) (fun z7 e8 B9 => ?_)
  refine pm_R_lo pm_M73 (pc_q := 8) rfl rfl rfl ?_
  refine sf_R_iadd pm_M73 (pc_q := 9) rfl rfl B9 Ba1 (by decide) (by decide) (fun z10 e11 B12 => ?_)
  refine pm_R_ret pm_M73 (r := some (.int z10)) rfl (pm_ret_i _) ?_
  show pm_R _ 103 5 [.ref 31, .ref a0, .int a1, .int a2, pm_no, pm_no, pm_no, pm_no, pm_no, pm_no, pm_no, pm_no, pm_no, pm_no] [.int z10] _ _
  refine pm_R_op pm_M103 (pc_q := 7) (st_q := [.int 6, .int z10]) rfl rfl rfl ?_
  refine sf_R_imul pm_M103 (pc_q := 8) rfl rfl B12 sf_k6 (by decide) (by decide) (by decide) (fun z13 e14 B15 => ?_)
  refine pm_R_lo pm_M103 (pc_q := 10) (ls_q := [.ref 31, .ref a0, .int a1, .int a2, .int z13, pm_no, pm_no, pm_no, pm_no, pm_no, pm_no, pm_no, pm_no, pm_no]) (st_q := []) rfl rfl rfl ?_
  refine pm_R_lo pm_M103 (pc_q := 11) rfl rfl rfl ?_
  refine pm_R_get pm_M103 (pc_q := 14) (v := .ref 32) rfl rfl T.e31 (by decide) (T.lt (by decide)) rfl rfl ?_
  refine pm_R_lo pm_M103 (pc_q := 16) rfl rfl rfl ?_
  refine pm_R_lo pm_M103 (pc_q := 18) rfl rfl rfl ?_
  refine pm_R_op pm_M103 (pc_q := 20) (st_q := [.int 6, .int z13, .int z13, .ref 32]) rfl rfl rfl ?_
  refine sf_R_iadd pm_M103 (pc_q := 21) rfl rfl B15 sf_k6 (by decide) (by decide) (fun z16 e17 B18 => ?_)
  refine pm_R_op pm_M103 (pc_q := 22) (st_q := [.long 0, .int z16, .int z13, .ref 32]) rfl rfl rfl ?_
  refine pm_R_cs pm_M103 (pc_q := 25) (ra := [.long 0, .int z16, .int z13, .ref 32]) (rest := []) (ls_q := [.ref 32, .int z13, .int z16, .long 0, pm_no, pm_no]) rfl rfl (Or.inl rfl) pm_M102 rfl rfl (Nat.le_of_ble_eq_true rfl) rfl rfl ?_
  refine cl_c102_32 (d := d + 0) G T (sf_weak B15 (by decide) (by decide)) (sf_weak B18 (by decide) (by decide)) (Int32.le_iff_toInt_le.mpr (cl_aux8 _ _ _ _ _ e11 e14 e17 B9.1 B9.2 Ba1.1 Ba1.2)) (fun m21 h22 T23 F24 W25 => ?_)
  have F26 := (cl_F.refl (ck := ck) (A := [32]) (n := 0) (s := 0) T.1).trans (N := 0) (S := 0) F24 (by decide) (by decide) (by decide)
  have W27 : rf_W [] m m21 := (rf_W.refl [] m).trans W25 (by decide)
  show pm_R _ 103 25 [.ref 31, .ref a0, .int a1, .int a2, .int z13, pm_no, pm_no, pm_no, pm_no, pm_no, pm_no, pm_no, pm_no, pm_no] [] _ _
  refine pm_R_lo pm_M103 (pc_q := 26) rfl rfl rfl ?_
  refine pm_R_lo pm_M103 (pc_q := 28) (ls_q := [.ref 31, .ref a0, .int a1, .int a2, .int z13, .int a1, pm_no, pm_no, pm_no, pm_no, pm_no, pm_no, pm_no, pm_no]) (st_q := []) rfl rfl rfl ?_
  have L_2774 : ∀ (N : Nat) (h_2774 : pm_H) (m_2774 : Nat → Int32) (x5_2774 : Int32) (g6_2774 : Value) (g7_2774 : Value) (g8_2774 : Value) (g9_2774 : Value) (g10_2774 : Value) (g11_2774 : Value) (g12_2774 : Value) (g13_2774 : Value), cl_T ck E m_2774 o h_2774 → cl_F ck [32] 0 0 h h_2774 → rf_W [] m21 m_2774 → sf_B 0 11 x5_2774 → g6_2774.category = 1 → g7_2774.category = 1 → g8_2774.category = 1 → g10_2774.category = 1 → g12_2774.category = 1 → g13_2774.category = 1 → (11 - x5_2774.toInt).toNat = N → pm_R (d + 2) 103 28 [.ref 31, .ref a0, .int a1, .int a2, .int z13, .int x5_2774, g6_2774, g7_2774, g8_2774, g9_2774, g10_2774, g11_2774, g12_2774, g13_2774] [] h_2774 Q := by
    intro N
    induction N using Nat.strongRecOn with
    | ind N ih_2774 =>
      intro h_2774 m_2774 x5_2774 g6_2774 g7_2774 g8_2774 g9_2774 g10_2774 g11_2774 g12_2774 g13_2774 T_2774 F_2774 W_2774 Bx5_2774 Cg6_2774 Cg7_2774 Cg8_2774 Cg10_2774 Cg12_2774 Cg13_2774 hN_2774
      have W2777 : rf_W [] m m_2774 := W27.trans W_2774 (by decide)
      refine pm_R_lo pm_M103 (pc_q := 30) rfl rfl rfl ?_
      refine pm_R_lo pm_M103 (pc_q := 31) rfl rfl rfl ?_
      refine pm_R_icmp pm_M103 (t := 194) (pc_q := 34) rfl rfl rfl (fun c2778 => ?_) (fun c2778 => ?_)
      · skip
        exact pm_R_ret pm_M103 (r := none) (pm_q103_1 (Nat.le_of_ble_eq_true rfl)) rfl (K m_2774 h_2774 T_2774 F_2774 W2777)
      · have B2779 : sf_B 0 10 x5_2774 := sf_ltL (Int32.not_le.mp c2778) Bx5_2774 Ba2
        have B2780 : sf_B 1 11 a2 := sf_ltR (Int32.not_le.mp c2778) Bx5_2774 Ba2
        refine pm_R_lo pm_M103 (pc_q := 35) rfl rfl rfl ?_
        refine pm_R_lo pm_M103 (pc_q := 37) rfl rfl rfl ?_
        refine pm_R_cs pm_M103 (pc_q := 40) (ra := [.int x5_2774, .int a1]) (rest := []) (ls_q := [.int a1, .int x5_2774]) rfl rfl (Or.inr rfl) pm_M73 rfl rfl (Nat.le_of_ble_eq_true rfl) rfl rfl ?_
        refine pm_R_lo pm_M73 (pc_q := 1) rfl rfl rfl ?_
        refine pm_R_lo pm_M73 (pc_q := 2) rfl rfl rfl ?_
        refine pm_R_op pm_M73 (pc_q := 3) (st_q := [.int 1, .int x5_2774, .int x5_2774]) rfl rfl rfl ?_
        refine sf_R_iadd pm_M73 (pc_q := 4) rfl rfl B2779 sf_k1 (by decide) (by decide) (fun z2781 e2782 B2783 => ?_)
        refine sf_R_imul pm_M73 (pc_q := 5) rfl rfl B2779 B2783 (by decide) (by decide) (by decide) (fun z2784 e2785 B2786 => ?_)
        refine pm_R_op pm_M73 (pc_q := 6) (st_q := [.int 2, .int z2784]) rfl rfl rfl ?_
        refine sf_R_idiv pm_M73 (pc_q := 7) rfl rfl B2786 sf_k2 (by decide) (by decide) (fun z2787 e2788 B2789 => ?_)
        refine pm_R_lo pm_M73 (pc_q := 8) rfl rfl rfl ?_
        refine sf_R_iadd pm_M73 (pc_q := 9) rfl rfl B2789 Ba1 (by decide) (by decide) (fun z2790 e2791 B2792 => ?_)
        refine pm_R_ret pm_M73 (r := some (.int z2790)) rfl (pm_ret_i _) ?_
        show pm_R _ 103 40 [.ref 31, .ref a0, .int a1, .int a2, .int z13, .int x5_2774, g6_2774, g7_2774, g8_2774, g9_2774, g10_2774, g11_2774, g12_2774, g13_2774] [.int z2790] _ _
        refine pm_R_op pm_M103 (pc_q := 42) (st_q := [.int 6, .int z2790]) rfl rfl rfl ?_
        refine sf_R_imul pm_M103 (pc_q := 43) rfl rfl B2792 sf_k6 (by decide) (by decide) (by decide) (fun z2793 e2794 B2795 => ?_)
        refine pm_R_lo pm_M103 (pc_q := 45) (ls_q := [.ref 31, .ref a0, .int a1, .int a2, .int z13, .int x5_2774, .int z2793, g7_2774, g8_2774, g9_2774, g10_2774, g11_2774, g12_2774, g13_2774]) (st_q := []) rfl rfl rfl ?_
        refine pm_R_lo pm_M103 (pc_q := 47) rfl rfl rfl ?_
        refine pm_R_op pm_M103 (pc_q := 48) (st_q := [.int 1, .int x5_2774]) rfl rfl rfl ?_
        refine sf_R_iaddV pm_M103 (pc_q := 49) rfl rfl B2779 sf_k1 (by decide) (by decide) e2782 ?_
        refine pm_R_lo pm_M103 (pc_q := 50) rfl rfl rfl ?_
        refine pm_R_cs pm_M103 (pc_q := 53) (ra := [.int a2, .int z2781]) (rest := []) (ls_q := [.int z2781, .int a2]) rfl rfl (Or.inr rfl) pm_M73 rfl rfl (Nat.le_of_ble_eq_true rfl) rfl rfl ?_
        refine pm_R_lo pm_M73 (pc_q := 1) rfl rfl rfl ?_
        refine pm_R_lo pm_M73 (pc_q := 2) rfl rfl rfl ?_
        refine pm_R_op pm_M73 (pc_q := 3) (st_q := [.int 1, .int a2, .int a2]) rfl rfl rfl ?_
        refine sf_R_iaddV pm_M73 (pc_q := 4) rfl rfl Ba2 sf_k1 (by decide) (by decide) e2 ?_
        refine sf_R_imulV pm_M73 (pc_q := 5) rfl rfl Ba2 B3 (by decide) (by decide) (by decide) e5 ?_
        refine pm_R_op pm_M73 (pc_q := 6) (st_q := [.int 2, .int z4]) rfl rfl rfl ?_
        refine sf_R_idiv pm_M73 (pc_q := 7) rfl rfl B6 sf_k2 (by decide) (by decide) (fun z2796 e2797 B2798 => ?_)
        refine pm_R_lo pm_M73 (pc_q := 8) rfl rfl rfl ?_
        refine sf_R_iadd pm_M73 (pc_q := 9) rfl rfl B2798 B2783 (by decide) (by decide) (fun z2799 e2800 B2801 => ?_)
        refine pm_R_ret pm_M73 (r := some (.int z2799)) rfl (pm_ret_i _) ?_
        show pm_R _ 103 53 [.ref 31, .ref a0, .int a1, .int a2, .int z13, .int x5_2774, .int z2793, g7_2774, g8_2774, g9_2774, g10_2774, g11_2774, g12_2774, g13_2774] [.int z2799] _ _
        refine pm_R_op pm_M103 (pc_q := 55) (st_q := [.int 6, .int z2799]) rfl rfl rfl ?_
        refine sf_R_imul pm_M103 (pc_q := 56) rfl rfl B2801 sf_k6 (by decide) (by decide) (by decide) (fun z2802 e2803 B2804 => ?_)
        refine pm_R_lo pm_M103 (pc_q := 58) (ls_q := [.ref 31, .ref a0, .int a1, .int a2, .int z13, .int x5_2774, .int z2793, .int z2802, g8_2774, g9_2774, g10_2774, g11_2774, g12_2774, g13_2774]) (st_q := []) rfl rfl rfl ?_
        refine pm_R_op pm_M103 (pc_q := 59) (st_q := [.int 0]) rfl rfl rfl ?_
        refine pm_R_lo pm_M103 (pc_q := 61) (ls_q := [.ref 31, .ref a0, .int a1, .int a2, .int z13, .int x5_2774, .int z2793, .int z2802, .int 0, g9_2774, g10_2774, g11_2774, g12_2774, g13_2774]) (st_q := []) rfl rfl rfl ?_
        have L_4140 : ∀ (N : Nat) (h_4140 : pm_H) (m_4140 : Nat → Int32) (x8_4140 : Int32) (g9_4140 : Value) (g10_4140 : Value) (g11_4140 : Value) (g12_4140 : Value) (g13_4140 : Value), cl_T ck E m_4140 o h_4140 → cl_F ck [32] 0 0 h h_4140 → rf_W [] m_2774 m_4140 → sf_B 0 10 x8_4140 → g10_4140.category = 1 → g12_4140.category = 1 → g13_4140.category = 1 → (10 - x8_4140.toInt).toNat = N → pm_R (d + 2) 103 61 [.ref 31, .ref a0, .int a1, .int a2, .int z13, .int x5_2774, .int z2793, .int z2802, .int x8_4140, g9_4140, g10_4140, g11_4140, g12_4140, g13_4140] [] h_4140 Q := by
          intro N
          induction N using Nat.strongRecOn with
          | ind N ih_4140 =>
            intro h_4140 m_4140 x8_4140 g9_4140 g10_4140 g11_4140 g12_4140 g13_4140 T_4140 F_4140 W_4140 Bx8_4140 Cg10_4140 Cg12_4140 Cg13_4140 hN_4140
            have W4143 : rf_W [] m m_4140 := W2777.trans W_4140 (by decide)
            have W4144 : rf_W [] m21 m_4140 := W_2774.trans W_4140 (by decide)
            refine pm_R_lo pm_M103 (pc_q := 63) rfl rfl rfl ?_
            refine pm_R_lo pm_M103 (pc_q := 64) rfl rfl rfl ?_
            obtain ⟨rc4145, tc4146, rs4147, fv4148, fw4149, fr4150, ft4151, fn4152, h4153, h4154, B4155, eE4156, eE4157, eE4158, eE4159, eE4160, eE4161, b4162, b4163, b4164⟩ := (G.2.1 a0 hk0).2.2.2.2.2
            have kq4165 := G.2.1 a0 hk0
            refine pm_R_get pm_M103 (pc_q := 67) (v := .int (Int32.ofNat rc4145)) rfl rfl (T_4140.im hk0 (by decide) (by decide) eE4156) (G.ge hk0 (by decide)) (T_4140.al hk0 (by decide)) rfl rfl ?_
            refine pm_R_icmp pm_M103 (t := 188) (pc_q := 70) rfl rfl rfl (fun c4166 => ?_) (fun c4166 => ?_)
            · skip
              refine sf_R_iinc pm_M103 (pc_q := 191) (ls_q := fun z => [.ref 31, .ref a0, .int a1, .int a2, .int z13, .int z, .int z2793, .int z2802, .int x8_4140, g9_4140, g10_4140, g11_4140, g12_4140, g13_4140]) (pm_q103_1 (Nat.le_of_ble_eq_true rfl)) B2779 rfl (by decide) (by decide) (by decide) (fun _ => rfl) rfl (fun z4167 e4168 B4169 => ?_)
              show pm_R _ 103 191 [.ref 31, .ref a0, .int a1, .int a2, .int z13, .int z4167, .int z2793, .int z2802, .int x8_4140, g9_4140, g10_4140, g11_4140, g12_4140, g13_4140] [] _ _
              refine pm_R_br pm_M103 (pc_q := 28) (pm_q103_1 (Nat.le_of_ble_eq_true rfl)) rfl ?_
              exact ih_2774 _ (sf_up hN_2774 e4168 B2779 (by decide) (by decide)) h_4140 m_4140 z4167 (.int z2793) (.int z2802) (.int x8_4140) (g9_4140) (g10_4140) (g11_4140) (g12_4140) (g13_4140) T_4140 F_4140 W4144 (sf_weak B4169 (by decide) (by decide)) rfl rfl rfl Cg10_4140 Cg12_4140 Cg13_4140 rfl
            · have B4170 : sf_B 0 9 x8_4140 := sf_ltL (Int32.not_le.mp c4166) Bx8_4140 (sf_ofB h4153 (by decide))
              have B4171 : sf_B 1 10 (Int32.ofNat rc4145) := sf_ltR (Int32.not_le.mp c4166) Bx8_4140 (sf_ofB h4153 (by decide))
              refine pm_R_lo pm_M103 (pc_q := 71) rfl rfl rfl ?_
              refine pm_R_get pm_M103 (pc_q := 74) (v := .ref 32) rfl rfl T_4140.e31 (by decide) (T_4140.lt (by decide)) rfl rfl ?_
              refine pm_R_lo pm_M103 (pc_q := 76) rfl rfl rfl ?_
              refine pm_R_lo pm_M103 (pc_q := 77) rfl rfl rfl ?_
              refine pm_R_get pm_M103 (pc_q := 80) (v := .ref (a0 + 3)) rfl rfl (T_4140.im hk0 (by decide) (by decide) eE4156) (G.ge hk0 (by decide)) (T_4140.al hk0 (by decide)) rfl rfl ?_
              refine pm_R_lo pm_M103 (pc_q := 82) rfl rfl rfl ?_
              refine pm_R_op pm_M103 (pc_q := 83) (st_q := [.int 4, .int x8_4140, .ref (a0 + 3), .int z2793, .ref 32]) rfl rfl rfl ?_
              refine sf_R_imul pm_M103 (pc_q := 84) rfl rfl B4170 sf_k4 (by decide) (by decide) (by decide) (fun z4172 e4173 B4174 => ?_)
              refine pm_R_op pm_M103 (pc_q := 85) (st_q := [.int 1, .int z4172, .ref (a0 + 3), .int z2793, .ref 32]) rfl rfl rfl ?_
              refine sf_R_iadd pm_M103 (pc_q := 86) rfl rfl B4174 sf_k1 (by decide) (by decide) (fun z4175 e4176 B4177 => ?_)
              have q4181 := cl_in4 (n := rc4145) (Nat.le_trans h4153 (by decide)) (Int32.not_le.mp c4166) (cl_aux7 _ _ _ e4173 e4176) B4170 (by decide) (by decide)
              obtain ⟨z4178, ez4179⟩ : ∃ y, fr4150 (Int32.toNatClampNeg z4175) = y := ⟨_, rfl⟩
              have B4180 : sf_B 0 5 z4178 := ez4179 ▸ q4181.2.2 ▸ (b4162 _ q4181.2.1).2.1
              refine pm_R_iald pm_M103 (pc_q := 87) (v := z4178) rfl (T_4140.im kq4165.2.2.1 (by decide) (by decide) eE4159) (T_4140.al kq4165.2.2.1 (by decide)) q4181.1 ez4179 rfl ?_
              refine sf_R_iadd pm_M103 (pc_q := 88) rfl rfl B2795 B4180 (by decide) (by decide) (fun z4182 e4183 B4184 => ?_)
              obtain ⟨f4188, e4189⟩ := T_4140.C 32 (by decide) (by decide)
              obtain ⟨z4185, ez4186⟩ : ∃ y, f4188 (Int32.toNatClampNeg z4182) = y := ⟨_, rfl⟩
              refine pm_R_lald pm_M103 (pc_q := 89) (v := z4185) rfl e4189 (by decide) (T_4140.lt (by decide)) (sf_in B4184 (by decide) (by decide)) ez4186 rfl ?_
              refine pm_R_lo pm_M103 (pc_q := 91) (ls_q := [.ref 31, .ref a0, .int a1, .int a2, .int z13, .int x5_2774, .int z2793, .int z2802, .int x8_4140, .long z4185, pm_no, g11_4140, g12_4140, g13_4140]) (st_q := []) rfl rfl rfl ?_
              refine pm_R_lo pm_M103 (pc_q := 92) rfl rfl rfl ?_
              refine pm_R_get pm_M103 (pc_q := 95) (v := .ref 32) rfl rfl T_4140.e31 (by decide) (T_4140.lt (by decide)) rfl rfl ?_
              refine pm_R_lo pm_M103 (pc_q := 97) rfl rfl rfl ?_
              refine pm_R_lo pm_M103 (pc_q := 98) rfl rfl rfl ?_
              refine pm_R_get pm_M103 (pc_q := 101) (v := .ref (a0 + 3)) rfl rfl (T_4140.im hk0 (by decide) (by decide) eE4156) (G.ge hk0 (by decide)) (T_4140.al hk0 (by decide)) rfl rfl ?_
              refine pm_R_lo pm_M103 (pc_q := 103) rfl rfl rfl ?_
              refine pm_R_op pm_M103 (pc_q := 104) (st_q := [.int 4, .int x8_4140, .ref (a0 + 3), .int z2802, .ref 32]) rfl rfl rfl ?_
              refine sf_R_imulV pm_M103 (pc_q := 105) (pm_q103_1 (Nat.le_of_ble_eq_true rfl)) rfl B4170 sf_k4 (by decide) (by decide) (by decide) e4173 ?_
              refine pm_R_op pm_M103 (pc_q := 106) (st_q := [.int 2, .int z4172, .ref (a0 + 3), .int z2802, .ref 32]) (pm_q103_1 (Nat.le_of_ble_eq_true rfl)) rfl rfl ?_
              refine sf_R_iadd pm_M103 (pc_q := 107) (pm_q103_1 (Nat.le_of_ble_eq_true rfl)) rfl B4174 sf_k2 (by decide) (by decide) (fun z4191 e4192 B4193 => ?_)
              have q4197 := cl_in4 (n := rc4145) (Nat.le_trans h4153 (by decide)) (Int32.not_le.mp c4166) (cl_aux6 _ _ _ e4173 e4192) B4170 (by decide) (by decide)
              obtain ⟨z4194, ez4195⟩ : ∃ y, fr4150 (Int32.toNatClampNeg z4191) = y := ⟨_, rfl⟩
              have B4196 : sf_B 0 5 z4194 := ez4195 ▸ q4197.2.2 ▸ (b4162 _ q4197.2.1).2.2
              refine pm_R_iald pm_M103 (pc_q := 108) (v := z4194) (pm_q103_1 (Nat.le_of_ble_eq_true rfl)) (T_4140.im kq4165.2.2.1 (by decide) (by decide) eE4159) (T_4140.al kq4165.2.2.1 (by decide)) q4197.1 ez4195 rfl ?_
              refine sf_R_iadd pm_M103 (pc_q := 109) (pm_q103_1 (Nat.le_of_ble_eq_true rfl)) rfl B2804 B4196 (by decide) (by decide) (fun z4198 e4199 B4200 => ?_)
              obtain ⟨z4201, ez4202⟩ : ∃ y, f4188 (Int32.toNatClampNeg z4198) = y := ⟨_, rfl⟩
              refine pm_R_lald pm_M103 (pc_q := 110) (v := z4201) (pm_q103_1 (Nat.le_of_ble_eq_true rfl)) e4189 (by decide) (T_4140.lt (by decide)) (sf_in B4200 (by decide) (by decide)) ez4202 rfl ?_
              refine pm_R_lo pm_M103 (pc_q := 112) (ls_q := [.ref 31, .ref a0, .int a1, .int a2, .int z13, .int x5_2774, .int z2793, .int z2802, .int x8_4140, .long z4185, pm_no, .long z4201, pm_no, g13_4140]) (st_q := []) (pm_q103_1 (Nat.le_of_ble_eq_true rfl)) rfl rfl ?_
              refine pm_R_lo pm_M103 (pc_q := 114) (pm_q103_1 (Nat.le_of_ble_eq_true rfl)) rfl rfl ?_
              refine pm_R_lo pm_M103 (pc_q := 115) (pm_q103_1 (Nat.le_of_ble_eq_true rfl)) rfl rfl ?_
              refine pm_R_get pm_M103 (pc_q := 118) (v := .ref (a0 + 3)) (pm_q103_1 (Nat.le_of_ble_eq_true rfl)) rfl (T_4140.im hk0 (by decide) (by decide) eE4156) (G.ge hk0 (by decide)) (T_4140.al hk0 (by decide)) rfl rfl ?_
              refine pm_R_lo pm_M103 (pc_q := 120) (pm_q103_1 (Nat.le_of_ble_eq_true rfl)) rfl rfl ?_
              refine pm_R_op pm_M103 (pc_q := 121) (st_q := [.int 4, .int x8_4140, .ref (a0 + 3), .int z13]) (pm_q103_1 (Nat.le_of_ble_eq_true rfl)) rfl rfl ?_
              refine sf_R_imulV pm_M103 (pc_q := 122) (pm_q103_1 (Nat.le_of_ble_eq_true rfl)) rfl B4170 sf_k4 (by decide) (by decide) (by decide) e4173 ?_
              have q4207 := cl_in4 (n := rc4145) (Nat.le_trans h4153 (by decide)) (Int32.not_le.mp c4166) (cl_aux5 _ _ e4173) B4170 (by decide) (by decide)
              obtain ⟨z4204, ez4205⟩ : ∃ y, fr4150 (Int32.toNatClampNeg z4172) = y := ⟨_, rfl⟩
              have B4206 : sf_B 0 5 z4204 := ez4205 ▸ q4207.2.2 ▸ (b4162 _ q4207.2.1).1
              refine pm_R_iald pm_M103 (pc_q := 123) (v := z4204) (pm_q103_1 (Nat.le_of_ble_eq_true rfl)) (T_4140.im kq4165.2.2.1 (by decide) (by decide) eE4159) (T_4140.al kq4165.2.2.1 (by decide)) q4207.1 ez4205 rfl ?_
              refine sf_R_iadd pm_M103 (pc_q := 124) (pm_q103_1 (Nat.le_of_ble_eq_true rfl)) rfl B15 B4206 (by decide) (by decide) (fun z4208 e4209 B4210 => ?_)
              refine pm_R_lo pm_M103 (pc_q := 126) (ls_q := [.ref 31, .ref a0, .int a1, .int a2, .int z13, .int x5_2774, .int z2793, .int z2802, .int x8_4140, .long z4185, pm_no, .long z4201, pm_no, .int z4208]) (st_q := []) (pm_q103_1 (Nat.le_of_ble_eq_true rfl)) rfl rfl ?_
              refine pm_R_lo pm_M103 (pc_q := 128) (pm_q103_1 (Nat.le_of_ble_eq_true rfl)) rfl rfl ?_
              refine pm_R_op pm_M103 (pc_q := 129) (st_q := [.long 0, .long z4185]) (pm_q103_1 (Nat.le_of_ble_eq_true rfl)) rfl rfl ?_
              refine sf_R_lcmp pm_M103 (pc_q := 130) (pm_q103_1 (Nat.le_of_ble_eq_true rfl)) rfl (fun z4211 e4212 => ?_)
              refine pm_R_ifc pm_M103 (t := 182) (pc_q := 133) (pm_q103_1 (Nat.le_of_ble_eq_true rfl)) rfl rfl (fun c4213 => ?_) (fun c4213 => ?_)
              · have B4214 : sf_B 0 0 z4211 := sf_eqL c4213 sf_k0
                have B4215 : lf_B 0 0 z4185 := lf_eqB e4212 B4214 (⟨by decide, by decide⟩ : lf_B 0 0 0)
                refine sf_R_iinc pm_M103 (pc_q := 185) (ls_q := fun z => [.ref 31, .ref a0, .int a1, .int a2, .int z13, .int x5_2774, .int z2793, .int z2802, .int z, .long z4185, pm_no, .long z4201, pm_no, .int z4208]) (pm_q103_1 (Nat.le_of_ble_eq_true rfl)) B4170 rfl (by decide) (by decide) (by decide) (fun _ => rfl) rfl (fun z4216 e4217 B4218 => ?_)
                show pm_R _ 103 185 [.ref 31, .ref a0, .int a1, .int a2, .int z13, .int x5_2774, .int z2793, .int z2802, .int z4216, .long z4185, pm_no, .long z4201, pm_no, .int z4208] [] _ _
                refine pm_R_br pm_M103 (pc_q := 61) (pm_q103_1 (Nat.le_of_ble_eq_true rfl)) rfl ?_
                exact ih_4140 _ (sf_up hN_4140 e4217 B4170 (by decide) (by decide)) h_4140 m_4140 z4216 (.long z4185) (pm_no) (.long z4201) (pm_no) (.int z4208) T_4140 F_4140 W_4140 (sf_weak B4218 (by decide) (by decide)) rfl rfl rfl rfl
              · have k4219 := sf_lneC e4212 c4213
                refine pm_R_lo pm_M103 (pc_q := 135) (pm_q103_1 (Nat.le_of_ble_eq_true rfl)) rfl rfl ?_
                refine pm_R_op pm_M103 (pc_q := 136) (st_q := [.long 0, .long z4201]) (pm_q103_1 (Nat.le_of_ble_eq_true rfl)) rfl rfl ?_
                refine sf_R_lcmp pm_M103 (pc_q := 137) (pm_q103_1 (Nat.le_of_ble_eq_true rfl)) rfl (fun z4220 e4221 => ?_)
                refine pm_R_ifc pm_M103 (t := 182) (pc_q := 140) (pm_q103_1 (Nat.le_of_ble_eq_true rfl)) rfl rfl (fun c4222 => ?_) (fun c4222 => ?_)
                · have B4223 : sf_B 0 0 z4220 := sf_eqL c4222 sf_k0
                  have B4224 : lf_B 0 0 z4201 := lf_eqB e4221 B4223 (⟨by decide, by decide⟩ : lf_B 0 0 0)
                  refine sf_R_iinc pm_M103 (pc_q := 185) (ls_q := fun z => [.ref 31, .ref a0, .int a1, .int a2, .int z13, .int x5_2774, .int z2793, .int z2802, .int z, .long z4185, pm_no, .long z4201, pm_no, .int z4208]) (pm_q103_1 (Nat.le_of_ble_eq_true rfl)) B4170 rfl (by decide) (by decide) (by decide) (fun _ => rfl) rfl (fun z4225 e4226 B4227 => ?_)
                  show pm_R _ 103 185 [.ref 31, .ref a0, .int a1, .int a2, .int z13, .int x5_2774, .int z2793, .int z2802, .int z4225, .long z4185, pm_no, .long z4201, pm_no, .int z4208] [] _ _
                  refine pm_R_br pm_M103 (pc_q := 61) (pm_q103_1 (Nat.le_of_ble_eq_true rfl)) rfl ?_
                  exact ih_4140 _ (sf_up hN_4140 e4226 B4170 (by decide) (by decide)) h_4140 m_4140 z4225 (.long z4185) (pm_no) (.long z4201) (pm_no) (.int z4208) T_4140 F_4140 W_4140 (sf_weak B4227 (by decide) (by decide)) rfl rfl rfl rfl
                · have k4228 := sf_lneC e4221 c4222
                  refine pm_R_lo pm_M103 (pc_q := 141) (pm_q103_1 (Nat.le_of_ble_eq_true rfl)) rfl rfl ?_
                  refine pm_R_get pm_M103 (pc_q := 144) (v := .ref 32) (pm_q103_1 (Nat.le_of_ble_eq_true rfl)) rfl T_4140.e31 (by decide) (T_4140.lt (by decide)) rfl rfl ?_
                  refine pm_R_lo pm_M103 (pc_q := 146) (pm_q103_1 (Nat.le_of_ble_eq_true rfl)) rfl rfl ?_
                  obtain ⟨z4229, ez4230⟩ : ∃ y, f4188 (Int32.toNatClampNeg z4208) = y := ⟨_, rfl⟩
                  refine pm_R_lald pm_M103 (pc_q := 147) (v := z4229) (pm_q103_1 (Nat.le_of_ble_eq_true rfl)) e4189 (by decide) (T_4140.lt (by decide)) (sf_in B4210 (by decide) (by decide)) ez4230 rfl ?_
                  refine pm_R_ldc2 pm_M103 (pc_q := 150) (pm_q103_1 (Nat.le_of_ble_eq_true rfl)) rfl rfl ?_
                  refine sf_R_lcmp pm_M103 (pc_q := 151) (pm_q103_1 (Nat.le_of_ble_eq_true rfl)) rfl (fun z4232 e4233 => ?_)
                  refine pm_R_ifc pm_M103 (t := 182) (pc_q := 154) (pm_q103_1 (Nat.le_of_ble_eq_true rfl)) rfl rfl (fun c4234 => ?_) (fun c4234 => ?_)
                  · have B4235 : sf_B 0 0 z4232 := sf_eqL c4234 sf_k0
                    have B4236 : lf_B 1125899906842623 1125899906842623 z4229 := lf_eqB e4233 B4235 (⟨by decide, by decide⟩ : lf_B 1125899906842623 1125899906842623 1125899906842623)
                    refine sf_R_iinc pm_M103 (pc_q := 185) (ls_q := fun z => [.ref 31, .ref a0, .int a1, .int a2, .int z13, .int x5_2774, .int z2793, .int z2802, .int z, .long z4185, pm_no, .long z4201, pm_no, .int z4208]) (pm_q103_1 (Nat.le_of_ble_eq_true rfl)) B4170 rfl (by decide) (by decide) (by decide) (fun _ => rfl) rfl (fun z4237 e4238 B4239 => ?_)
                    show pm_R _ 103 185 [.ref 31, .ref a0, .int a1, .int a2, .int z13, .int x5_2774, .int z2793, .int z2802, .int z4237, .long z4185, pm_no, .long z4201, pm_no, .int z4208] [] _ _
                    refine pm_R_br pm_M103 (pc_q := 61) (pm_q103_1 (Nat.le_of_ble_eq_true rfl)) rfl ?_
                    exact ih_4140 _ (sf_up hN_4140 e4238 B4170 (by decide) (by decide)) h_4140 m_4140 z4237 (.long z4185) (pm_no) (.long z4201) (pm_no) (.int z4208) T_4140 F_4140 W_4140 (sf_weak B4239 (by decide) (by decide)) rfl rfl rfl rfl
                  · have k4240 := sf_lneC e4233 c4234
                    refine pm_R_lo pm_M103 (pc_q := 155) (pm_q103_1 (Nat.le_of_ble_eq_true rfl)) rfl rfl ?_
                    refine pm_R_get pm_M103 (pc_q := 158) (v := .ref 32) (pm_q103_1 (Nat.le_of_ble_eq_true rfl)) rfl T_4140.e31 (by decide) (T_4140.lt (by decide)) rfl rfl ?_
                    refine pm_R_lo pm_M103 (pc_q := 160) (pm_q103_1 (Nat.le_of_ble_eq_true rfl)) rfl rfl ?_
                    refine pm_R_op pm_M103 (pc_q := 161) (st_q := [.int z4208, .ref 32, .int z4208, .ref 32]) (pm_q103_1 (Nat.le_of_ble_eq_true rfl)) rfl rfl ?_
                    refine pm_R_lald pm_M103 (pc_q := 162) (v := z4229) (pm_q103_1 (Nat.le_of_ble_eq_true rfl)) e4189 (by decide) (T_4140.lt (by decide)) (sf_in B4210 (by decide) (by decide)) ez4230 rfl ?_
                    refine pm_R_lo pm_M103 (pc_q := 163) (pm_q103_1 (Nat.le_of_ble_eq_true rfl)) rfl rfl ?_
                    refine pm_R_get pm_M103 (pc_q := 166) (v := .ref (a0 + 3)) (pm_q103_1 (Nat.le_of_ble_eq_true rfl)) rfl (T_4140.im hk0 (by decide) (by decide) eE4156) (G.ge hk0 (by decide)) (T_4140.al hk0 (by decide)) rfl rfl ?_
                    refine pm_R_lo pm_M103 (pc_q := 168) (pm_q103_1 (Nat.le_of_ble_eq_true rfl)) rfl rfl ?_
                    refine pm_R_op pm_M103 (pc_q := 169) (st_q := [.int 4, .int x8_4140, .ref (a0 + 3), .long z4229, .int z4208, .ref 32]) (pm_q103_1 (Nat.le_of_ble_eq_true rfl)) rfl rfl ?_
                    refine sf_R_imulV pm_M103 (pc_q := 170) (pm_q103_1 (Nat.le_of_ble_eq_true rfl)) rfl B4170 sf_k4 (by decide) (by decide) (by decide) e4173 ?_
                    refine pm_R_op pm_M103 (pc_q := 171) (st_q := [.int 3, .int z4172, .ref (a0 + 3), .long z4229, .int z4208, .ref 32]) (pm_q103_1 (Nat.le_of_ble_eq_true rfl)) rfl rfl ?_
                    refine sf_R_iadd pm_M103 (pc_q := 172) (pm_q103_1 (Nat.le_of_ble_eq_true rfl)) rfl B4174 sf_k3 (by decide) (by decide) (fun z4244 e4245 B4246 => ?_)
                    have q4250 := cl_in4 (n := rc4145) (Nat.le_trans h4153 (by decide)) (Int32.not_le.mp c4166) (cl_aux9 _ _ _ e4173 e4245) B4170 (by decide) (by decide)
                    obtain ⟨z4247, ez4248⟩ : ∃ y, fr4150 (Int32.toNatClampNeg z4244) = y := ⟨_, rfl⟩
                    refine pm_R_iald pm_M103 (pc_q := 173) (v := z4247) (pm_q103_1 (Nat.le_of_ble_eq_true rfl)) (T_4140.im kq4165.2.2.1 (by decide) (by decide) eE4159) (T_4140.al kq4165.2.2.1 (by decide)) q4250.1 ez4248 rfl ?_
                    refine pm_R_lo pm_M103 (pc_q := 175) (pm_q103_1 (Nat.le_of_ble_eq_true rfl)) rfl rfl ?_
                    refine pm_R_lo pm_M103 (pc_q := 177) (pm_q103_1 (Nat.le_of_ble_eq_true rfl)) rfl rfl ?_
                    refine pm_R_cs pm_M103 (pc_q := 180) (ra := [.long z4201, .long z4185, .int z4247]) (rest := [.long z4229, .int z4208, .ref 32]) (ls_q := [.int z4247, .long z4185, pm_no, .long z4201, pm_no]) (pm_q103_1 (Nat.le_of_ble_eq_true rfl)) rfl (Or.inr rfl) pm_M104 rfl rfl (Nat.le_of_ble_eq_true rfl) rfl rfl ?_
                    refine pm_R_lo pm_M104 (pc_q := 1) rfl rfl rfl ?_
                    by_cases c4251 : z4247 < 0
                    · refine pm_R_tswD pm_M104 (pc_q := 57) rfl (Or.inl (Int32.lt_iff_toInt_lt.mp c4251)) rfl ?_
                      have B4252 : sf_B (-2147483648) (-1) z4247 := sf_ltL c4251 (sf_any z4247) sf_k0
                      refine pm_R_lo pm_M104 (pc_q := 58) rfl rfl rfl ?_
                      refine pm_R_cs pm_M104 (pc_q := 61) (ra := [.long z4201]) (rest := []) (ls_q := [.long z4201, pm_no, pm_no, pm_no, pm_no]) rfl rfl (Or.inl rfl) pm_M106 rfl rfl (Nat.le_of_ble_eq_true rfl) rfl rfl ?_
                      refine cl_c106 (d := d + 0)  (fun r4253 => ?_)
                      show pm_R _ 104 61 [.int z4247, .long z4185, pm_no, .long z4201, pm_no] [.long r4253] _ _
                      refine pm_R_ret pm_M104 (r := some (.long r4253)) rfl rfl ?_
                      show pm_R _ 103 180 [.ref 31, .ref a0, .int a1, .int a2, .int z13, .int x5_2774, .int z2793, .int z2802, .int x8_4140, .long z4185, pm_no, .long z4201, pm_no, .int z4208] [.long r4253, .long z4229, .int z4208, .ref 32] _ _
                      refine sf_R_lany pm_M103 (pc_q := 181) (st := [.int z4208, .ref 32]) (pm_q103_1 (Nat.le_of_ble_eq_true rfl)) rfl rfl (fun z4260 => ?_)
                      refine cl_R_lst G pm_M103 T_4140 (pc_q := 182) (pm_q103_1 (Nat.le_of_ble_eq_true rfl)) e4189 (by decide) ⟨_, rfl⟩ (sf_in B4210 (by decide) (by decide)) rfl (fun h4261 T4262 F4263 e4264 => ?_)
                      have F4265 := F4263.cl (ck := ck) T_4140.1
                      have F4266 := F_4140.trans (N := 0) (S := 0) F4265 (by decide) (by decide) (by decide)
                      refine sf_R_iinc pm_M103 (pc_q := 185) (ls_q := fun z => [.ref 31, .ref a0, .int a1, .int a2, .int z13, .int x5_2774, .int z2793, .int z2802, .int z, .long z4185, pm_no, .long z4201, pm_no, .int z4208]) (pm_q103_1 (Nat.le_of_ble_eq_true rfl)) B4170 rfl (by decide) (by decide) (by decide) (fun _ => rfl) rfl (fun z4267 e4268 B4269 => ?_)
                      show pm_R _ 103 185 [.ref 31, .ref a0, .int a1, .int a2, .int z13, .int x5_2774, .int z2793, .int z2802, .int z4267, .long z4185, pm_no, .long z4201, pm_no, .int z4208] [] _ _
                      refine pm_R_br pm_M103 (pc_q := 61) (pm_q103_1 (Nat.le_of_ble_eq_true rfl)) rfl ?_
                      exact ih_4140 _ (sf_up hN_4140 e4268 B4170 (by decide) (by decide)) h4261 m_4140 z4267 (.long z4185) (pm_no) (.long z4201) (pm_no) (.int z4208) T4262 F4266 W_4140 (sf_weak B4269 (by decide) (by decide)) rfl rfl rfl rfl
                    have B4270 : sf_B 0 2147483647 z4247 := sf_leR (Int32.not_lt.mp c4251) sf_k0 (sf_any z4247)
                    by_cases c4271 : 3 < z4247
                    · refine pm_R_tswD pm_M104 (pc_q := 57) rfl (Or.inr (Int32.lt_iff_toInt_lt.mp c4271)) rfl ?_
                      have B4272 : sf_B 4 2147483647 z4247 := sf_ltR c4271 sf_k3 (sf_any z4247)
                      refine pm_R_lo pm_M104 (pc_q := 58) rfl rfl rfl ?_
                      refine pm_R_cs pm_M104 (pc_q := 61) (ra := [.long z4201]) (rest := []) (ls_q := [.long z4201, pm_no, pm_no, pm_no, pm_no]) rfl rfl (Or.inl rfl) pm_M106 rfl rfl (Nat.le_of_ble_eq_true rfl) rfl rfl ?_
                      refine cl_c106 (d := d + 0)  (fun r4273 => ?_)
                      show pm_R _ 104 61 [.int z4247, .long z4185, pm_no, .long z4201, pm_no] [.long r4273] _ _
                      refine pm_R_ret pm_M104 (r := some (.long r4273)) rfl rfl ?_
                      show pm_R _ 103 180 [.ref 31, .ref a0, .int a1, .int a2, .int z13, .int x5_2774, .int z2793, .int z2802, .int x8_4140, .long z4185, pm_no, .long z4201, pm_no, .int z4208] [.long r4273, .long z4229, .int z4208, .ref 32] _ _
                      refine sf_R_lany pm_M103 (pc_q := 181) (st := [.int z4208, .ref 32]) (pm_q103_1 (Nat.le_of_ble_eq_true rfl)) rfl rfl (fun z4280 => ?_)
                      refine cl_R_lst G pm_M103 T_4140 (pc_q := 182) (pm_q103_1 (Nat.le_of_ble_eq_true rfl)) e4189 (by decide) ⟨_, rfl⟩ (sf_in B4210 (by decide) (by decide)) rfl (fun h4281 T4282 F4283 e4284 => ?_)
                      have F4285 := F4283.cl (ck := ck) T_4140.1
                      have F4286 := F_4140.trans (N := 0) (S := 0) F4285 (by decide) (by decide) (by decide)
                      refine sf_R_iinc pm_M103 (pc_q := 185) (ls_q := fun z => [.ref 31, .ref a0, .int a1, .int a2, .int z13, .int x5_2774, .int z2793, .int z2802, .int z, .long z4185, pm_no, .long z4201, pm_no, .int z4208]) (pm_q103_1 (Nat.le_of_ble_eq_true rfl)) B4170 rfl (by decide) (by decide) (by decide) (fun _ => rfl) rfl (fun z4287 e4288 B4289 => ?_)
                      show pm_R _ 103 185 [.ref 31, .ref a0, .int a1, .int a2, .int z13, .int x5_2774, .int z2793, .int z2802, .int z4287, .long z4185, pm_no, .long z4201, pm_no, .int z4208] [] _ _
                      refine pm_R_br pm_M103 (pc_q := 61) (pm_q103_1 (Nat.le_of_ble_eq_true rfl)) rfl ?_
                      exact ih_4140 _ (sf_up hN_4140 e4288 B4170 (by decide) (by decide)) h4281 m_4140 z4287 (.long z4185) (pm_no) (.long z4201) (pm_no) (.int z4208) T4282 F4286 W_4140 (sf_weak B4289 (by decide) (by decide)) rfl rfl rfl rfl
                    have B4290 : sf_B (-2147483648) 3 z4247 := sf_leL (Int32.not_lt.mp c4271) (sf_any z4247) sf_k3
                    by_cases c4291 : z4247 < 0
                    · refine pm_R_tswD pm_M104 (pc_q := 57) rfl (Or.inl (Int32.lt_iff_toInt_lt.mp c4291)) rfl ?_
                      have B4292 : sf_B (-2147483648) (-1) z4247 := sf_ltL c4291 B4290 sf_k0
                      refine pm_R_lo pm_M104 (pc_q := 58) rfl rfl rfl ?_
                      refine pm_R_cs pm_M104 (pc_q := 61) (ra := [.long z4201]) (rest := []) (ls_q := [.long z4201, pm_no, pm_no, pm_no, pm_no]) rfl rfl (Or.inl rfl) pm_M106 rfl rfl (Nat.le_of_ble_eq_true rfl) rfl rfl ?_
                      refine cl_c106 (d := d + 0)  (fun r4293 => ?_)
                      show pm_R _ 104 61 [.int z4247, .long z4185, pm_no, .long z4201, pm_no] [.long r4293] _ _
                      refine pm_R_ret pm_M104 (r := some (.long r4293)) rfl rfl ?_
                      show pm_R _ 103 180 [.ref 31, .ref a0, .int a1, .int a2, .int z13, .int x5_2774, .int z2793, .int z2802, .int x8_4140, .long z4185, pm_no, .long z4201, pm_no, .int z4208] [.long r4293, .long z4229, .int z4208, .ref 32] _ _
                      refine sf_R_lany pm_M103 (pc_q := 181) (st := [.int z4208, .ref 32]) (pm_q103_1 (Nat.le_of_ble_eq_true rfl)) rfl rfl (fun z4300 => ?_)
                      refine cl_R_lst G pm_M103 T_4140 (pc_q := 182) (pm_q103_1 (Nat.le_of_ble_eq_true rfl)) e4189 (by decide) ⟨_, rfl⟩ (sf_in B4210 (by decide) (by decide)) rfl (fun h4301 T4302 F4303 e4304 => ?_)
                      have F4305 := F4303.cl (ck := ck) T_4140.1
                      have F4306 := F_4140.trans (N := 0) (S := 0) F4305 (by decide) (by decide) (by decide)
                      refine sf_R_iinc pm_M103 (pc_q := 185) (ls_q := fun z => [.ref 31, .ref a0, .int a1, .int a2, .int z13, .int x5_2774, .int z2793, .int z2802, .int z, .long z4185, pm_no, .long z4201, pm_no, .int z4208]) (pm_q103_1 (Nat.le_of_ble_eq_true rfl)) B4170 rfl (by decide) (by decide) (by decide) (fun _ => rfl) rfl (fun z4307 e4308 B4309 => ?_)
                      show pm_R _ 103 185 [.ref 31, .ref a0, .int a1, .int a2, .int z13, .int x5_2774, .int z2793, .int z2802, .int z4307, .long z4185, pm_no, .long z4201, pm_no, .int z4208] [] _ _
                      refine pm_R_br pm_M103 (pc_q := 61) (pm_q103_1 (Nat.le_of_ble_eq_true rfl)) rfl ?_
                      exact ih_4140 _ (sf_up hN_4140 e4308 B4170 (by decide) (by decide)) h4301 m_4140 z4307 (.long z4185) (pm_no) (.long z4201) (pm_no) (.int z4208) T4302 F4306 W_4140 (sf_weak B4309 (by decide) (by decide)) rfl rfl rfl rfl
                    have B4310 : sf_B 0 3 z4247 := sf_leR (Int32.not_lt.mp c4291) sf_k0 B4290
                    by_cases c4311 : 3 < z4247
                    · refine pm_R_tswD pm_M104 (pc_q := 57) rfl (Or.inr (Int32.lt_iff_toInt_lt.mp c4311)) rfl ?_
                      have B4312 : sf_B 4 3 z4247 := sf_ltR c4311 sf_k3 B4290
                      refine pm_R_lo pm_M104 (pc_q := 58) rfl rfl rfl ?_
                      refine pm_R_cs pm_M104 (pc_q := 61) (ra := [.long z4201]) (rest := []) (ls_q := [.long z4201, pm_no, pm_no, pm_no, pm_no]) rfl rfl (Or.inl rfl) pm_M106 rfl rfl (Nat.le_of_ble_eq_true rfl) rfl rfl ?_
                      refine cl_c106 (d := d + 0)  (fun r4313 => ?_)
                      show pm_R _ 104 61 [.int z4247, .long z4185, pm_no, .long z4201, pm_no] [.long r4313] _ _
                      refine pm_R_ret pm_M104 (r := some (.long r4313)) rfl rfl ?_
                      show pm_R _ 103 180 [.ref 31, .ref a0, .int a1, .int a2, .int z13, .int x5_2774, .int z2793, .int z2802, .int x8_4140, .long z4185, pm_no, .long z4201, pm_no, .int z4208] [.long r4313, .long z4229, .int z4208, .ref 32] _ _
                      refine sf_R_lany pm_M103 (pc_q := 181) (st := [.int z4208, .ref 32]) (pm_q103_1 (Nat.le_of_ble_eq_true rfl)) rfl rfl (fun z4320 => ?_)
                      refine cl_R_lst G pm_M103 T_4140 (pc_q := 182) (pm_q103_1 (Nat.le_of_ble_eq_true rfl)) e4189 (by decide) ⟨_, rfl⟩ (sf_in B4210 (by decide) (by decide)) rfl (fun h4321 T4322 F4323 e4324 => ?_)
                      have F4325 := F4323.cl (ck := ck) T_4140.1
                      have F4326 := F_4140.trans (N := 0) (S := 0) F4325 (by decide) (by decide) (by decide)
                      refine sf_R_iinc pm_M103 (pc_q := 185) (ls_q := fun z => [.ref 31, .ref a0, .int a1, .int a2, .int z13, .int x5_2774, .int z2793, .int z2802, .int z, .long z4185, pm_no, .long z4201, pm_no, .int z4208]) (pm_q103_1 (Nat.le_of_ble_eq_true rfl)) B4170 rfl (by decide) (by decide) (by decide) (fun _ => rfl) rfl (fun z4327 e4328 B4329 => ?_)
                      show pm_R _ 103 185 [.ref 31, .ref a0, .int a1, .int a2, .int z13, .int x5_2774, .int z2793, .int z2802, .int z4327, .long z4185, pm_no, .long z4201, pm_no, .int z4208] [] _ _
                      refine pm_R_br pm_M103 (pc_q := 61) (pm_q103_1 (Nat.le_of_ble_eq_true rfl)) rfl ?_
                      exact ih_4140 _ (sf_up hN_4140 e4328 B4170 (by decide) (by decide)) h4321 m_4140 z4327 (.long z4185) (pm_no) (.long z4201) (pm_no) (.int z4208) T4322 F4326 W_4140 (sf_weak B4329 (by decide) (by decide)) rfl rfl rfl rfl
                    skip
                    by_cases c4330 : z4247 = 0
                    · rw [c4330]
                      refine pm_R_br pm_M104 (pc_q := 32) (st_q := []) rfl rfl ?_
                      refine pm_R_lo pm_M104 (pc_q := 33) rfl rfl rfl ?_
                      refine pm_R_ret pm_M104 (r := some (.long z4185)) rfl rfl ?_
                      show pm_R _ 103 180 [.ref 31, .ref a0, .int a1, .int a2, .int z13, .int x5_2774, .int z2793, .int z2802, .int x8_4140, .long z4185, pm_no, .long z4201, pm_no, .int z4208] [.long z4185, .long z4229, .int z4208, .ref 32] _ _
                      refine sf_R_lany pm_M103 (pc_q := 181) (st := [.int z4208, .ref 32]) (pm_q103_1 (Nat.le_of_ble_eq_true rfl)) rfl rfl (fun z4331 => ?_)
                      refine cl_R_lst G pm_M103 T_4140 (pc_q := 182) (pm_q103_1 (Nat.le_of_ble_eq_true rfl)) e4189 (by decide) ⟨_, rfl⟩ (sf_in B4210 (by decide) (by decide)) rfl (fun h4332 T4333 F4334 e4335 => ?_)
                      have F4336 := F4334.cl (ck := ck) T_4140.1
                      have F4337 := F_4140.trans (N := 0) (S := 0) F4336 (by decide) (by decide) (by decide)
                      refine sf_R_iinc pm_M103 (pc_q := 185) (ls_q := fun z => [.ref 31, .ref a0, .int a1, .int a2, .int z13, .int x5_2774, .int z2793, .int z2802, .int z, .long z4185, pm_no, .long z4201, pm_no, .int z4208]) (pm_q103_1 (Nat.le_of_ble_eq_true rfl)) B4170 rfl (by decide) (by decide) (by decide) (fun _ => rfl) rfl (fun z4338 e4339 B4340 => ?_)
                      show pm_R _ 103 185 [.ref 31, .ref a0, .int a1, .int a2, .int z13, .int x5_2774, .int z2793, .int z2802, .int z4338, .long z4185, pm_no, .long z4201, pm_no, .int z4208] [] _ _
                      refine pm_R_br pm_M103 (pc_q := 61) (pm_q103_1 (Nat.le_of_ble_eq_true rfl)) rfl ?_
                      exact ih_4140 _ (sf_up hN_4140 e4339 B4170 (by decide) (by decide)) h4332 m_4140 z4338 (.long z4185) (pm_no) (.long z4201) (pm_no) (.int z4208) T4333 F4337 W_4140 (sf_weak B4340 (by decide) (by decide)) rfl rfl rfl rfl
                    have B4341 : sf_B 1 3 z4247 := sf_neL0 c4330 sf_k0 B4310
                    by_cases c4342 : z4247 = 1
                    · rw [c4342]
                      refine pm_R_br pm_M104 (pc_q := 34) (st_q := []) rfl rfl ?_
                      refine pm_R_lo pm_M104 (pc_q := 35) rfl rfl rfl ?_
                      refine pm_R_ret pm_M104 (r := some (.long z4201)) rfl rfl ?_
                      show pm_R _ 103 180 [.ref 31, .ref a0, .int a1, .int a2, .int z13, .int x5_2774, .int z2793, .int z2802, .int x8_4140, .long z4185, pm_no, .long z4201, pm_no, .int z4208] [.long z4201, .long z4229, .int z4208, .ref 32] _ _
                      refine sf_R_lany pm_M103 (pc_q := 181) (st := [.int z4208, .ref 32]) (pm_q103_1 (Nat.le_of_ble_eq_true rfl)) rfl rfl (fun z4343 => ?_)
                      refine cl_R_lst G pm_M103 T_4140 (pc_q := 182) (pm_q103_1 (Nat.le_of_ble_eq_true rfl)) e4189 (by decide) ⟨_, rfl⟩ (sf_in B4210 (by decide) (by decide)) rfl (fun h4344 T4345 F4346 e4347 => ?_)
                      have F4348 := F4346.cl (ck := ck) T_4140.1
                      have F4349 := F_4140.trans (N := 0) (S := 0) F4348 (by decide) (by decide) (by decide)
                      refine sf_R_iinc pm_M103 (pc_q := 185) (ls_q := fun z => [.ref 31, .ref a0, .int a1, .int a2, .int z13, .int x5_2774, .int z2793, .int z2802, .int z, .long z4185, pm_no, .long z4201, pm_no, .int z4208]) (pm_q103_1 (Nat.le_of_ble_eq_true rfl)) B4170 rfl (by decide) (by decide) (by decide) (fun _ => rfl) rfl (fun z4350 e4351 B4352 => ?_)
                      show pm_R _ 103 185 [.ref 31, .ref a0, .int a1, .int a2, .int z13, .int x5_2774, .int z2793, .int z2802, .int z4350, .long z4185, pm_no, .long z4201, pm_no, .int z4208] [] _ _
                      refine pm_R_br pm_M103 (pc_q := 61) (pm_q103_1 (Nat.le_of_ble_eq_true rfl)) rfl ?_
                      exact ih_4140 _ (sf_up hN_4140 e4351 B4170 (by decide) (by decide)) h4344 m_4140 z4350 (.long z4185) (pm_no) (.long z4201) (pm_no) (.int z4208) T4345 F4349 W_4140 (sf_weak B4352 (by decide) (by decide)) rfl rfl rfl rfl
                    have B4353 : sf_B 2 3 z4247 := sf_neL0 c4342 sf_k1 B4341
                    by_cases c4354 : z4247 = 2
                    · rw [c4354]
                      refine pm_R_br pm_M104 (pc_q := 36) (st_q := []) rfl rfl ?_
                      refine pm_R_lo pm_M104 (pc_q := 37) rfl rfl rfl ?_
                      refine pm_R_lo pm_M104 (pc_q := 38) rfl rfl rfl ?_
                      refine pm_R_cs pm_M104 (pc_q := 41) (ra := [.long z4201, .long z4185]) (rest := []) (ls_q := [.long z4185, pm_no, .long z4201, pm_no, pm_no, pm_no, pm_no]) rfl rfl (Or.inl rfl) pm_M105 rfl rfl (Nat.le_of_ble_eq_true rfl) rfl rfl ?_
                      refine cl_c105 (d := d + 0)  (fun r4355 => ?_)
                      show pm_R _ 104 41 [.int 2, .long z4185, pm_no, .long z4201, pm_no] [.long r4355] _ _
                      refine pm_R_ret pm_M104 (r := some (.long r4355)) rfl rfl ?_
                      show pm_R _ 103 180 [.ref 31, .ref a0, .int a1, .int a2, .int z13, .int x5_2774, .int z2793, .int z2802, .int x8_4140, .long z4185, pm_no, .long z4201, pm_no, .int z4208] [.long r4355, .long z4229, .int z4208, .ref 32] _ _
                      refine sf_R_lany pm_M103 (pc_q := 181) (st := [.int z4208, .ref 32]) (pm_q103_1 (Nat.le_of_ble_eq_true rfl)) rfl rfl (fun z4362 => ?_)
                      refine cl_R_lst G pm_M103 T_4140 (pc_q := 182) (pm_q103_1 (Nat.le_of_ble_eq_true rfl)) e4189 (by decide) ⟨_, rfl⟩ (sf_in B4210 (by decide) (by decide)) rfl (fun h4363 T4364 F4365 e4366 => ?_)
                      have F4367 := F4365.cl (ck := ck) T_4140.1
                      have F4368 := F_4140.trans (N := 0) (S := 0) F4367 (by decide) (by decide) (by decide)
                      refine sf_R_iinc pm_M103 (pc_q := 185) (ls_q := fun z => [.ref 31, .ref a0, .int a1, .int a2, .int z13, .int x5_2774, .int z2793, .int z2802, .int z, .long z4185, pm_no, .long z4201, pm_no, .int z4208]) (pm_q103_1 (Nat.le_of_ble_eq_true rfl)) B4170 rfl (by decide) (by decide) (by decide) (fun _ => rfl) rfl (fun z4369 e4370 B4371 => ?_)
                      show pm_R _ 103 185 [.ref 31, .ref a0, .int a1, .int a2, .int z13, .int x5_2774, .int z2793, .int z2802, .int z4369, .long z4185, pm_no, .long z4201, pm_no, .int z4208] [] _ _
                      refine pm_R_br pm_M103 (pc_q := 61) (pm_q103_1 (Nat.le_of_ble_eq_true rfl)) rfl ?_
                      exact ih_4140 _ (sf_up hN_4140 e4370 B4170 (by decide) (by decide)) h4363 m_4140 z4369 (.long z4185) (pm_no) (.long z4201) (pm_no) (.int z4208) T4364 F4368 W_4140 (sf_weak B4371 (by decide) (by decide)) rfl rfl rfl rfl
                    have B4372 : sf_B 3 3 z4247 := sf_neL0 c4354 sf_k2 B4353
                    rw [sf_pt2 B4372 sf_k3]
                    refine pm_R_br pm_M104 (pc_q := 42) (st_q := []) rfl rfl ?_
                    refine pm_R_lo pm_M104 (pc_q := 43) rfl rfl rfl ?_
                    refine pm_R_ldc2 pm_M104 (pc_q := 46) rfl rfl rfl ?_
                    refine pm_R_cs pm_M104 (pc_q := 49) (ra := [.long 2, .long z4185]) (rest := []) (ls_q := [.long z4185, pm_no, .long 2, pm_no, pm_no, pm_no, pm_no]) rfl rfl (Or.inl rfl) pm_M105 rfl rfl (Nat.le_of_ble_eq_true rfl) rfl rfl ?_
                    refine cl_c105 (d := d + 0)  (fun r4373 => ?_)
                    show pm_R _ 104 49 [.int 3, .long z4185, pm_no, .long z4201, pm_no] [.long r4373] _ _
                    refine pm_R_lo pm_M104 (pc_q := 50) rfl rfl rfl ?_
                    refine pm_R_cs pm_M104 (pc_q := 53) (ra := [.long z4201]) (rest := [.long r4373]) (ls_q := [.long z4201, pm_no, pm_no, pm_no, pm_no]) rfl rfl (Or.inl rfl) pm_M106 rfl rfl (Nat.le_of_ble_eq_true rfl) rfl rfl ?_
                    refine cl_c106 (d := d + 0)  (fun r4380 => ?_)
                    show pm_R _ 104 53 [.int 3, .long z4185, pm_no, .long z4201, pm_no] [.long r4380, .long r4373] _ _
                    refine pm_R_cs pm_M104 (pc_q := 56) (ra := [.long r4380, .long r4373]) (rest := []) (ls_q := [.long r4373, pm_no, .long r4380, pm_no, pm_no, pm_no, pm_no]) rfl rfl (Or.inl rfl) pm_M105 rfl rfl (Nat.le_of_ble_eq_true rfl) rfl rfl ?_
                    refine cl_c105 (d := d + 0)  (fun r4387 => ?_)
                    show pm_R _ 104 56 [.int 3, .long z4185, pm_no, .long z4201, pm_no] [.long r4387] _ _
                    refine pm_R_ret pm_M104 (r := some (.long r4387)) rfl rfl ?_
                    show pm_R _ 103 180 [.ref 31, .ref a0, .int a1, .int a2, .int z13, .int x5_2774, .int z2793, .int z2802, .int x8_4140, .long z4185, pm_no, .long z4201, pm_no, .int z4208] [.long r4387, .long z4229, .int z4208, .ref 32] _ _
                    refine sf_R_lany pm_M103 (pc_q := 181) (st := [.int z4208, .ref 32]) (pm_q103_1 (Nat.le_of_ble_eq_true rfl)) rfl rfl (fun z4394 => ?_)
                    refine cl_R_lst G pm_M103 T_4140 (pc_q := 182) (pm_q103_1 (Nat.le_of_ble_eq_true rfl)) e4189 (by decide) ⟨_, rfl⟩ (sf_in B4210 (by decide) (by decide)) rfl (fun h4395 T4396 F4397 e4398 => ?_)
                    have F4399 := F4397.cl (ck := ck) T_4140.1
                    have F4400 := F_4140.trans (N := 0) (S := 0) F4399 (by decide) (by decide) (by decide)
                    refine sf_R_iinc pm_M103 (pc_q := 185) (ls_q := fun z => [.ref 31, .ref a0, .int a1, .int a2, .int z13, .int x5_2774, .int z2793, .int z2802, .int z, .long z4185, pm_no, .long z4201, pm_no, .int z4208]) (pm_q103_1 (Nat.le_of_ble_eq_true rfl)) B4170 rfl (by decide) (by decide) (by decide) (fun _ => rfl) rfl (fun z4401 e4402 B4403 => ?_)
                    show pm_R _ 103 185 [.ref 31, .ref a0, .int a1, .int a2, .int z13, .int x5_2774, .int z2793, .int z2802, .int z4401, .long z4185, pm_no, .long z4201, pm_no, .int z4208] [] _ _
                    refine pm_R_br pm_M103 (pc_q := 61) (pm_q103_1 (Nat.le_of_ble_eq_true rfl)) rfl ?_
                    exact ih_4140 _ (sf_up hN_4140 e4402 B4170 (by decide) (by decide)) h4395 m_4140 z4401 (.long z4185) (pm_no) (.long z4201) (pm_no) (.int z4208) T4396 F4400 W_4140 (sf_weak B4403 (by decide) (by decide)) rfl rfl rfl rfl
        exact L_4140 _ h_2774 m_2774 0 (g9_2774) (g10_2774) (g11_2774) (g12_2774) (g13_2774) T_2774 F_2774 (rf_W.refl _ _) (sf_weak sf_k0 (by decide) (by decide)) Cg10_2774 Cg12_2774 Cg13_2774 rfl
  exact L_2774 _ h22 m21 a1 (pm_no) (pm_no) (pm_no) (pm_no) (pm_no) (pm_no) (pm_no) (pm_no) T23 F26 (rf_W.refl _ _) Ba1 rfl rfl rfl rfl rfl rfl rfl

set_option maxRecDepth 100000 in
set_option maxHeartbeats 4000000 in
/-- SilentTable$MeaningChart.meaningsOf -/
theorem cl_c100 {d : Nat} {ck : cl_K} {E : Nat → pm_E} {m : Nat → Int32} {o : Nat → Option Nat} {h : pm_H} {Q : Option Value → pm_H → Prop} {a0 : Nat} {a2 : Int32} (G : cl_G ck E) (T : cl_T ck E m o h) (hk0 : ck a0 = 1) (K : ∀ (r : Int64) (m_q : Nat → Int32) (h_q : pm_H), cl_T ck E m_q o h_q → cl_F ck [32] 0 0 h h_q → rf_W [] m m_q → Q (some (.long r)) h_q) : pm_R (d + 3) 100 0 [.ref 31, .ref a0, .ref 38, .int a2, pm_no, pm_no] [] h Q := by
  refine pm_R_lo pm_M100 (pc_q := 1) rfl rfl rfl ?_
  refine pm_R_op pm_M100 (pc_q := 2) (st_q := [.int 1, .int a2]) rfl rfl rfl ?_
  refine pm_R_icmp pm_M100 (t := 11) (pc_q := 5) rfl rfl rfl (fun c1 => ?_) (fun c1 => ?_)
  · have B2 : sf_B (-2147483648) 0 a2 := sf_ltL c1 (sf_any a2) sf_k1
    refine pm_R_op pm_M100 (pc_q := 12) (st_q := [.long 0]) rfl rfl rfl ?_
    exact pm_R_ret pm_M100 (r := some (.long 0)) rfl rfl (K 0 m h T (cl_F.refl (ck := ck) (A := [32]) (n := 0) (s := 0) T.1) (rf_W.refl [] m))
  · have B3 : sf_B 1 2147483647 a2 := sf_leR (Int32.not_lt.mp c1) sf_k1 (sf_any a2)
    refine pm_R_lo pm_M100 (pc_q := 6) rfl rfl rfl ?_
    refine pm_R_op pm_M100 (pc_q := 8) (st_q := [.int 12, .int a2]) rfl rfl rfl ?_
    refine pm_R_icmp pm_M100 (t := 13) (pc_q := 11) rfl rfl rfl (fun c4 => ?_) (fun c4 => ?_)
    · have B5 : sf_B 1 12 a2 := sf_leL c4 B3 sf_k12
      refine pm_R_op pm_M100 (pc_q := 14) (st_q := [.int 0]) rfl rfl rfl ?_
      refine pm_R_lo pm_M100 (pc_q := 16) (ls_q := [.ref 31, .ref a0, .ref 38, .int a2, .int 0, pm_no]) (st_q := []) rfl rfl rfl ?_
      have L_498 : ∀ (N : Nat) (h_498 : pm_H) (m_498 : Nat → Int32) (x4_498 : Int32) (g5_498 : Value), cl_T ck E m_498 o h_498 → cl_F ck [32] 0 0 h h_498 → rf_W [] m m_498 → sf_B 0 12 x4_498 → g5_498.category = 1 → (12 - x4_498.toInt).toNat = N → pm_R (d + 3) 100 16 [.ref 31, .ref a0, .ref 38, .int a2, .int x4_498, g5_498] [] h_498 Q := by
        intro N
        induction N using Nat.strongRecOn with
        | ind N ih_498 =>
          intro h_498 m_498 x4_498 g5_498 T_498 F_498 W_498 Bx4_498 Cg5_498 hN_498
          have W501 : rf_W [] m m_498 := (rf_W.refl [] m).trans W_498 (by decide)
          refine pm_R_lo pm_M100 (pc_q := 18) rfl rfl rfl ?_
          refine pm_R_lo pm_M100 (pc_q := 19) rfl rfl rfl ?_
          refine pm_R_icmp pm_M100 (t := 65) (pc_q := 22) rfl rfl rfl (fun c502 => ?_) (fun c502 => ?_)
          · have B503 : sf_B 1 12 x4_498 := sf_leR c502 B5 Bx4_498
            refine pm_R_lo pm_M100 (pc_q := 66) rfl rfl rfl ?_
            refine pm_R_get pm_M100 (pc_q := 69) (v := .ref 32) rfl rfl T_498.e31 (by decide) (T_498.lt (by decide)) rfl rfl ?_
            refine pm_R_op pm_M100 (pc_q := 70) (st_q := [.int 0, .ref 32]) rfl rfl rfl ?_
            refine pm_R_lo pm_M100 (pc_q := 71) rfl rfl rfl ?_
            refine pm_R_op pm_M100 (pc_q := 72) (st_q := [.int 1, .int a2, .int 0, .ref 32]) rfl rfl rfl ?_
            refine sf_R_isub pm_M100 (pc_q := 73) rfl rfl B5 sf_k1 (by decide) (by decide) (fun z504 e505 B506 => ?_)
            refine pm_R_cs pm_M100 (pc_q := 76) (ra := [.int z504, .int 0]) (rest := [.ref 32]) (ls_q := [.int 0, .int z504]) rfl rfl (Or.inr rfl) pm_M73 rfl rfl (Nat.le_of_ble_eq_true rfl) rfl rfl ?_
            refine pm_R_lo pm_M73 (pc_q := 1) rfl rfl rfl ?_
            refine pm_R_lo pm_M73 (pc_q := 2) rfl rfl rfl ?_
            refine pm_R_op pm_M73 (pc_q := 3) (st_q := [.int 1, .int z504, .int z504]) rfl rfl rfl ?_
            refine sf_R_iadd pm_M73 (pc_q := 4) rfl rfl B506 sf_k1 (by decide) (by decide) (fun z507 e508 B509 => ?_)
            refine sf_R_imul pm_M73 (pc_q := 5) rfl rfl B506 B509 (by decide) (by decide) (by decide) (fun z510 e511 B512 => ?_)
            refine pm_R_op pm_M73 (pc_q := 6) (st_q := [.int 2, .int z510]) rfl rfl rfl ?_
            refine sf_R_idiv pm_M73 (pc_q := 7) rfl rfl B512 sf_k2 (by decide) (by decide) (fun z513 e514 B515 => ?_)
            refine pm_R_lo pm_M73 (pc_q := 8) rfl rfl rfl ?_
            refine sf_R_iadd pm_M73 (pc_q := 9) rfl rfl B515 sf_k0 (by decide) (by decide) (fun z516 e517 B518 => ?_)
            refine pm_R_ret pm_M73 (r := some (.int z516)) rfl (pm_ret_i _) ?_
            show pm_R _ 100 76 [.ref 31, .ref a0, .ref 38, .int a2, .int x4_498, g5_498] [.int z516, .ref 32] _ _
            refine pm_R_op pm_M100 (pc_q := 78) (st_q := [.int 6, .int z516, .ref 32]) rfl rfl rfl ?_
            refine sf_R_imul pm_M100 (pc_q := 79) rfl rfl B518 sf_k6 (by decide) (by decide) (by decide) (fun z519 e520 B521 => ?_)
            obtain ⟨f525, e526⟩ := T_498.C 32 (by decide) (by decide)
            obtain ⟨z522, ez523⟩ : ∃ y, f525 (Int32.toNatClampNeg z519) = y := ⟨_, rfl⟩
            refine pm_R_lald pm_M100 (pc_q := 80) (v := z522) rfl e526 (by decide) (T_498.lt (by decide)) (sf_in B521 (by decide) (by decide)) ez523 rfl ?_
            exact pm_R_ret pm_M100 (r := some (.long z522)) rfl rfl (K z522 m_498 h_498 T_498 F_498 W501)
          · have B528 : sf_B 0 11 x4_498 := sf_ltL (Int32.not_le.mp c502) Bx4_498 B5
            refine pm_R_lo pm_M100 (pc_q := 23) rfl rfl rfl ?_
            refine pm_R_lo pm_M100 (pc_q := 24) rfl rfl rfl ?_
            refine pm_R_lo pm_M100 (pc_q := 25) rfl rfl rfl ?_
            refine pm_R_lo pm_M100 (pc_q := 27) rfl rfl rfl ?_
            obtain ⟨f532, e533⟩ := T_498.C 38 (by decide) (by decide)
            obtain ⟨z529, ez530⟩ : ∃ y, f532 (Int32.toNatClampNeg x4_498) = y := ⟨_, rfl⟩
            refine pm_R_iald pm_M100 (pc_q := 28) (v := z529) rfl e533 (T_498.lt (by decide)) (sf_in B528 (by decide) (by decide)) ez530 rfl ?_
            refine pm_R_lo pm_M100 (pc_q := 30) rfl rfl rfl ?_
            refine pm_R_cv pm_M100 (pc_q := 33) (a := 31) (ra := [.int x4_498, .int z529, .ref a0]) (rest := []) (ls_q := [.ref 31, .ref a0, .int z529, .int x4_498, pm_no, pm_no, pm_no]) rfl rfl (Or.inl rfl) pm_M101 T_498.e31 rfl (by decide) (T_498.lt (by decide)) rfl rfl (Nat.le_of_ble_eq_true rfl) rfl rfl ?_
            refine cl_c101 (d := d + 0) G T_498 hk0 B528 (fun m537 h538 T539 F540 W541 => ?_)
            have F542 := F_498.trans (N := 0) (S := 0) F540 (by decide) (by decide) (by decide)
            have W543 : rf_W [] m m537 := W501.trans W541 (by decide)
            have W544 : rf_W [] m m537 := W_498.trans W541 (by decide)
            show pm_R _ 100 33 [.ref 31, .ref a0, .ref 38, .int a2, .int x4_498, g5_498] [] _ _
            refine pm_R_lo pm_M100 (pc_q := 35) rfl rfl rfl ?_
            refine pm_R_op pm_M100 (pc_q := 36) (st_q := [.int 1, .int x4_498]) rfl rfl rfl ?_
            refine sf_R_isub pm_M100 (pc_q := 37) rfl rfl B528 sf_k1 (by decide) (by decide) (fun z545 e546 B547 => ?_)
            refine pm_R_lo pm_M100 (pc_q := 39) (ls_q := [.ref 31, .ref a0, .ref 38, .int a2, .int x4_498, .int z545]) (st_q := []) rfl rfl rfl ?_
            have L_592 : ∀ (N : Nat) (h_592 : pm_H) (m_592 : Nat → Int32) (x5_592 : Int32), cl_T ck E m_592 o h_592 → cl_F ck [32] 0 0 h h_592 → rf_W [] m537 m_592 → sf_B (-1) 10 x5_592 → (x5_592.toInt - (-1)).toNat = N → pm_R (d + 3) 100 39 [.ref 31, .ref a0, .ref 38, .int a2, .int x4_498, .int x5_592] [] h_592 Q := by
              intro N
              induction N using Nat.strongRecOn with
              | ind N ih_592 =>
                intro h_592 m_592 x5_592 T_592 F_592 W_592 Bx5_592 hN_592
                have W595 : rf_W [] m m_592 := W543.trans W_592 (by decide)
                have W596 : rf_W [] m m_592 := W544.trans W_592 (by decide)
                refine pm_R_lo pm_M100 (pc_q := 41) rfl rfl rfl ?_
                refine pm_R_ifc pm_M100 (t := 59) (pc_q := 44) rfl rfl rfl (fun c597 => ?_) (fun c597 => ?_)
                · have B598 : sf_B (-1) (-1) x5_592 := sf_ltL c597 Bx5_592 sf_k0
                  refine sf_R_iinc pm_M100 (pc_q := 62) (ls_q := fun z => [.ref 31, .ref a0, .ref 38, .int a2, .int z, .int x5_592]) rfl B528 rfl (by decide) (by decide) (by decide) (fun _ => rfl) rfl (fun z599 e600 B601 => ?_)
                  show pm_R _ 100 62 [.ref 31, .ref a0, .ref 38, .int a2, .int z599, .int x5_592] [] _ _
                  refine pm_R_br pm_M100 (pc_q := 16) rfl rfl ?_
                  exact ih_498 _ (sf_up hN_498 e600 B528 (by decide) (by decide)) h_592 m_592 z599 (.int x5_592) T_592 F_592 W596 (sf_weak B601 (by decide) (by decide)) rfl rfl
                · have B602 : sf_B 0 10 x5_592 := sf_leR (Int32.not_lt.mp c597) sf_k0 Bx5_592
                  refine pm_R_lo pm_M100 (pc_q := 45) rfl rfl rfl ?_
                  refine pm_R_lo pm_M100 (pc_q := 46) rfl rfl rfl ?_
                  refine pm_R_lo pm_M100 (pc_q := 48) rfl rfl rfl ?_
                  refine pm_R_lo pm_M100 (pc_q := 50) rfl rfl rfl ?_
                  refine pm_R_cv pm_M100 (pc_q := 53) (a := 31) (ra := [.int x4_498, .int x5_592, .ref a0]) (rest := []) (ls_q := [.ref 31, .ref a0, .int x5_592, .int x4_498, pm_no, pm_no, pm_no, pm_no, pm_no, pm_no, pm_no, pm_no, pm_no, pm_no]) rfl rfl (Or.inl rfl) pm_M103 T_592.e31 rfl (by decide) (T_592.lt (by decide)) rfl rfl (Nat.le_of_ble_eq_true rfl) rfl rfl ?_
                  refine cl_c103 (d := d + 0) G T_592 hk0 (sf_weak B602 (by decide) (by decide)) B528 (fun m605 h606 T607 F608 W609 => ?_)
                  have F610 := F_592.trans (N := 0) (S := 0) F608 (by decide) (by decide) (by decide)
                  have W611 : rf_W [] m m605 := W595.trans W609 (by decide)
                  have W612 : rf_W [] m m605 := W596.trans W609 (by decide)
                  have W613 : rf_W [] m537 m605 := W_592.trans W609 (by decide)
                  show pm_R _ 100 53 [.ref 31, .ref a0, .ref 38, .int a2, .int x4_498, .int x5_592] [] _ _
                  refine sf_R_iinc pm_M100 (pc_q := 56) (ls_q := fun z => [.ref 31, .ref a0, .ref 38, .int a2, .int x4_498, .int z]) rfl B602 rfl (by decide) (by decide) (by decide) (fun _ => rfl) rfl (fun z614 e615 B616 => ?_)
                  show pm_R _ 100 56 [.ref 31, .ref a0, .ref 38, .int a2, .int x4_498, .int z614] [] _ _
                  refine pm_R_br pm_M100 (pc_q := 39) rfl rfl ?_
                  exact ih_592 _ (sf_dn hN_592 e615 B602 (by decide) (by decide)) h606 m605 z614 T607 F610 W613 (sf_weak B616 (by decide) (by decide)) rfl
            exact L_592 _ h538 m537 z545 T539 F542 (rf_W.refl _ _) B547 rfl
      exact L_498 _ h m 0 (pm_no) T (cl_F.refl (ck := ck) (A := [32]) (n := 0) (s := 0) T.1) (rf_W.refl _ _) (sf_weak sf_k0 (by decide) (by decide)) rfl rfl
    · have B617 : sf_B 13 2147483647 a2 := sf_ltR (Int32.not_le.mp c4) sf_k12 B3
      refine pm_R_op pm_M100 (pc_q := 12) (st_q := [.long 0]) rfl rfl rfl ?_
      exact pm_R_ret pm_M100 (r := some (.long 0)) rfl rfl (K 0 m h T (cl_F.refl (ck := ck) (A := [32]) (n := 0) (s := 0) T.1) (rf_W.refl [] m))

set_option maxRecDepth 100000 in
set_option maxHeartbeats 4000000 in
/-- SilentTable.setWorn -/
theorem cl_c99 {d : Nat} {ck : cl_K} {E : Nat → pm_E} {m : Nat → Int32} {o : Nat → Option Nat} {h : pm_H} {Q : Option Value → pm_H → Prop} {a0 : Nat} {a1 : Nat} {a2 : Int32} (G : cl_G ck E) (T : cl_T ck E m o h) (hk0 : ck a0 = 1) (hk1 : ck a1 = 7) (Ba2 : sf_B 0 9 a2) (K : ∀ (m_q : Nat → Int32) (h_q : pm_H), cl_T ck E m_q o h_q → cl_F ck [38] 0 0 h h_q → rf_W [] m m_q → Q none h_q) : pm_R (d + 0) 99 0 [.ref 16, .ref a0, .ref a1, .int a2, pm_no] [] h Q := by
  refine pm_R_op pm_M99 (pc_q := 1) (st_q := [.int 0]) rfl rfl rfl ?_
  refine pm_R_lo pm_M99 (pc_q := 3) (ls_q := [.ref 16, .ref a0, .ref a1, .int a2, .int 0]) (st_q := []) rfl rfl rfl ?_
  have L_359 : ∀ (N : Nat) (h_359 : pm_H) (m_359 : Nat → Int32) (x4_359 : Int32), cl_T ck E m_359 o h_359 → cl_F ck [38] 0 0 h h_359 → rf_W [] m m_359 → sf_B 0 12 x4_359 → (12 - x4_359.toInt).toNat = N → pm_R (d + 0) 99 3 [.ref 16, .ref a0, .ref a1, .int a2, .int x4_359] [] h_359 Q := by
    intro N
    induction N using Nat.strongRecOn with
    | ind N ih_359 =>
      intro h_359 m_359 x4_359 T_359 F_359 W_359 Bx4_359 hN_359
      have W362 : rf_W [] m m_359 := (rf_W.refl [] m).trans W_359 (by decide)
      refine pm_R_lo pm_M99 (pc_q := 5) rfl rfl rfl ?_
      refine pm_R_lo pm_M99 (pc_q := 6) rfl rfl rfl ?_
      obtain ⟨n363, f364, h365, h366, eE367, eE368, b369⟩ := (G.2.2.1 a1 hk1).2
      have kq370 := (G.2.2.1 a1 hk1).1
      refine pm_R_get pm_M99 (pc_q := 9) (v := .int (Int32.ofNat n363)) rfl rfl (T_359.im hk1 (by decide) (by decide) eE367) (G.ge hk1 (by decide)) (T_359.al hk1 (by decide)) rfl rfl ?_
      refine pm_R_icmp pm_M99 (t := 42) (pc_q := 12) rfl rfl rfl (fun c371 => ?_) (fun c371 => ?_)
      · have B372 : sf_B 1 12 x4_359 := sf_leR c371 (sf_ofB1 h366 h365 (by decide)) Bx4_359
        exact pm_R_ret pm_M99 (r := none) rfl rfl (K m_359 h_359 T_359 F_359 W362)
      · have B373 : sf_B 0 11 x4_359 := sf_ltL (Int32.not_le.mp c371) Bx4_359 (sf_ofB1 h366 h365 (by decide))
        refine pm_R_lo pm_M99 (pc_q := 13) rfl rfl rfl ?_
        refine pm_R_get pm_M99 (pc_q := 16) (v := .ref 38) rfl rfl T_359.e16 (by decide) (T_359.lt (by decide)) rfl rfl ?_
        refine pm_R_lo pm_M99 (pc_q := 18) rfl rfl rfl ?_
        refine pm_R_lo pm_M99 (pc_q := 19) rfl rfl rfl ?_
        obtain ⟨rc374, tc375, rs376, fv377, fw378, fr379, ft380, fn381, h382, h383, B384, eE385, eE386, eE387, eE388, eE389, eE390, b391, b392, b393⟩ := (G.2.1 a0 hk0).2.2.2.2.2
        have kq394 := G.2.1 a0 hk0
        refine pm_R_get pm_M99 (pc_q := 22) (v := .ref (a0 + 2)) rfl rfl (T_359.im hk0 (by decide) (by decide) eE385) (G.ge hk0 (by decide)) (T_359.al hk0 (by decide)) rfl rfl ?_
        refine pm_R_lo pm_M99 (pc_q := 23) rfl rfl rfl ?_
        refine pm_R_op pm_M99 (pc_q := 25) (st_q := [.int 10, .int a2, .ref (a0 + 2), .int x4_359, .ref 38]) rfl rfl rfl ?_
        refine sf_R_imul pm_M99 (pc_q := 26) rfl rfl Ba2 sf_k10 (by decide) (by decide) (by decide) (fun z395 e396 B397 => ?_)
        refine pm_R_lo pm_M99 (pc_q := 27) rfl rfl rfl ?_
        refine pm_R_get pm_M99 (pc_q := 30) (v := .ref (a1 + 1)) rfl rfl (T_359.im hk1 (by decide) (by decide) eE367) (G.ge hk1 (by decide)) (T_359.al hk1 (by decide)) rfl rfl ?_
        refine pm_R_lo pm_M99 (pc_q := 32) rfl rfl rfl ?_
        have q401 := cl_in1 (n := n363) (Nat.le_trans h366 (by decide)) (Int32.not_le.mp c371) B373 (by decide)
        obtain ⟨z398, ez399⟩ : ∃ y, f364 (Int32.toNatClampNeg x4_359) = y := ⟨_, rfl⟩
        have B400 : sf_B 0 9 z398 := ez399 ▸ b369 _
        refine pm_R_iald pm_M99 (pc_q := 33) (v := z398) rfl (T_359.im kq370 (by decide) (by decide) eE368) (T_359.al kq370 (by decide)) q401.1 ez399 rfl ?_
        refine sf_R_iadd pm_M99 (pc_q := 34) rfl rfl B397 B400 (by decide) (by decide) (fun z402 e403 B404 => ?_)
        obtain ⟨z405, ez406⟩ : ∃ y, fw378 (Int32.toNatClampNeg z402) = y := ⟨_, rfl⟩
        refine pm_R_iald pm_M99 (pc_q := 35) (v := z405) rfl (T_359.im kq394.2.1 (by decide) (by decide) eE387) (T_359.al kq394.2.1 (by decide)) (sf_in B404 (by decide) (by decide)) ez406 rfl ?_
        obtain ⟨f408, e409⟩ := T_359.C 38 (by decide) (by decide)
        refine cl_R_ist G pm_M99 T_359 (pc_q := 36) rfl e409 (by decide) ⟨_, rfl⟩ (sf_in B373 (by decide) (by decide)) rfl (fun h411 T412 F413 e414 => ?_)
        have F415 := F413.cl (ck := ck) T_359.1
        have F416 := F_359.trans (N := 0) (S := 0) F415 (by decide) (by decide) (by decide)
        refine sf_R_iinc pm_M99 (pc_q := 39) (ls_q := fun z => [.ref 16, .ref a0, .ref a1, .int a2, .int z]) rfl B373 rfl (by decide) (by decide) (by decide) (fun _ => rfl) rfl (fun z417 e418 B419 => ?_)
        show pm_R _ 99 39 [.ref 16, .ref a0, .ref a1, .int a2, .int z417] [] _ _
        refine pm_R_br pm_M99 (pc_q := 3) rfl rfl ?_
        exact ih_359 _ (sf_up hN_359 e418 B373 (by decide) (by decide)) h411 m_359 z417 T412 F416 W_359 (sf_weak B419 (by decide) (by decide)) rfl
  exact L_359 _ h m 0 T (cl_F.refl (ck := ck) (A := [38]) (n := 0) (s := 0) T.1) (rf_W.refl _ _) (sf_weak sf_k0 (by decide) (by decide)) rfl

set_option maxRecDepth 100000 in
set_option maxHeartbeats 4000000 in
/-- SilentTable.wornMeanings -/
theorem cl_c98 {d : Nat} {ck : cl_K} {E : Nat → pm_E} {m : Nat → Int32} {o : Nat → Option Nat} {h : pm_H} {Q : Option Value → pm_H → Prop} {a0 : Nat} {a1 : Nat} {a2 : Int32} (G : cl_G ck E) (T : cl_T ck E m o h) (hk0 : ck a0 = 1) (hk1 : ck a1 = 7) (Ba2 : sf_B 0 9 a2) (K : ∀ (r : Int64) (m_q : Nat → Int32) (h_q : pm_H), cl_T ck E m_q o h_q → cl_F ck [32, 38] 0 0 h h_q → rf_W [] m m_q → Q (some (.long r)) h_q) : pm_R (d + 4) 98 0 [.ref 16, .ref a0, .ref a1, .int a2] [] h Q := by
  refine pm_R_lo pm_M98 (pc_q := 1) rfl rfl rfl ?_
  refine pm_R_lo pm_M98 (pc_q := 2) rfl rfl rfl ?_
  refine pm_R_lo pm_M98 (pc_q := 3) rfl rfl rfl ?_
  refine pm_R_lo pm_M98 (pc_q := 4) rfl rfl rfl ?_
  refine pm_R_cv pm_M98 (pc_q := 7) (a := 16) (ra := [.int a2, .ref a1, .ref a0]) (rest := []) (ls_q := [.ref 16, .ref a0, .ref a1, .int a2, pm_no]) rfl rfl (Or.inl rfl) pm_M99 T.e16 rfl (by decide) (T.lt (by decide)) rfl rfl (Nat.le_of_ble_eq_true rfl) rfl rfl ?_
  refine cl_c99 (d := d + 3) G T hk0 hk1 Ba2 (fun m3 h4 T5 F6 W7 => ?_)
  have F8 := (cl_F.refl (ck := ck) (A := [32, 38]) (n := 0) (s := 0) T.1).trans (N := 0) (S := 0) F6 (by decide) (by decide) (by decide)
  have W9 : rf_W [] m m3 := (rf_W.refl [] m).trans W7 (by decide)
  show pm_R _ 98 7 [.ref 16, .ref a0, .ref a1, .int a2] [] _ _
  refine pm_R_lo pm_M98 (pc_q := 8) rfl rfl rfl ?_
  refine pm_R_get pm_M98 (pc_q := 11) (v := .ref 31) rfl rfl T5.e16 (by decide) (T5.lt (by decide)) rfl rfl ?_
  refine pm_R_lo pm_M98 (pc_q := 12) rfl rfl rfl ?_
  refine pm_R_lo pm_M98 (pc_q := 13) rfl rfl rfl ?_
  refine pm_R_get pm_M98 (pc_q := 16) (v := .ref 38) rfl rfl T5.e16 (by decide) (T5.lt (by decide)) rfl rfl ?_
  refine pm_R_lo pm_M98 (pc_q := 17) rfl rfl rfl ?_
  obtain ⟨n10, f11, h12, h13, eE14, eE15, b16⟩ := (G.2.2.1 a1 hk1).2
  have kq17 := (G.2.2.1 a1 hk1).1
  refine pm_R_get pm_M98 (pc_q := 20) (v := .int (Int32.ofNat n10)) rfl rfl (T5.im hk1 (by decide) (by decide) eE14) (G.ge hk1 (by decide)) (T5.al hk1 (by decide)) rfl rfl ?_
  refine pm_R_cv pm_M98 (pc_q := 23) (a := 31) (ra := [.int (Int32.ofNat n10), .ref 38, .ref a0]) (rest := []) (ls_q := [.ref 31, .ref a0, .ref 38, .int (Int32.ofNat n10), pm_no, pm_no]) rfl rfl (Or.inl rfl) pm_M100 T5.e31 rfl (by decide) (T5.lt (by decide)) rfl rfl (Nat.le_of_ble_eq_true rfl) rfl rfl ?_
  refine cl_c100 (d := d + 0) G T5 hk0 (fun r18 m20 h21 T22 F23 W24 => ?_)
  have F25 := F8.trans (N := 0) (S := 0) F23 (by decide) (by decide) (by decide)
  have W26 : rf_W [] m m20 := W9.trans W24 (by decide)
  show pm_R _ 98 23 [.ref 16, .ref a0, .ref a1, .int a2] [.long r18] _ _
  exact pm_R_ret pm_M98 (r := some (.long r18)) rfl rfl (K r18 m20 h21 T22 F25 W26)

theorem cl_aux10 (v0 v1 v2 v3 : Int) (q0 : v0 = v1 + 1) (q1 : v2 = v3 - 1) (q2 : v1 < v2) : v0 < v3 := by omega
theorem cl_aux11 (v0 v1 v2 : Int) (q0 : v0 = v1 - 1) (q1 : v2 < v0) : v2 < v1 := by omega
set_option maxRecDepth 100000 in
set_option maxHeartbeats 4000000 in
/-- SilentTable.meaningsWithout -/
theorem cl_c114 {d : Nat} {ck : cl_K} {E : Nat → pm_E} {m : Nat → Int32} {o : Nat → Option Nat} {h : pm_H} {Q : Option Value → pm_H → Prop} {a0 : Nat} {a1 : Nat} {a2 : Int32} (G : cl_G ck E) (T : cl_T ck E m o h) (hk0 : ck a0 = 1) (hk1 : ck a1 = 7) (Ba2 : sf_B 0 11 a2) (K : ∀ (r : Int64) (m_q : Nat → Int32) (h_q : pm_H), cl_T ck E m_q o h_q → cl_F ck [32, 38] 0 0 h h_q → rf_W [] m m_q → Q (some (.long r)) h_q) : pm_R (d + 4) 114 0 [.ref 16, .ref a0, .ref a1, .int a2, pm_no] [] h Q := by
  refine pm_R_op pm_M114 (pc_q := 1) (st_q := [.int 0]) rfl rfl rfl ?_
  refine pm_R_lo pm_M114 (pc_q := 3) (ls_q := [.ref 16, .ref a0, .ref a1, .int a2, .int 0]) (st_q := []) rfl rfl rfl ?_
  have L_361 : ∀ (N : Nat) (h_361 : pm_H) (m_361 : Nat → Int32) (x4_361 : Int32), cl_T ck E m_361 o h_361 → cl_F ck [32, 38] 0 0 h h_361 → rf_W [] m m_361 → sf_B 0 11 x4_361 → (11 - x4_361.toInt).toNat = N → pm_R (d + 4) 114 3 [.ref 16, .ref a0, .ref a1, .int a2, .int x4_361] [] h_361 Q := by
    intro N
    induction N using Nat.strongRecOn with
    | ind N ih_361 =>
      intro h_361 m_361 x4_361 T_361 F_361 W_361 Bx4_361 hN_361
      have W364 : rf_W [] m m_361 := (rf_W.refl [] m).trans W_361 (by decide)
      refine pm_R_lo pm_M114 (pc_q := 5) rfl rfl rfl ?_
      refine pm_R_lo pm_M114 (pc_q := 6) rfl rfl rfl ?_
      obtain ⟨n365, f366, h367, h368, eE369, eE370, b371⟩ := (G.2.2.1 a1 hk1).2
      have kq372 := (G.2.2.1 a1 hk1).1
      refine pm_R_get pm_M114 (pc_q := 9) (v := .int (Int32.ofNat n365)) rfl rfl (T_361.im hk1 (by decide) (by decide) eE369) (G.ge hk1 (by decide)) (T_361.al hk1 (by decide)) rfl rfl ?_
      refine pm_R_op pm_M114 (pc_q := 10) (st_q := [.int 1, .int (Int32.ofNat n365), .int x4_361]) rfl rfl rfl ?_
      refine sf_R_isub pm_M114 (pc_q := 11) rfl rfl (sf_ofB1 h368 h367 (by decide)) sf_k1 (by decide) (by decide) (fun z373 e374 B375 => ?_)
      refine pm_R_icmp pm_M114 (t := 49) (pc_q := 14) rfl rfl rfl (fun c376 => ?_) (fun c376 => ?_)
      · skip
        refine pm_R_lo pm_M114 (pc_q := 50) rfl rfl rfl ?_
        refine pm_R_get pm_M114 (pc_q := 53) (v := .ref 31) rfl rfl T_361.e16 (by decide) (T_361.lt (by decide)) rfl rfl ?_
        refine pm_R_lo pm_M114 (pc_q := 54) rfl rfl rfl ?_
        refine pm_R_lo pm_M114 (pc_q := 55) rfl rfl rfl ?_
        refine pm_R_get pm_M114 (pc_q := 58) (v := .ref 38) rfl rfl T_361.e16 (by decide) (T_361.lt (by decide)) rfl rfl ?_
        refine pm_R_lo pm_M114 (pc_q := 59) rfl rfl rfl ?_
        refine pm_R_get pm_M114 (pc_q := 62) (v := .int (Int32.ofNat n365)) rfl rfl (T_361.im hk1 (by decide) (by decide) eE369) (G.ge hk1 (by decide)) (T_361.al hk1 (by decide)) rfl rfl ?_
        refine pm_R_op pm_M114 (pc_q := 63) (st_q := [.int 1, .int (Int32.ofNat n365), .ref 38, .ref a0, .ref 31]) rfl rfl rfl ?_
        refine sf_R_isubV pm_M114 (pc_q := 64) rfl rfl (sf_ofB1 h368 h367 (by decide)) sf_k1 (by decide) (by decide) e374 ?_
        refine pm_R_cv pm_M114 (pc_q := 67) (a := 31) (ra := [.int z373, .ref 38, .ref a0]) (rest := []) (ls_q := [.ref 31, .ref a0, .ref 38, .int z373, pm_no, pm_no]) rfl rfl (Or.inl rfl) pm_M100 T_361.e31 rfl (by decide) (T_361.lt (by decide)) rfl rfl (Nat.le_of_ble_eq_true rfl) rfl rfl ?_
        refine cl_c100 (d := d + 0) G T_361 hk0 (fun r377 m379 h380 T381 F382 W383 => ?_)
        have F384 := F_361.trans (N := 0) (S := 0) F382 (by decide) (by decide) (by decide)
        have W385 : rf_W [] m m379 := W364.trans W383 (by decide)
        have W386 : rf_W [] m m379 := W_361.trans W383 (by decide)
        show pm_R _ 114 67 [.ref 16, .ref a0, .ref a1, .int a2, .int x4_361] [.long r377] _ _
        exact pm_R_ret pm_M114 (r := some (.long r377)) rfl rfl (K r377 m379 h380 T381 F384 W385)
      · have B387 : sf_B 0 10 x4_361 := sf_ltL (Int32.not_le.mp c376) Bx4_361 B375
        have B388 : sf_B 1 11 z373 := sf_ltR (Int32.not_le.mp c376) Bx4_361 B375
        refine pm_R_lo pm_M114 (pc_q := 15) rfl rfl rfl ?_
        refine pm_R_get pm_M114 (pc_q := 18) (v := .ref 38) rfl rfl T_361.e16 (by decide) (T_361.lt (by decide)) rfl rfl ?_
        refine pm_R_lo pm_M114 (pc_q := 20) rfl rfl rfl ?_
        refine pm_R_op pm_M114 (pc_q := 21) (st_q := [.int 1, .int x4_361, .ref 38]) rfl rfl rfl ?_
        refine pm_R_lo pm_M114 (pc_q := 22) rfl rfl rfl ?_
        refine pm_R_get pm_M114 (pc_q := 25) (v := .ref (a1 + 1)) rfl rfl (T_361.im hk1 (by decide) (by decide) eE369) (G.ge hk1 (by decide)) (T_361.al hk1 (by decide)) rfl rfl ?_
        refine pm_R_lo pm_M114 (pc_q := 27) rfl rfl rfl ?_
        refine pm_R_lo pm_M114 (pc_q := 28) rfl rfl rfl ?_
        refine pm_R_icmp pm_M114 (t := 36) (pc_q := 31) rfl rfl rfl (fun c389 => ?_) (fun c389 => ?_)
        · have B390 : sf_B 0 10 a2 := sf_leL c389 Ba2 B387
          refine pm_R_lo pm_M114 (pc_q := 38) rfl rfl rfl ?_
          refine pm_R_op pm_M114 (pc_q := 39) (st_q := [.int 1, .int x4_361, .ref (a1 + 1), .int 1, .int x4_361, .ref 38]) rfl rfl rfl ?_
          refine sf_R_iadd pm_M114 (pc_q := 40) rfl rfl B387 sf_k1 (by decide) (by decide) (fun z391 e392 B393 => ?_)
          have q397 := cl_in1 (n := n365) (Nat.le_trans h368 (by decide)) (Int32.lt_iff_toInt_lt.mpr (cl_aux10 _ _ _ _ e392 e374 (Int32.lt_iff_toInt_lt.mp (Int32.not_le.mp c376)))) B393 (by decide)
          obtain ⟨z394, ez395⟩ : ∃ y, f366 (Int32.toNatClampNeg z391) = y := ⟨_, rfl⟩
          have B396 : sf_B 0 9 z394 := ez395 ▸ b371 _
          refine pm_R_iald pm_M114 (pc_q := 41) (v := z394) rfl (T_361.im kq372 (by decide) (by decide) eE370) (T_361.al kq372 (by decide)) q397.1 ez395 rfl ?_
          refine sf_R_iany pm_M114 (pc_q := 42) (st := [.int x4_361, .ref 38]) rfl rfl rfl (fun z401 => ?_)
          obtain ⟨f402, e403⟩ := T_361.C 38 (by decide) (by decide)
          refine cl_R_ist G pm_M114 T_361 (pc_q := 43) rfl e403 (by decide) ⟨_, rfl⟩ (sf_in B387 (by decide) (by decide)) rfl (fun h405 T406 F407 e408 => ?_)
          have F409 := F407.cl (ck := ck) T_361.1
          have F410 := F_361.trans (N := 0) (S := 0) F409 (by decide) (by decide) (by decide)
          refine sf_R_iinc pm_M114 (pc_q := 46) (ls_q := fun z => [.ref 16, .ref a0, .ref a1, .int a2, .int z]) rfl B387 rfl (by decide) (by decide) (by decide) (fun _ => rfl) rfl (fun z411 e412 B413 => ?_)
          show pm_R _ 114 46 [.ref 16, .ref a0, .ref a1, .int a2, .int z411] [] _ _
          refine pm_R_br pm_M114 (pc_q := 3) rfl rfl ?_
          exact ih_361 _ (sf_up hN_361 e412 B387 (by decide) (by decide)) h405 m_361 z411 T406 F410 W_361 (sf_weak B413 (by decide) (by decide)) rfl
        · have B414 : sf_B 1 11 a2 := sf_ltR (Int32.not_le.mp c389) B387 Ba2
          refine pm_R_lo pm_M114 (pc_q := 33) rfl rfl rfl ?_
          refine pm_R_br pm_M114 (pc_q := 40) rfl rfl ?_
          have q418 := cl_in1 (n := n365) (Nat.le_trans h368 (by decide)) (Int32.lt_iff_toInt_lt.mpr (cl_aux11 _ _ _ e374 (Int32.lt_iff_toInt_lt.mp (Int32.not_le.mp c376)))) B387 (by decide)
          obtain ⟨z415, ez416⟩ : ∃ y, f366 (Int32.toNatClampNeg x4_361) = y := ⟨_, rfl⟩
          have B417 : sf_B 0 9 z415 := ez416 ▸ b371 _
          refine pm_R_iald pm_M114 (pc_q := 41) (v := z415) rfl (T_361.im kq372 (by decide) (by decide) eE370) (T_361.al kq372 (by decide)) q418.1 ez416 rfl ?_
          refine sf_R_iany pm_M114 (pc_q := 42) (st := [.int x4_361, .ref 38]) rfl rfl rfl (fun z422 => ?_)
          obtain ⟨f423, e424⟩ := T_361.C 38 (by decide) (by decide)
          refine cl_R_ist G pm_M114 T_361 (pc_q := 43) rfl e424 (by decide) ⟨_, rfl⟩ (sf_in B387 (by decide) (by decide)) rfl (fun h426 T427 F428 e429 => ?_)
          have F430 := F428.cl (ck := ck) T_361.1
          have F431 := F_361.trans (N := 0) (S := 0) F430 (by decide) (by decide) (by decide)
          refine sf_R_iinc pm_M114 (pc_q := 46) (ls_q := fun z => [.ref 16, .ref a0, .ref a1, .int a2, .int z]) rfl B387 rfl (by decide) (by decide) (by decide) (fun _ => rfl) rfl (fun z432 e433 B434 => ?_)
          show pm_R _ 114 46 [.ref 16, .ref a0, .ref a1, .int a2, .int z432] [] _ _
          refine pm_R_br pm_M114 (pc_q := 3) rfl rfl ?_
          exact ih_361 _ (sf_up hN_361 e433 B387 (by decide) (by decide)) h426 m_361 z432 T427 F431 W_361 (sf_weak B434 (by decide) (by decide)) rfl
  exact L_361 _ h m 0 T (cl_F.refl (ck := ck) (A := [32, 38]) (n := 0) (s := 0) T.1) (rf_W.refl _ _) (sf_weak sf_k0 (by decide) (by decide)) rfl

theorem cl_aux12 (v0 v1 v2 v3 : Int) (q0 : v0 = v1 + 1) (q1 : 0 ≤ v2) (q2 : v2 ≤ 49) (q3 : 0 ≤ v1) (q4 : v1 ≤ 49) (q5 : v2 ≤ v1) (q6 : v1 ≤ v3) : v2 ≤ v0 := by omega
theorem cl_aux13 (v0 v1 v2 v3 v4 : Int) (q0 : v0 = v1 + 1) (q1 : v2 = v3 + 1) (q2 : 0 ≤ v1) (q3 : v1 ≤ 49) (q4 : 0 ≤ v3) (q5 : v3 ≤ 49) (q6 : v1 ≤ v3) (q7 : v3 ≤ v4) : v0 ≤ v2 := by omega
set_option maxRecDepth 100000 in
set_option maxHeartbeats 4000000 in
/-- SilentTable$Meal.hear -/
theorem cl_c146 {d : Nat} {ck : cl_K} {E : Nat → pm_E} {m : Nat → Int32} {o : Nat → Option Nat} {h : pm_H} {Q : Option Value → pm_H → Prop} {a : Nat} {a0 : Int32} {a1 : Int32} (G : cl_G ck E) (T : cl_T ck E m o h) (hk : ck a = 9) (Ba0 : sf_B (-1) 5 a0) (Ba1 : sf_B 0 5 a1) (K : ∀ (r : Int32) (m_q : Nat → Int32) (h_q : pm_H), cl_T ck E m_q o h_q → cl_F ck [39] 0 0 h h_q → rf_W [] m m_q → sf_B 0 50 r → Q (some (.int r)) h_q) : pm_R (d + 1) 146 0 [.ref a, .int a0, .int a1, .ref 39, pm_no, pm_no] [] h Q := by
  refine pm_R_op pm_M146 (pc_q := 1) (st_q := [.int 0]) rfl rfl rfl ?_
  refine pm_R_lo pm_M146 (pc_q := 3) (ls_q := [.ref a, .int a0, .int a1, .ref 39, .int 0, pm_no]) (st_q := []) rfl rfl rfl ?_
  refine pm_R_op pm_M146 (pc_q := 4) (st_q := [.int 0]) rfl rfl rfl ?_
  refine pm_R_lo pm_M146 (pc_q := 6) (ls_q := [.ref a, .int a0, .int a1, .ref 39, .int 0, .int 0]) (st_q := []) rfl rfl rfl ?_
  have L_558 : ∀ (N : Nat) (h_558 : pm_H) (m_558 : Nat → Int32) (x4_558 : Int32) (x5_558 : Int32), cl_T ck E m_558 o h_558 → cl_F ck [39] 0 0 h h_558 → rf_W [] m m_558 → sf_B 0 50 x4_558 → sf_B 0 50 x5_558 → x4_558.toInt ≤ x5_558.toInt → (50 - x5_558.toInt).toNat = N → pm_R (d + 1) 146 6 [.ref a, .int a0, .int a1, .ref 39, .int x4_558, .int x5_558] [] h_558 Q := by
    intro N
    induction N using Nat.strongRecOn with
    | ind N ih_558 =>
      intro h_558 m_558 x4_558 x5_558 T_558 F_558 W_558 Bx4_558 Bx5_558 R0_558 hN_558
      have W561 : rf_W [] m m_558 := (rf_W.refl [] m).trans W_558 (by decide)
      refine pm_R_lo pm_M146 (pc_q := 8) rfl rfl rfl ?_
      refine pm_R_lo pm_M146 (pc_q := 9) rfl rfl rfl ?_
      obtain ⟨s562, n563, fd564, fg565, fs566, h567, h568, h569, eE570, eE571, eE572, eE573, b574⟩ := (G.2.2.2.1 a hk).2.2.2
      have kq575 := G.2.2.2.1 a hk
      refine pm_R_get pm_M146 (pc_q := 12) (v := .int (Int32.ofNat n563)) rfl rfl (T_558.im hk (by decide) (by decide) eE570) (G.ge hk (by decide)) (T_558.al hk (by decide)) rfl rfl ?_
      refine pm_R_icmp pm_M146 (t := 72) (pc_q := 15) rfl rfl rfl (fun c576 => ?_) (fun c576 => ?_)
      · skip
        refine pm_R_lo pm_M146 (pc_q := 74) rfl rfl rfl ?_
        exact pm_R_ret pm_M146 (r := some (.int x4_558)) rfl (pm_ret_i _) (K x4_558 m_558 h_558 T_558 F_558 W561 Bx4_558)
      · have B577 : sf_B 0 49 x5_558 := sf_ltL (Int32.not_le.mp c576) Bx5_558 (sf_ofB h569 (by decide))
        have B578 : sf_B 0 49 x4_558 := sf_leT R0_558 Bx4_558 B577
        have B579 : sf_B 1 50 (Int32.ofNat n563) := sf_ltR (Int32.not_le.mp c576) Bx5_558 (sf_ofB h569 (by decide))
        refine pm_R_lo pm_M146 (pc_q := 16) rfl rfl rfl ?_
        refine pm_R_lo pm_M146 (pc_q := 18) rfl rfl rfl ?_
        refine pm_R_cv pm_M146 (pc_q := 21) (a := a) (ra := [.int x5_558]) (rest := []) (ls_q := [.ref a, .int x5_558]) rfl rfl (Or.inl rfl) pm_M51 (T_558.im hk (by decide) (by decide) eE570) rfl (G.ge hk (by decide)) (T_558.al hk (by decide)) rfl rfl (Nat.le_of_ble_eq_true rfl) rfl rfl ?_
        refine pm_R_lo pm_M51 (pc_q := 1) rfl rfl rfl ?_
        refine pm_R_get pm_M51 (pc_q := 4) (v := .ref (a + 1)) rfl rfl (T_558.im hk (by decide) (by decide) eE570) (G.ge hk (by decide)) (T_558.al hk (by decide)) rfl rfl ?_
        refine pm_R_lo pm_M51 (pc_q := 5) rfl rfl rfl ?_
        refine pm_R_op pm_M51 (pc_q := 6) (st_q := [.int 4, .int x5_558, .ref (a + 1)]) rfl rfl rfl ?_
        refine sf_R_imul pm_M51 (pc_q := 7) rfl rfl B577 sf_k4 (by decide) (by decide) (by decide) (fun z580 e581 B582 => ?_)
        have q586 := cl_in4 (n := n563) (Nat.le_trans h569 (by decide)) (Int32.not_le.mp c576) (cl_aux5 _ _ e581) B577 (by decide) (by decide)
        obtain ⟨z583, ez584⟩ : ∃ y, fd564 (Int32.toNatClampNeg z580) = y := ⟨_, rfl⟩
        have B585 : sf_B 0 2 z583 := ez584 ▸ q586.2.2 ▸ (b574 _ q586.2.1).1
        refine pm_R_iald pm_M51 (pc_q := 8) (v := z583) rfl (T_558.im kq575.1 (by decide) (by decide) eE571) (T_558.al kq575.1 (by decide)) q586.1 ez584 rfl ?_
        refine pm_R_op pm_M51 (pc_q := 9) (st_q := [.int 2, .int z583]) rfl rfl rfl ?_
        refine pm_R_icmp pm_M51 (t := 16) (pc_q := 12) rfl rfl rfl (fun c587 => ?_) (fun c587 => ?_)
        · have B588 : sf_B 0 1 z583 := sf_neH0 c587 sf_k2 B585
          refine pm_R_op pm_M51 (pc_q := 17) (st_q := [.int 0]) rfl rfl rfl ?_
          refine pm_R_ret pm_M51 (r := some (.int 0)) rfl rfl ?_
          show pm_R _ 146 21 [.ref a, .int a0, .int a1, .ref 39, .int x4_558, .int x5_558] [.int 0] _ _
          refine pm_R_br pm_M146 (pc_q := 66) (st_q := []) rfl rfl ?_
          refine sf_R_iinc pm_M146 (pc_q := 69) (ls_q := fun z => [.ref a, .int a0, .int a1, .ref 39, .int x4_558, .int z]) rfl B577 rfl (by decide) (by decide) (by decide) (fun _ => rfl) rfl (fun z589 e590 B591 => ?_)
          show pm_R _ 146 69 [.ref a, .int a0, .int a1, .ref 39, .int x4_558, .int z589] [] _ _
          refine pm_R_br pm_M146 (pc_q := 6) rfl rfl ?_
          exact ih_558 _ (sf_up hN_558 e590 B577 (by decide) (by decide)) h_558 m_558 x4_558 z589 T_558 F_558 W_558 (sf_weak B578 (by decide) (by decide)) (sf_weak B591 (by decide) (by decide)) (cl_aux12 _ _ _ _ e590 B578.1 B578.2 B577.1 B577.2 R0_558 (Int.le_of_lt (Int32.lt_iff_toInt_lt.mp (Int32.not_le.mp c576)))) rfl
        · have B592 : sf_B 2 2 z583 := sf_eqL (Classical.not_not.mp c587) sf_k2
          refine pm_R_op pm_M51 (pc_q := 13) (st_q := [.int 1]) rfl rfl rfl ?_
          refine pm_R_br pm_M51 (pc_q := 17) rfl rfl ?_
          refine pm_R_ret pm_M51 (r := some (.int 1)) rfl rfl ?_
          show pm_R _ 146 21 [.ref a, .int a0, .int a1, .ref 39, .int x4_558, .int x5_558] [.int 1] _ _
          refine pm_R_br pm_M146 (pc_q := 24) (st_q := []) rfl rfl ?_
          refine pm_R_lo pm_M146 (pc_q := 25) rfl rfl rfl ?_
          refine pm_R_lo pm_M146 (pc_q := 27) rfl rfl rfl ?_
          refine pm_R_cv pm_M146 (pc_q := 30) (a := a) (ra := [.int x5_558]) (rest := []) (ls_q := [.ref a, .int x5_558]) rfl rfl (Or.inl rfl) pm_M52 (T_558.im hk (by decide) (by decide) eE570) rfl (G.ge hk (by decide)) (T_558.al hk (by decide)) rfl rfl (Nat.le_of_ble_eq_true rfl) rfl rfl ?_
          refine pm_R_lo pm_M52 (pc_q := 1) rfl rfl rfl ?_
          refine pm_R_get pm_M52 (pc_q := 4) (v := .ref (a + 1)) rfl rfl (T_558.im hk (by decide) (by decide) eE570) (G.ge hk (by decide)) (T_558.al hk (by decide)) rfl rfl ?_
          refine pm_R_lo pm_M52 (pc_q := 5) rfl rfl rfl ?_
          refine pm_R_op pm_M52 (pc_q := 6) (st_q := [.int 4, .int x5_558, .ref (a + 1)]) rfl rfl rfl ?_
          refine sf_R_imulV pm_M52 (pc_q := 7) rfl rfl B577 sf_k4 (by decide) (by decide) (by decide) e581 ?_
          refine pm_R_op pm_M52 (pc_q := 8) (st_q := [.int 1, .int z580, .ref (a + 1)]) rfl rfl rfl ?_
          refine sf_R_iadd pm_M52 (pc_q := 9) rfl rfl B582 sf_k1 (by decide) (by decide) (fun z593 e594 B595 => ?_)
          have q599 := cl_in4 (n := n563) (Nat.le_trans h569 (by decide)) (Int32.not_le.mp c576) (cl_aux7 _ _ _ e581 e594) B577 (by decide) (by decide)
          obtain ⟨z596, ez597⟩ : ∃ y, fd564 (Int32.toNatClampNeg z593) = y := ⟨_, rfl⟩
          have B598 : sf_B 0 5 z596 := ez597 ▸ q599.2.2 ▸ (cl_seat (b574 _ q599.2.1).2.1 h568)
          refine pm_R_iald pm_M52 (pc_q := 10) (v := z596) rfl (T_558.im kq575.1 (by decide) (by decide) eE571) (T_558.al kq575.1 (by decide)) q599.1 ez597 rfl ?_
          refine pm_R_ret pm_M52 (r := some (.int z596)) rfl (pm_ret_i _) ?_
          show pm_R _ 146 30 [.ref a, .int a0, .int a1, .ref 39, .int x4_558, .int x5_558] [.int z596] _ _
          refine pm_R_lo pm_M146 (pc_q := 31) rfl rfl rfl ?_
          refine pm_R_icmp pm_M146 (t := 66) (pc_q := 34) rfl rfl rfl (fun c600 => ?_) (fun c600 => ?_)
          · skip
            refine sf_R_iinc pm_M146 (pc_q := 69) (ls_q := fun z => [.ref a, .int a0, .int a1, .ref 39, .int x4_558, .int z]) rfl B577 rfl (by decide) (by decide) (by decide) (fun _ => rfl) rfl (fun z601 e602 B603 => ?_)
            show pm_R _ 146 69 [.ref a, .int a0, .int a1, .ref 39, .int x4_558, .int z601] [] _ _
            refine pm_R_br pm_M146 (pc_q := 6) rfl rfl ?_
            exact ih_558 _ (sf_up hN_558 e602 B577 (by decide) (by decide)) h_558 m_558 x4_558 z601 T_558 F_558 W_558 (sf_weak B578 (by decide) (by decide)) (sf_weak B603 (by decide) (by decide)) (cl_aux12 _ _ _ _ e602 B578.1 B578.2 B577.1 B577.2 R0_558 (Int.le_of_lt (Int32.lt_iff_toInt_lt.mp (Int32.not_le.mp c576)))) rfl
          · refine pm_R_lo pm_M146 (pc_q := 35) rfl rfl rfl ?_
            refine pm_R_op pm_M146 (pc_q := 36) (st_q := [.int (-1), .int a0]) rfl rfl rfl ?_
            refine pm_R_icmp pm_M146 (t := 53) (pc_q := 39) rfl rfl rfl (fun c604 => ?_) (fun c604 => ?_)
            · have B605 : sf_B (-1) (-1) a0 := sf_eqL c604 sf_kn1
              refine pm_R_lo pm_M146 (pc_q := 54) rfl rfl rfl ?_
              refine pm_R_lo pm_M146 (pc_q := 56) rfl rfl rfl ?_
              refine pm_R_lo pm_M146 (pc_q := 57) rfl rfl rfl ?_
              refine pm_R_lo pm_M146 (pc_q := 59) rfl rfl rfl ?_
              refine pm_R_cv pm_M146 (pc_q := 62) (a := a) (ra := [.int x5_558]) (rest := [.int x4_558, .ref 39]) (ls_q := [.ref a, .int x5_558]) rfl rfl (Or.inl rfl) pm_M147 (T_558.im hk (by decide) (by decide) eE570) rfl (G.ge hk (by decide)) (T_558.al hk (by decide)) rfl rfl (Nat.le_of_ble_eq_true rfl) rfl rfl ?_
              refine pm_R_lo pm_M147 (pc_q := 1) rfl rfl rfl ?_
              refine pm_R_get pm_M147 (pc_q := 4) (v := .ref (a + 1)) rfl rfl (T_558.im hk (by decide) (by decide) eE570) (G.ge hk (by decide)) (T_558.al hk (by decide)) rfl rfl ?_
              refine pm_R_lo pm_M147 (pc_q := 5) rfl rfl rfl ?_
              refine pm_R_op pm_M147 (pc_q := 6) (st_q := [.int 4, .int x5_558, .ref (a + 1)]) rfl rfl rfl ?_
              refine sf_R_imulV pm_M147 (pc_q := 7) rfl rfl B577 sf_k4 (by decide) (by decide) (by decide) e581 ?_
              refine pm_R_op pm_M147 (pc_q := 8) (st_q := [.int 2, .int z580, .ref (a + 1)]) rfl rfl rfl ?_
              refine sf_R_iadd pm_M147 (pc_q := 9) rfl rfl B582 sf_k2 (by decide) (by decide) (fun z606 e607 B608 => ?_)
              have q612 := cl_in4 (n := n563) (Nat.le_trans h569 (by decide)) (Int32.not_le.mp c576) (cl_aux6 _ _ _ e581 e607) B577 (by decide) (by decide)
              obtain ⟨z609, ez610⟩ : ∃ y, fd564 (Int32.toNatClampNeg z606) = y := ⟨_, rfl⟩
              have B611 : sf_B (-1) 9 z609 := ez610 ▸ q612.2.2 ▸ (b574 _ q612.2.1).2.2.1
              have B613 : sf_B 0 9 z609 := cl_sign (b574 _ q612.2.1).2.2.2 q586.2.2 ez584 (Classical.not_not.mp c587) q612.2.2 ez610 B611 (by decide)
              refine pm_R_iald pm_M147 (pc_q := 10) (v := z609) rfl (T_558.im kq575.1 (by decide) (by decide) eE571) (T_558.al kq575.1 (by decide)) q612.1 ez610 rfl ?_
              refine pm_R_ret pm_M147 (r := some (.int z609)) rfl (pm_ret_i _) ?_
              show pm_R _ 146 62 [.ref a, .int a0, .int a1, .ref 39, .int x4_558, .int x5_558] [.int z609, .int x4_558, .ref 39] _ _
              obtain ⟨f614, e615⟩ := T_558.C 39 (by decide) (by decide)
              refine cl_R_ist G pm_M146 T_558 (pc_q := 63) rfl e615 (by decide) ⟨_, rfl⟩ (sf_in B578 (by decide) (by decide)) rfl (fun h617 T618 F619 e620 => ?_)
              have F621 := F619.cl (ck := ck) T_558.1
              have F622 := F_558.trans (N := 0) (S := 0) F621 (by decide) (by decide) (by decide)
              refine sf_R_iinc pm_M146 (pc_q := 66) (ls_q := fun z => [.ref a, .int a0, .int a1, .ref 39, .int z, .int x5_558]) rfl B578 rfl (by decide) (by decide) (by decide) (fun _ => rfl) rfl (fun z623 e624 B625 => ?_)
              show pm_R _ 146 66 [.ref a, .int a0, .int a1, .ref 39, .int z623, .int x5_558] [] _ _
              refine sf_R_iinc pm_M146 (pc_q := 69) (ls_q := fun z => [.ref a, .int a0, .int a1, .ref 39, .int z623, .int z]) rfl B577 rfl (by decide) (by decide) (by decide) (fun _ => rfl) rfl (fun z626 e627 B628 => ?_)
              show pm_R _ 146 69 [.ref a, .int a0, .int a1, .ref 39, .int z623, .int z626] [] _ _
              refine pm_R_br pm_M146 (pc_q := 6) rfl rfl ?_
              exact ih_558 _ (sf_up hN_558 e627 B577 (by decide) (by decide)) h617 m_558 z623 z626 T618 F622 W_558 (sf_weak B625 (by decide) (by decide)) (sf_weak B628 (by decide) (by decide)) (cl_aux13 _ _ _ _ _ e624 e627 B578.1 B578.2 B577.1 B577.2 R0_558 (Int.le_of_lt (Int32.lt_iff_toInt_lt.mp (Int32.not_le.mp c576)))) rfl
            · have B629 : sf_B 0 5 a0 := sf_neL0 c604 sf_kn1 Ba0
              refine pm_R_lo pm_M146 (pc_q := 40) rfl rfl rfl ?_
              refine pm_R_get pm_M146 (pc_q := 43) (v := .ref (a + 3)) rfl rfl (T_558.im hk (by decide) (by decide) eE570) (G.ge hk (by decide)) (T_558.al hk (by decide)) rfl rfl ?_
              refine pm_R_lo pm_M146 (pc_q := 45) rfl rfl rfl ?_
              have q633 := cl_in1 (n := n563) (Nat.le_trans h569 (by decide)) (Int32.not_le.mp c576) B577 (by decide)
              obtain ⟨z630, ez631⟩ : ∃ y, fs566 (Int32.toNatClampNeg x5_558) = y := ⟨_, rfl⟩
              refine pm_R_iald pm_M146 (pc_q := 46) (v := z630) rfl (T_558.im kq575.2.2.1 (by decide) (by decide) eE573) (T_558.al kq575.2.2.1 (by decide)) q633.1 ez631 rfl ?_
              refine pm_R_lo pm_M146 (pc_q := 47) rfl rfl rfl ?_
              refine sf_R_iany pm_M146 (pc_q := 48) (st := []) rfl rfl rfl (fun z637 => ?_)
              refine pm_R_op pm_M146 (pc_q := 49) (st_q := [.int 1, .int z637]) rfl rfl rfl ?_
              refine sf_R_iandE pm_M146 (pc_q := 50) rfl rfl sf_k1 (by decide) (fun z638 e639 B640 => ?_)
              refine pm_R_ifc pm_M146 (t := 66) (pc_q := 53) rfl rfl rfl (fun c641 => ?_) (fun c641 => ?_)
              · have B642 : sf_B 0 0 z638 := sf_eqL c641 sf_k0
                refine sf_R_iinc pm_M146 (pc_q := 69) (ls_q := fun z => [.ref a, .int a0, .int a1, .ref 39, .int x4_558, .int z]) rfl B577 rfl (by decide) (by decide) (by decide) (fun _ => rfl) rfl (fun z643 e644 B645 => ?_)
                show pm_R _ 146 69 [.ref a, .int a0, .int a1, .ref 39, .int x4_558, .int z643] [] _ _
                refine pm_R_br pm_M146 (pc_q := 6) rfl rfl ?_
                exact ih_558 _ (sf_up hN_558 e644 B577 (by decide) (by decide)) h_558 m_558 x4_558 z643 T_558 F_558 W_558 (sf_weak B578 (by decide) (by decide)) (sf_weak B645 (by decide) (by decide)) (cl_aux12 _ _ _ _ e644 B578.1 B578.2 B577.1 B577.2 R0_558 (Int.le_of_lt (Int32.lt_iff_toInt_lt.mp (Int32.not_le.mp c576)))) rfl
              · have B646 : sf_B 1 1 z638 := sf_neL0 c641 sf_k0 B640
                refine pm_R_lo pm_M146 (pc_q := 54) rfl rfl rfl ?_
                refine pm_R_lo pm_M146 (pc_q := 56) rfl rfl rfl ?_
                refine pm_R_lo pm_M146 (pc_q := 57) rfl rfl rfl ?_
                refine pm_R_lo pm_M146 (pc_q := 59) rfl rfl rfl ?_
                refine pm_R_cv pm_M146 (pc_q := 62) (a := a) (ra := [.int x5_558]) (rest := [.int x4_558, .ref 39]) (ls_q := [.ref a, .int x5_558]) rfl rfl (Or.inl rfl) pm_M147 (T_558.im hk (by decide) (by decide) eE570) rfl (G.ge hk (by decide)) (T_558.al hk (by decide)) rfl rfl (Nat.le_of_ble_eq_true rfl) rfl rfl ?_
                refine pm_R_lo pm_M147 (pc_q := 1) rfl rfl rfl ?_
                refine pm_R_get pm_M147 (pc_q := 4) (v := .ref (a + 1)) rfl rfl (T_558.im hk (by decide) (by decide) eE570) (G.ge hk (by decide)) (T_558.al hk (by decide)) rfl rfl ?_
                refine pm_R_lo pm_M147 (pc_q := 5) rfl rfl rfl ?_
                refine pm_R_op pm_M147 (pc_q := 6) (st_q := [.int 4, .int x5_558, .ref (a + 1)]) rfl rfl rfl ?_
                refine sf_R_imulV pm_M147 (pc_q := 7) rfl rfl B577 sf_k4 (by decide) (by decide) (by decide) e581 ?_
                refine pm_R_op pm_M147 (pc_q := 8) (st_q := [.int 2, .int z580, .ref (a + 1)]) rfl rfl rfl ?_
                refine sf_R_iadd pm_M147 (pc_q := 9) rfl rfl B582 sf_k2 (by decide) (by decide) (fun z647 e648 B649 => ?_)
                have q653 := cl_in4 (n := n563) (Nat.le_trans h569 (by decide)) (Int32.not_le.mp c576) (cl_aux6 _ _ _ e581 e648) B577 (by decide) (by decide)
                obtain ⟨z650, ez651⟩ : ∃ y, fd564 (Int32.toNatClampNeg z647) = y := ⟨_, rfl⟩
                have B652 : sf_B (-1) 9 z650 := ez651 ▸ q653.2.2 ▸ (b574 _ q653.2.1).2.2.1
                have B654 : sf_B 0 9 z650 := cl_sign (b574 _ q653.2.1).2.2.2 q586.2.2 ez584 (Classical.not_not.mp c587) q653.2.2 ez651 B652 (by decide)
                refine pm_R_iald pm_M147 (pc_q := 10) (v := z650) rfl (T_558.im kq575.1 (by decide) (by decide) eE571) (T_558.al kq575.1 (by decide)) q653.1 ez651 rfl ?_
                refine pm_R_ret pm_M147 (r := some (.int z650)) rfl (pm_ret_i _) ?_
                show pm_R _ 146 62 [.ref a, .int a0, .int a1, .ref 39, .int x4_558, .int x5_558] [.int z650, .int x4_558, .ref 39] _ _
                obtain ⟨f655, e656⟩ := T_558.C 39 (by decide) (by decide)
                refine cl_R_ist G pm_M146 T_558 (pc_q := 63) rfl e656 (by decide) ⟨_, rfl⟩ (sf_in B578 (by decide) (by decide)) rfl (fun h658 T659 F660 e661 => ?_)
                have F662 := F660.cl (ck := ck) T_558.1
                have F663 := F_558.trans (N := 0) (S := 0) F662 (by decide) (by decide) (by decide)
                refine sf_R_iinc pm_M146 (pc_q := 66) (ls_q := fun z => [.ref a, .int a0, .int a1, .ref 39, .int z, .int x5_558]) rfl B578 rfl (by decide) (by decide) (by decide) (fun _ => rfl) rfl (fun z664 e665 B666 => ?_)
                show pm_R _ 146 66 [.ref a, .int a0, .int a1, .ref 39, .int z664, .int x5_558] [] _ _
                refine sf_R_iinc pm_M146 (pc_q := 69) (ls_q := fun z => [.ref a, .int a0, .int a1, .ref 39, .int z664, .int z]) rfl B577 rfl (by decide) (by decide) (by decide) (fun _ => rfl) rfl (fun z667 e668 B669 => ?_)
                show pm_R _ 146 69 [.ref a, .int a0, .int a1, .ref 39, .int z664, .int z667] [] _ _
                refine pm_R_br pm_M146 (pc_q := 6) rfl rfl ?_
                exact ih_558 _ (sf_up hN_558 e668 B577 (by decide) (by decide)) h658 m_558 z664 z667 T659 F663 W_558 (sf_weak B666 (by decide) (by decide)) (sf_weak B669 (by decide) (by decide)) (cl_aux13 _ _ _ _ _ e665 e668 B578.1 B578.2 B577.1 B577.2 R0_558 (Int.le_of_lt (Int32.lt_iff_toInt_lt.mp (Int32.not_le.mp c576)))) rfl
  exact L_558 _ h m 0 0 T (cl_F.refl (ck := ck) (A := [39]) (n := 0) (s := 0) T.1) (rf_W.refl _ _) (sf_weak sf_k0 (by decide) (by decide)) (sf_weak sf_k0 (by decide) (by decide)) (by decide) rfl

set_option maxRecDepth 100000 in
set_option maxHeartbeats 4000000 in
/-- SilentTable.heardMeanings -/
theorem cl_c149 {d : Nat} {ck : cl_K} {E : Nat → pm_E} {m : Nat → Int32} {o : Nat → Option Nat} {h : pm_H} {Q : Option Value → pm_H → Prop} {a0 : Nat} {a1 : Nat} {a2 : Int32} {a3 : Int32} (G : cl_G ck E) (T : cl_T ck E m o h) (hk0 : ck a0 = 1) (hk1 : ck a1 = 9) (Ba2 : sf_B (-1) 5 a2) (Ba3 : sf_B 0 5 a3) (K : ∀ (r : Int64) (m_q : Nat → Int32) (h_q : pm_H), cl_T ck E m_q o h_q → cl_F ck [32, 38, 39] 0 0 h h_q → rf_W [] m m_q → Q (some (.long r)) h_q) : pm_R (d + 4) 149 0 [.ref 16, .ref a0, .ref a1, .int a2, .int a3, pm_no, pm_no] [] h Q := by
  refine pm_R_lo pm_M149 (pc_q := 1) rfl rfl rfl ?_
  refine pm_R_lo pm_M149 (pc_q := 2) rfl rfl rfl ?_
  refine pm_R_lo pm_M149 (pc_q := 4) rfl rfl rfl ?_
  refine pm_R_lo pm_M149 (pc_q := 5) rfl rfl rfl ?_
  refine pm_R_get pm_M149 (pc_q := 8) (v := .ref 39) rfl rfl T.e16 (by decide) (T.lt (by decide)) rfl rfl ?_
  obtain ⟨s1, n2, fd3, fg4, fs5, h6, h7, h8, eE9, eE10, eE11, eE12, b13⟩ := (G.2.2.2.1 a1 hk1).2.2.2
  have kq14 := G.2.2.2.1 a1 hk1
  refine pm_R_cv pm_M149 (pc_q := 11) (a := a1) (ra := [.ref 39, .int a3, .int a2]) (rest := []) (ls_q := [.ref a1, .int a2, .int a3, .ref 39, pm_no, pm_no]) rfl rfl (Or.inl rfl) pm_M146 (T.im hk1 (by decide) (by decide) eE9) rfl (G.ge hk1 (by decide)) (T.al hk1 (by decide)) rfl rfl (Nat.le_of_ble_eq_true rfl) rfl rfl ?_
  refine cl_c146 (d := d + 2) G T hk1 Ba2 Ba3 (fun r15 m17 h18 T19 F20 W21 B16 => ?_)
  have F22 := (cl_F.refl (ck := ck) (A := [32, 38, 39]) (n := 0) (s := 0) T.1).trans (N := 0) (S := 0) F20 (by decide) (by decide) (by decide)
  have W23 : rf_W [] m m17 := (rf_W.refl [] m).trans W21 (by decide)
  show pm_R _ 149 11 [.ref 16, .ref a0, .ref a1, .int a2, .int a3, pm_no, pm_no] [.int r15] _ _
  refine pm_R_lo pm_M149 (pc_q := 13) (ls_q := [.ref 16, .ref a0, .ref a1, .int a2, .int a3, .int r15, pm_no]) (st_q := []) rfl rfl rfl ?_
  refine pm_R_lo pm_M149 (pc_q := 15) rfl rfl rfl ?_
  refine pm_R_op pm_M149 (pc_q := 17) (st_q := [.int 12, .int r15]) rfl rfl rfl ?_
  refine pm_R_icmp pm_M149 (t := 22) (pc_q := 20) rfl rfl rfl (fun c24 => ?_) (fun c24 => ?_)
  · have B25 : sf_B 0 12 r15 := sf_leL c24 B16 sf_k12
    refine pm_R_op pm_M149 (pc_q := 23) (st_q := [.int 0]) rfl rfl rfl ?_
    refine pm_R_lo pm_M149 (pc_q := 25) (ls_q := [.ref 16, .ref a0, .ref a1, .int a2, .int a3, .int r15, .int 0]) (st_q := []) rfl rfl rfl ?_
    have L_211 : ∀ (N : Nat) (h_211 : pm_H) (m_211 : Nat → Int32) (x6_211 : Int32), cl_T ck E m_211 o h_211 → cl_F ck [32, 38, 39] 0 0 h h_211 → rf_W [] m17 m_211 → sf_B 0 12 x6_211 → (12 - x6_211.toInt).toNat = N → pm_R (d + 4) 149 25 [.ref 16, .ref a0, .ref a1, .int a2, .int a3, .int r15, .int x6_211] [] h_211 Q := by
      intro N
      induction N using Nat.strongRecOn with
      | ind N ih_211 =>
        intro h_211 m_211 x6_211 T_211 F_211 W_211 Bx6_211 hN_211
        have W214 : rf_W [] m m_211 := W23.trans W_211 (by decide)
        refine pm_R_lo pm_M149 (pc_q := 27) rfl rfl rfl ?_
        refine pm_R_lo pm_M149 (pc_q := 29) rfl rfl rfl ?_
        refine pm_R_icmp pm_M149 (t := 54) (pc_q := 32) rfl rfl rfl (fun c215 => ?_) (fun c215 => ?_)
        · skip
          refine pm_R_lo pm_M149 (pc_q := 55) rfl rfl rfl ?_
          refine pm_R_get pm_M149 (pc_q := 58) (v := .ref 31) rfl rfl T_211.e16 (by decide) (T_211.lt (by decide)) rfl rfl ?_
          refine pm_R_lo pm_M149 (pc_q := 59) rfl rfl rfl ?_
          refine pm_R_lo pm_M149 (pc_q := 60) rfl rfl rfl ?_
          refine pm_R_get pm_M149 (pc_q := 63) (v := .ref 38) rfl rfl T_211.e16 (by decide) (T_211.lt (by decide)) rfl rfl ?_
          refine pm_R_lo pm_M149 (pc_q := 65) rfl rfl rfl ?_
          refine pm_R_cv pm_M149 (pc_q := 68) (a := 31) (ra := [.int r15, .ref 38, .ref a0]) (rest := []) (ls_q := [.ref 31, .ref a0, .ref 38, .int r15, pm_no, pm_no]) rfl rfl (Or.inl rfl) pm_M100 T_211.e31 rfl (by decide) (T_211.lt (by decide)) rfl rfl (Nat.le_of_ble_eq_true rfl) rfl rfl ?_
          refine cl_c100 (d := d + 0) G T_211 hk0 (fun r216 m218 h219 T220 F221 W222 => ?_)
          have F223 := F_211.trans (N := 0) (S := 0) F221 (by decide) (by decide) (by decide)
          have W224 : rf_W [] m m218 := W214.trans W222 (by decide)
          have W225 : rf_W [] m17 m218 := W_211.trans W222 (by decide)
          show pm_R _ 149 68 [.ref 16, .ref a0, .ref a1, .int a2, .int a3, .int r15, .int x6_211] [.long r216] _ _
          exact pm_R_ret pm_M149 (r := some (.long r216)) rfl rfl (K r216 m218 h219 T220 F223 W224)
        · have B226 : sf_B 0 11 x6_211 := sf_ltL (Int32.not_le.mp c215) Bx6_211 B25
          have B227 : sf_B 1 12 r15 := sf_ltR (Int32.not_le.mp c215) Bx6_211 B25
          refine pm_R_lo pm_M149 (pc_q := 33) rfl rfl rfl ?_
          refine pm_R_get pm_M149 (pc_q := 36) (v := .ref 38) rfl rfl T_211.e16 (by decide) (T_211.lt (by decide)) rfl rfl ?_
          refine pm_R_lo pm_M149 (pc_q := 38) rfl rfl rfl ?_
          refine pm_R_op pm_M149 (pc_q := 39) (st_q := [.int 1, .int x6_211, .ref 38]) rfl rfl rfl ?_
          refine pm_R_lo pm_M149 (pc_q := 40) rfl rfl rfl ?_
          refine pm_R_get pm_M149 (pc_q := 43) (v := .ref 39) rfl rfl T_211.e16 (by decide) (T_211.lt (by decide)) rfl rfl ?_
          refine pm_R_lo pm_M149 (pc_q := 45) rfl rfl rfl ?_
          obtain ⟨f231, e232⟩ := T_211.C 39 (by decide) (by decide)
          obtain ⟨z228, ez229⟩ : ∃ y, f231 (Int32.toNatClampNeg x6_211) = y := ⟨_, rfl⟩
          refine pm_R_iald pm_M149 (pc_q := 46) (v := z228) rfl e232 (T_211.lt (by decide)) (sf_in B226 (by decide) (by decide)) ez229 rfl ?_
          refine sf_R_iany pm_M149 (pc_q := 47) (st := [.int x6_211, .ref 38]) rfl rfl rfl (fun z237 => ?_)
          obtain ⟨f238, e239⟩ := T_211.C 38 (by decide) (by decide)
          refine cl_R_ist G pm_M149 T_211 (pc_q := 48) rfl e239 (by decide) ⟨_, rfl⟩ (sf_in B226 (by decide) (by decide)) rfl (fun h241 T242 F243 e244 => ?_)
          have F245 := F243.cl (ck := ck) T_211.1
          have F246 := F_211.trans (N := 0) (S := 0) F245 (by decide) (by decide) (by decide)
          refine sf_R_iinc pm_M149 (pc_q := 51) (ls_q := fun z => [.ref 16, .ref a0, .ref a1, .int a2, .int a3, .int r15, .int z]) rfl B226 rfl (by decide) (by decide) (by decide) (fun _ => rfl) rfl (fun z247 e248 B249 => ?_)
          show pm_R _ 149 51 [.ref 16, .ref a0, .ref a1, .int a2, .int a3, .int r15, .int z247] [] _ _
          refine pm_R_br pm_M149 (pc_q := 25) rfl rfl ?_
          exact ih_211 _ (sf_up hN_211 e248 B226 (by decide) (by decide)) h241 m_211 z247 T242 F246 W_211 (sf_weak B249 (by decide) (by decide)) rfl
    exact L_211 _ h18 m17 0 T19 F22 (rf_W.refl _ _) (sf_weak sf_k0 (by decide) (by decide)) rfl
  · have B250 : sf_B 13 50 r15 := sf_ltR (Int32.not_le.mp c24) sf_k12 B16
    refine pm_R_op pm_M149 (pc_q := 21) (st_q := [.long 0]) rfl rfl rfl ?_
    exact pm_R_ret pm_M149 (r := some (.long 0)) rfl rfl (K 0 m17 h18 T19 F22 W23)

set_option maxRecDepth 100000 in
set_option maxHeartbeats 4000000 in
/-- SilentTable.means -/
theorem cl_c97 {d : Nat} {ck : cl_K} {E : Nat → pm_E} {m : Nat → Int32} {o : Nat → Option Nat} {h : pm_H} {Q : Option Value → pm_H → Prop} {a0 : Int32} {a1 : Int32} {a2 : Int32} (G : cl_G ck E) (T : cl_T ck E m o h)  (K : ∀ (r : Int32) (m_q : Nat → Int32) (h_q : pm_H), cl_T ck E m_q o h_q → cl_F ck [32, 38] 0 0 h h_q → rf_W [] m m_q → sf_B (-2) 127 r → Q (some (.int r)) h_q) : pm_R (d + 5) 97 0 [.ref 16, .int a0, .int a1, .int a2, pm_no, pm_no] [] h Q := by
  refine pm_R_lo pm_M97 (pc_q := 1) rfl rfl rfl ?_
  refine pm_R_lo pm_M97 (pc_q := 2) rfl rfl rfl ?_
  refine pm_R_cv pm_M97 (pc_q := 5) (a := 16) (ra := [.int a0]) (rest := []) (ls_q := [.ref 16, .int a0]) rfl rfl (Or.inl rfl) pm_M62 T.e16 rfl (by decide) (T.lt (by decide)) rfl rfl (Nat.le_of_ble_eq_true rfl) rfl rfl ?_
  refine pm_R_lo pm_M62 (pc_q := 1) rfl rfl rfl ?_
  refine pm_R_ifc pm_M62 (t := 17) (pc_q := 4) rfl rfl rfl (fun c1 => ?_) (fun c1 => ?_)
  · have B2 : sf_B (-2147483648) (-1) a0 := sf_ltL c1 (sf_any a0) sf_k0
    refine pm_R_op pm_M62 (pc_q := 18) (st_q := [.null]) rfl rfl rfl ?_
    refine pm_R_br pm_M62 (pc_q := 30) rfl rfl ?_
    refine pm_R_ret pm_M62 (r := some (.null)) rfl rfl ?_
    show pm_R _ 97 5 [.ref 16, .int a0, .int a1, .int a2, pm_no, pm_no] [.null] _ _
    refine pm_R_lo pm_M97 (pc_q := 7) (ls_q := [.ref 16, .int a0, .int a1, .int a2, .null, pm_no]) (st_q := []) rfl rfl rfl ?_
    refine pm_R_lo pm_M97 (pc_q := 8) rfl rfl rfl ?_
    refine pm_R_lo pm_M97 (pc_q := 9) rfl rfl rfl ?_
    refine pm_R_cv pm_M97 (pc_q := 12) (a := 16) (ra := [.int a1]) (rest := []) (ls_q := [.ref 16, .int a1]) rfl rfl (Or.inl rfl) pm_M66 T.e16 rfl (by decide) (T.lt (by decide)) rfl rfl (Nat.le_of_ble_eq_true rfl) rfl rfl ?_
    refine pm_R_lo pm_M66 (pc_q := 1) rfl rfl rfl ?_
    refine pm_R_ifc pm_M66 (t := 17) (pc_q := 4) rfl rfl rfl (fun c3 => ?_) (fun c3 => ?_)
    · have B4 : sf_B (-2147483648) (-1) a1 := sf_ltL c3 (sf_any a1) sf_k0
      refine pm_R_op pm_M66 (pc_q := 18) (st_q := [.null]) rfl rfl rfl ?_
      refine pm_R_br pm_M66 (pc_q := 30) rfl rfl ?_
      refine pm_R_ret pm_M66 (r := some (.null)) rfl rfl ?_
      show pm_R _ 97 12 [.ref 16, .int a0, .int a1, .int a2, .null, pm_no] [.null] _ _
      refine pm_R_lo pm_M97 (pc_q := 14) (ls_q := [.ref 16, .int a0, .int a1, .int a2, .null, .null]) (st_q := []) rfl rfl rfl ?_
      refine pm_R_lo pm_M97 (pc_q := 16) rfl rfl rfl ?_
      refine pm_R_br pm_M97 (pc_q := 24) rfl rfl ?_
      refine pm_R_op pm_M97 (pc_q := 26) (st_q := [.int (-2)]) rfl rfl rfl ?_
      exact pm_R_ret pm_M97 (r := some (.int (-2))) rfl rfl (K (-2) m h T (cl_F.refl (ck := ck) (A := [32, 38]) (n := 0) (s := 0) T.1) (rf_W.refl [] m) (sf_weak sf_kn2 (by decide) (by decide)))
    · have B5 : sf_B 0 2147483647 a1 := sf_leR (Int32.not_lt.mp c3) sf_k0 (sf_any a1)
      refine pm_R_lo pm_M66 (pc_q := 5) rfl rfl rfl ?_
      refine pm_R_lo pm_M66 (pc_q := 6) rfl rfl rfl ?_
      refine pm_R_get pm_M66 (pc_q := 9) (v := .ref 17) rfl rfl T.e16 (by decide) (T.lt (by decide)) rfl rfl ?_
      refine pm_R_get pm_M66 (pc_q := 12) (v := .ref 23) rfl rfl T.e17 (by decide) (T.lt (by decide)) rfl rfl ?_
      refine pm_R_op pm_M66 (pc_q := 13) (st_q := [.int 1, .ref 23, .int a1]) rfl rfl rfl ?_
      obtain ⟨f9, e10, b11⟩ := T.C 23 (by decide) (by decide)
      obtain ⟨z6, ez7⟩ : ∃ y, f9 (Int32.toNatClampNeg 1) = y := ⟨_, rfl⟩
      have B8 : sf_B 0 3 z6 := ez7 ▸ (b11 1)
      refine pm_R_iald pm_M66 (pc_q := 14) (v := z6) rfl e10 (T.lt (by decide)) rfl ez7 rfl ?_
      refine pm_R_icmp pm_M66 (t := 21) (pc_q := 17) rfl rfl rfl (fun c12 => ?_) (fun c12 => ?_)
      · have B13 : sf_B 0 2 a1 := sf_ltL c12 B5 B8
        have B14 : sf_B 1 3 z6 := sf_ltR c12 B5 B8
        refine pm_R_lo pm_M66 (pc_q := 22) rfl rfl rfl ?_
        refine pm_R_get pm_M66 (pc_q := 25) (v := .ref 17) rfl rfl T.e16 (by decide) (T.lt (by decide)) rfl rfl ?_
        refine pm_R_get pm_M66 (pc_q := 28) (v := .ref 20) rfl rfl T.e17 (by decide) (T.lt (by decide)) rfl rfl ?_
        refine pm_R_lo pm_M66 (pc_q := 29) rfl rfl rfl ?_
        obtain ⟨f15, e16, b17⟩ := T.C 20 (by decide) (by decide)
        obtain ⟨l18, hx19⟩ := cl_there1 T e10 e16 ez7 c12 B13 (by decide)
        have hk20 := b17 _ _ hx19
        refine pm_R_aald pm_M66 (pc_q := 30) (v := .ref l18) rfl e16 (by decide) (by decide) (by decide) (T.lt (by decide)) (sf_in B13 (by decide) (by decide)) (by rw [hx19]; rfl) rfl ?_
        refine pm_R_ret pm_M66 (r := some (.ref l18)) rfl rfl ?_
        show pm_R _ 97 12 [.ref 16, .int a0, .int a1, .int a2, .null, pm_no] [.ref l18] _ _
        refine pm_R_lo pm_M97 (pc_q := 14) (ls_q := [.ref 16, .int a0, .int a1, .int a2, .null, .ref l18]) (st_q := []) rfl rfl rfl ?_
        refine pm_R_lo pm_M97 (pc_q := 16) rfl rfl rfl ?_
        refine pm_R_br pm_M97 (pc_q := 24) rfl rfl ?_
        refine pm_R_op pm_M97 (pc_q := 26) (st_q := [.int (-2)]) rfl rfl rfl ?_
        exact pm_R_ret pm_M97 (r := some (.int (-2))) rfl rfl (K (-2) m h T (cl_F.refl (ck := ck) (A := [32, 38]) (n := 0) (s := 0) T.1) (rf_W.refl [] m) (sf_weak sf_kn2 (by decide) (by decide)))
      · skip
        refine pm_R_op pm_M66 (pc_q := 18) (st_q := [.null]) rfl rfl rfl ?_
        refine pm_R_br pm_M66 (pc_q := 30) rfl rfl ?_
        refine pm_R_ret pm_M66 (r := some (.null)) rfl rfl ?_
        show pm_R _ 97 12 [.ref 16, .int a0, .int a1, .int a2, .null, pm_no] [.null] _ _
        refine pm_R_lo pm_M97 (pc_q := 14) (ls_q := [.ref 16, .int a0, .int a1, .int a2, .null, .null]) (st_q := []) rfl rfl rfl ?_
        refine pm_R_lo pm_M97 (pc_q := 16) rfl rfl rfl ?_
        refine pm_R_br pm_M97 (pc_q := 24) rfl rfl ?_
        refine pm_R_op pm_M97 (pc_q := 26) (st_q := [.int (-2)]) rfl rfl rfl ?_
        exact pm_R_ret pm_M97 (r := some (.int (-2))) rfl rfl (K (-2) m h T (cl_F.refl (ck := ck) (A := [32, 38]) (n := 0) (s := 0) T.1) (rf_W.refl [] m) (sf_weak sf_kn2 (by decide) (by decide)))
  · have B21 : sf_B 0 2147483647 a0 := sf_leR (Int32.not_lt.mp c1) sf_k0 (sf_any a0)
    refine pm_R_lo pm_M62 (pc_q := 5) rfl rfl rfl ?_
    refine pm_R_lo pm_M62 (pc_q := 6) rfl rfl rfl ?_
    refine pm_R_get pm_M62 (pc_q := 9) (v := .ref 17) rfl rfl T.e16 (by decide) (T.lt (by decide)) rfl rfl ?_
    refine pm_R_get pm_M62 (pc_q := 12) (v := .ref 23) rfl rfl T.e17 (by decide) (T.lt (by decide)) rfl rfl ?_
    refine pm_R_op pm_M62 (pc_q := 13) (st_q := [.int 0, .ref 23, .int a0]) rfl rfl rfl ?_
    obtain ⟨f25, e26, b27⟩ := T.C 23 (by decide) (by decide)
    obtain ⟨z22, ez23⟩ : ∃ y, f25 (Int32.toNatClampNeg 0) = y := ⟨_, rfl⟩
    have B24 : sf_B 0 2 z22 := ez23 ▸ (b27 0)
    refine pm_R_iald pm_M62 (pc_q := 14) (v := z22) rfl e26 (T.lt (by decide)) rfl ez23 rfl ?_
    refine pm_R_icmp pm_M62 (t := 21) (pc_q := 17) rfl rfl rfl (fun c28 => ?_) (fun c28 => ?_)
    · have B29 : sf_B 0 1 a0 := sf_ltL c28 B21 B24
      have B30 : sf_B 1 2 z22 := sf_ltR c28 B21 B24
      refine pm_R_lo pm_M62 (pc_q := 22) rfl rfl rfl ?_
      refine pm_R_get pm_M62 (pc_q := 25) (v := .ref 17) rfl rfl T.e16 (by decide) (T.lt (by decide)) rfl rfl ?_
      refine pm_R_get pm_M62 (pc_q := 28) (v := .ref 19) rfl rfl T.e17 (by decide) (T.lt (by decide)) rfl rfl ?_
      refine pm_R_lo pm_M62 (pc_q := 29) rfl rfl rfl ?_
      obtain ⟨f31, e32, b33⟩ := T.C 19 (by decide) (by decide)
      obtain ⟨l34, hx35⟩ := cl_there0 T e26 e32 ez23 c28 B29 (by decide)
      have hk36 := b33 _ _ hx35
      refine pm_R_aald pm_M62 (pc_q := 30) (v := .ref l34) rfl e32 (by decide) (by decide) (by decide) (T.lt (by decide)) (sf_in B29 (by decide) (by decide)) (by rw [hx35]; rfl) rfl ?_
      refine pm_R_ret pm_M62 (r := some (.ref l34)) rfl rfl ?_
      show pm_R _ 97 5 [.ref 16, .int a0, .int a1, .int a2, pm_no, pm_no] [.ref l34] _ _
      refine pm_R_lo pm_M97 (pc_q := 7) (ls_q := [.ref 16, .int a0, .int a1, .int a2, .ref l34, pm_no]) (st_q := []) rfl rfl rfl ?_
      refine pm_R_lo pm_M97 (pc_q := 8) rfl rfl rfl ?_
      refine pm_R_lo pm_M97 (pc_q := 9) rfl rfl rfl ?_
      refine pm_R_cv pm_M97 (pc_q := 12) (a := 16) (ra := [.int a1]) (rest := []) (ls_q := [.ref 16, .int a1]) rfl rfl (Or.inl rfl) pm_M66 T.e16 rfl (by decide) (T.lt (by decide)) rfl rfl (Nat.le_of_ble_eq_true rfl) rfl rfl ?_
      refine pm_R_lo pm_M66 (pc_q := 1) rfl rfl rfl ?_
      refine pm_R_ifc pm_M66 (t := 17) (pc_q := 4) rfl rfl rfl (fun c37 => ?_) (fun c37 => ?_)
      · have B38 : sf_B (-2147483648) (-1) a1 := sf_ltL c37 (sf_any a1) sf_k0
        refine pm_R_op pm_M66 (pc_q := 18) (st_q := [.null]) rfl rfl rfl ?_
        refine pm_R_br pm_M66 (pc_q := 30) rfl rfl ?_
        refine pm_R_ret pm_M66 (r := some (.null)) rfl rfl ?_
        show pm_R _ 97 12 [.ref 16, .int a0, .int a1, .int a2, .ref l34, pm_no] [.null] _ _
        refine pm_R_lo pm_M97 (pc_q := 14) (ls_q := [.ref 16, .int a0, .int a1, .int a2, .ref l34, .null]) (st_q := []) rfl rfl rfl ?_
        refine pm_R_lo pm_M97 (pc_q := 16) rfl rfl rfl ?_
        refine pm_R_br pm_M97 (pc_q := 19) rfl rfl ?_
        refine pm_R_lo pm_M97 (pc_q := 21) rfl rfl rfl ?_
        refine pm_R_br pm_M97 (pc_q := 24) rfl rfl ?_
        refine pm_R_op pm_M97 (pc_q := 26) (st_q := [.int (-2)]) rfl rfl rfl ?_
        exact pm_R_ret pm_M97 (r := some (.int (-2))) rfl rfl (K (-2) m h T (cl_F.refl (ck := ck) (A := [32, 38]) (n := 0) (s := 0) T.1) (rf_W.refl [] m) (sf_weak sf_kn2 (by decide) (by decide)))
      · have B39 : sf_B 0 2147483647 a1 := sf_leR (Int32.not_lt.mp c37) sf_k0 (sf_any a1)
        refine pm_R_lo pm_M66 (pc_q := 5) rfl rfl rfl ?_
        refine pm_R_lo pm_M66 (pc_q := 6) rfl rfl rfl ?_
        refine pm_R_get pm_M66 (pc_q := 9) (v := .ref 17) rfl rfl T.e16 (by decide) (T.lt (by decide)) rfl rfl ?_
        refine pm_R_get pm_M66 (pc_q := 12) (v := .ref 23) rfl rfl T.e17 (by decide) (T.lt (by decide)) rfl rfl ?_
        refine pm_R_op pm_M66 (pc_q := 13) (st_q := [.int 1, .ref 23, .int a1]) rfl rfl rfl ?_
        obtain ⟨z40, ez41⟩ : ∃ y, f25 (Int32.toNatClampNeg 1) = y := ⟨_, rfl⟩
        have B42 : sf_B 0 3 z40 := ez41 ▸ (b27 1)
        refine pm_R_iald pm_M66 (pc_q := 14) (v := z40) rfl e26 (T.lt (by decide)) rfl ez41 rfl ?_
        refine pm_R_icmp pm_M66 (t := 21) (pc_q := 17) rfl rfl rfl (fun c43 => ?_) (fun c43 => ?_)
        · have B44 : sf_B 0 2 a1 := sf_ltL c43 B39 B42
          have B45 : sf_B 1 3 z40 := sf_ltR c43 B39 B42
          refine pm_R_lo pm_M66 (pc_q := 22) rfl rfl rfl ?_
          refine pm_R_get pm_M66 (pc_q := 25) (v := .ref 17) rfl rfl T.e16 (by decide) (T.lt (by decide)) rfl rfl ?_
          refine pm_R_get pm_M66 (pc_q := 28) (v := .ref 20) rfl rfl T.e17 (by decide) (T.lt (by decide)) rfl rfl ?_
          refine pm_R_lo pm_M66 (pc_q := 29) rfl rfl rfl ?_
          obtain ⟨f46, e47, b48⟩ := T.C 20 (by decide) (by decide)
          obtain ⟨l49, hx50⟩ := cl_there1 T e26 e47 ez41 c43 B44 (by decide)
          have hk51 := b48 _ _ hx50
          refine pm_R_aald pm_M66 (pc_q := 30) (v := .ref l49) rfl e47 (by decide) (by decide) (by decide) (T.lt (by decide)) (sf_in B44 (by decide) (by decide)) (by rw [hx50]; rfl) rfl ?_
          refine pm_R_ret pm_M66 (r := some (.ref l49)) rfl rfl ?_
          show pm_R _ 97 12 [.ref 16, .int a0, .int a1, .int a2, .ref l34, pm_no] [.ref l49] _ _
          refine pm_R_lo pm_M97 (pc_q := 14) (ls_q := [.ref 16, .int a0, .int a1, .int a2, .ref l34, .ref l49]) (st_q := []) rfl rfl rfl ?_
          refine pm_R_lo pm_M97 (pc_q := 16) rfl rfl rfl ?_
          refine pm_R_br pm_M97 (pc_q := 19) rfl rfl ?_
          refine pm_R_lo pm_M97 (pc_q := 21) rfl rfl rfl ?_
          refine pm_R_br pm_M97 (pc_q := 27) rfl rfl ?_
          refine pm_R_lo pm_M97 (pc_q := 28) rfl rfl rfl ?_
          refine pm_R_lo pm_M97 (pc_q := 30) rfl rfl rfl ?_
          refine pm_R_lo pm_M97 (pc_q := 32) rfl rfl rfl ?_
          refine pm_R_op pm_M97 (pc_q := 33) (st_q := [.int 0, .ref l49, .ref l34, .ref 16]) rfl rfl rfl ?_
          refine pm_R_cv pm_M97 (pc_q := 36) (a := 16) (ra := [.int 0, .ref l49, .ref l34]) (rest := []) (ls_q := [.ref 16, .ref l34, .ref l49, .int 0]) rfl rfl (Or.inl rfl) pm_M98 T.e16 rfl (by decide) (T.lt (by decide)) rfl rfl (Nat.le_of_ble_eq_true rfl) rfl rfl ?_
          refine cl_c98 (d := d + 0) G T hk36 hk51 (sf_weak sf_k0 (by decide) (by decide)) (fun r52 m54 h55 T56 F57 W58 => ?_)
          have F59 := (cl_F.refl (ck := ck) (A := [32, 38]) (n := 0) (s := 0) T.1).trans (N := 0) (S := 0) F57 (by decide) (by decide) (by decide)
          have W60 : rf_W [] m m54 := (rf_W.refl [] m).trans W58 (by decide)
          show pm_R _ 97 36 [.ref 16, .int a0, .int a1, .int a2, .ref l34, .ref l49] [.long r52] _ _
          refine pm_R_lo pm_M97 (pc_q := 37) rfl rfl rfl ?_
          refine pm_R_cs pm_M97 (pc_q := 40) (ra := [.int a2, .long r52]) (rest := []) (ls_q := [.long r52, pm_no, .int a2, pm_no, pm_no, pm_no]) rfl rfl (Or.inl rfl) pm_M107 rfl rfl (Nat.le_of_ble_eq_true rfl) rfl rfl ?_
          refine cl_c107 (d := d + 3)  (fun r61 B62 => ?_)
          show pm_R _ 97 40 [.ref 16, .int a0, .int a1, .int a2, .ref l34, .ref l49] [.int r61] _ _
          exact pm_R_ret pm_M97 (r := some (.int r61)) rfl (pm_ret_i _) (K r61 m54 h55 T56 F59 W60 B62)
        · skip
          refine pm_R_op pm_M66 (pc_q := 18) (st_q := [.null]) rfl rfl rfl ?_
          refine pm_R_br pm_M66 (pc_q := 30) rfl rfl ?_
          refine pm_R_ret pm_M66 (r := some (.null)) rfl rfl ?_
          show pm_R _ 97 12 [.ref 16, .int a0, .int a1, .int a2, .ref l34, pm_no] [.null] _ _
          refine pm_R_lo pm_M97 (pc_q := 14) (ls_q := [.ref 16, .int a0, .int a1, .int a2, .ref l34, .null]) (st_q := []) rfl rfl rfl ?_
          refine pm_R_lo pm_M97 (pc_q := 16) rfl rfl rfl ?_
          refine pm_R_br pm_M97 (pc_q := 19) rfl rfl ?_
          refine pm_R_lo pm_M97 (pc_q := 21) rfl rfl rfl ?_
          refine pm_R_br pm_M97 (pc_q := 24) rfl rfl ?_
          refine pm_R_op pm_M97 (pc_q := 26) (st_q := [.int (-2)]) rfl rfl rfl ?_
          exact pm_R_ret pm_M97 (r := some (.int (-2))) rfl rfl (K (-2) m h T (cl_F.refl (ck := ck) (A := [32, 38]) (n := 0) (s := 0) T.1) (rf_W.refl [] m) (sf_weak sf_kn2 (by decide) (by decide)))
    · skip
      refine pm_R_op pm_M62 (pc_q := 18) (st_q := [.null]) rfl rfl rfl ?_
      refine pm_R_br pm_M62 (pc_q := 30) rfl rfl ?_
      refine pm_R_ret pm_M62 (r := some (.null)) rfl rfl ?_
      show pm_R _ 97 5 [.ref 16, .int a0, .int a1, .int a2, pm_no, pm_no] [.null] _ _
      refine pm_R_lo pm_M97 (pc_q := 7) (ls_q := [.ref 16, .int a0, .int a1, .int a2, .null, pm_no]) (st_q := []) rfl rfl rfl ?_
      refine pm_R_lo pm_M97 (pc_q := 8) rfl rfl rfl ?_
      refine pm_R_lo pm_M97 (pc_q := 9) rfl rfl rfl ?_
      refine pm_R_cv pm_M97 (pc_q := 12) (a := 16) (ra := [.int a1]) (rest := []) (ls_q := [.ref 16, .int a1]) rfl rfl (Or.inl rfl) pm_M66 T.e16 rfl (by decide) (T.lt (by decide)) rfl rfl (Nat.le_of_ble_eq_true rfl) rfl rfl ?_
      refine pm_R_lo pm_M66 (pc_q := 1) rfl rfl rfl ?_
      refine pm_R_ifc pm_M66 (t := 17) (pc_q := 4) rfl rfl rfl (fun c68 => ?_) (fun c68 => ?_)
      · have B69 : sf_B (-2147483648) (-1) a1 := sf_ltL c68 (sf_any a1) sf_k0
        refine pm_R_op pm_M66 (pc_q := 18) (st_q := [.null]) rfl rfl rfl ?_
        refine pm_R_br pm_M66 (pc_q := 30) rfl rfl ?_
        refine pm_R_ret pm_M66 (r := some (.null)) rfl rfl ?_
        show pm_R _ 97 12 [.ref 16, .int a0, .int a1, .int a2, .null, pm_no] [.null] _ _
        refine pm_R_lo pm_M97 (pc_q := 14) (ls_q := [.ref 16, .int a0, .int a1, .int a2, .null, .null]) (st_q := []) rfl rfl rfl ?_
        refine pm_R_lo pm_M97 (pc_q := 16) rfl rfl rfl ?_
        refine pm_R_br pm_M97 (pc_q := 24) rfl rfl ?_
        refine pm_R_op pm_M97 (pc_q := 26) (st_q := [.int (-2)]) rfl rfl rfl ?_
        exact pm_R_ret pm_M97 (r := some (.int (-2))) rfl rfl (K (-2) m h T (cl_F.refl (ck := ck) (A := [32, 38]) (n := 0) (s := 0) T.1) (rf_W.refl [] m) (sf_weak sf_kn2 (by decide) (by decide)))
      · have B70 : sf_B 0 2147483647 a1 := sf_leR (Int32.not_lt.mp c68) sf_k0 (sf_any a1)
        refine pm_R_lo pm_M66 (pc_q := 5) rfl rfl rfl ?_
        refine pm_R_lo pm_M66 (pc_q := 6) rfl rfl rfl ?_
        refine pm_R_get pm_M66 (pc_q := 9) (v := .ref 17) rfl rfl T.e16 (by decide) (T.lt (by decide)) rfl rfl ?_
        refine pm_R_get pm_M66 (pc_q := 12) (v := .ref 23) rfl rfl T.e17 (by decide) (T.lt (by decide)) rfl rfl ?_
        refine pm_R_op pm_M66 (pc_q := 13) (st_q := [.int 1, .ref 23, .int a1]) rfl rfl rfl ?_
        obtain ⟨z71, ez72⟩ : ∃ y, f25 (Int32.toNatClampNeg 1) = y := ⟨_, rfl⟩
        have B73 : sf_B 0 3 z71 := ez72 ▸ (b27 1)
        refine pm_R_iald pm_M66 (pc_q := 14) (v := z71) rfl e26 (T.lt (by decide)) rfl ez72 rfl ?_
        refine pm_R_icmp pm_M66 (t := 21) (pc_q := 17) rfl rfl rfl (fun c74 => ?_) (fun c74 => ?_)
        · have B75 : sf_B 0 2 a1 := sf_ltL c74 B70 B73
          have B76 : sf_B 1 3 z71 := sf_ltR c74 B70 B73
          refine pm_R_lo pm_M66 (pc_q := 22) rfl rfl rfl ?_
          refine pm_R_get pm_M66 (pc_q := 25) (v := .ref 17) rfl rfl T.e16 (by decide) (T.lt (by decide)) rfl rfl ?_
          refine pm_R_get pm_M66 (pc_q := 28) (v := .ref 20) rfl rfl T.e17 (by decide) (T.lt (by decide)) rfl rfl ?_
          refine pm_R_lo pm_M66 (pc_q := 29) rfl rfl rfl ?_
          obtain ⟨f77, e78, b79⟩ := T.C 20 (by decide) (by decide)
          obtain ⟨l80, hx81⟩ := cl_there1 T e26 e78 ez72 c74 B75 (by decide)
          have hk82 := b79 _ _ hx81
          refine pm_R_aald pm_M66 (pc_q := 30) (v := .ref l80) rfl e78 (by decide) (by decide) (by decide) (T.lt (by decide)) (sf_in B75 (by decide) (by decide)) (by rw [hx81]; rfl) rfl ?_
          refine pm_R_ret pm_M66 (r := some (.ref l80)) rfl rfl ?_
          show pm_R _ 97 12 [.ref 16, .int a0, .int a1, .int a2, .null, pm_no] [.ref l80] _ _
          refine pm_R_lo pm_M97 (pc_q := 14) (ls_q := [.ref 16, .int a0, .int a1, .int a2, .null, .ref l80]) (st_q := []) rfl rfl rfl ?_
          refine pm_R_lo pm_M97 (pc_q := 16) rfl rfl rfl ?_
          refine pm_R_br pm_M97 (pc_q := 24) rfl rfl ?_
          refine pm_R_op pm_M97 (pc_q := 26) (st_q := [.int (-2)]) rfl rfl rfl ?_
          exact pm_R_ret pm_M97 (r := some (.int (-2))) rfl rfl (K (-2) m h T (cl_F.refl (ck := ck) (A := [32, 38]) (n := 0) (s := 0) T.1) (rf_W.refl [] m) (sf_weak sf_kn2 (by decide) (by decide)))
        · skip
          refine pm_R_op pm_M66 (pc_q := 18) (st_q := [.null]) rfl rfl rfl ?_
          refine pm_R_br pm_M66 (pc_q := 30) rfl rfl ?_
          refine pm_R_ret pm_M66 (r := some (.null)) rfl rfl ?_
          show pm_R _ 97 12 [.ref 16, .int a0, .int a1, .int a2, .null, pm_no] [.null] _ _
          refine pm_R_lo pm_M97 (pc_q := 14) (ls_q := [.ref 16, .int a0, .int a1, .int a2, .null, .null]) (st_q := []) rfl rfl rfl ?_
          refine pm_R_lo pm_M97 (pc_q := 16) rfl rfl rfl ?_
          refine pm_R_br pm_M97 (pc_q := 24) rfl rfl ?_
          refine pm_R_op pm_M97 (pc_q := 26) (st_q := [.int (-2)]) rfl rfl rfl ?_
          exact pm_R_ret pm_M97 (r := some (.int (-2))) rfl rfl (K (-2) m h T (cl_F.refl (ck := ck) (A := [32, 38]) (n := 0) (s := 0) T.1) (rf_W.refl [] m) (sf_weak sf_kn2 (by decide) (by decide)))

set_option maxRecDepth 100000 in
set_option maxHeartbeats 4000000 in
/-- SilentTable.could -/
theorem cl_c109 {d : Nat} {ck : cl_K} {E : Nat → pm_E} {m : Nat → Int32} {o : Nat → Option Nat} {h : pm_H} {Q : Option Value → pm_H → Prop} {a0 : Int32} {a1 : Int32} {a2 : Int32} {a3 : Int32} (G : cl_G ck E) (T : cl_T ck E m o h)  (K : ∀ (r : Int32) (m_q : Nat → Int32) (h_q : pm_H), cl_T ck E m_q o h_q → cl_F ck [32, 38] 0 0 h h_q → rf_W [] m m_q → sf_B (-2) 127 r → Q (some (.int r)) h_q) : pm_R (d + 5) 109 0 [.ref 16, .int a0, .int a1, .int a2, .int a3, pm_no, pm_no] [] h Q := by
  refine pm_R_lo pm_M109 (pc_q := 1) rfl rfl rfl ?_
  refine pm_R_lo pm_M109 (pc_q := 2) rfl rfl rfl ?_
  refine pm_R_cv pm_M109 (pc_q := 5) (a := 16) (ra := [.int a0]) (rest := []) (ls_q := [.ref 16, .int a0]) rfl rfl (Or.inl rfl) pm_M62 T.e16 rfl (by decide) (T.lt (by decide)) rfl rfl (Nat.le_of_ble_eq_true rfl) rfl rfl ?_
  refine pm_R_lo pm_M62 (pc_q := 1) rfl rfl rfl ?_
  refine pm_R_ifc pm_M62 (t := 17) (pc_q := 4) rfl rfl rfl (fun c1 => ?_) (fun c1 => ?_)
  · have B2 : sf_B (-2147483648) (-1) a0 := sf_ltL c1 (sf_any a0) sf_k0
    refine pm_R_op pm_M62 (pc_q := 18) (st_q := [.null]) rfl rfl rfl ?_
    refine pm_R_br pm_M62 (pc_q := 30) rfl rfl ?_
    refine pm_R_ret pm_M62 (r := some (.null)) rfl rfl ?_
    show pm_R _ 109 5 [.ref 16, .int a0, .int a1, .int a2, .int a3, pm_no, pm_no] [.null] _ _
    refine pm_R_lo pm_M109 (pc_q := 7) (ls_q := [.ref 16, .int a0, .int a1, .int a2, .int a3, .null, pm_no]) (st_q := []) rfl rfl rfl ?_
    refine pm_R_lo pm_M109 (pc_q := 8) rfl rfl rfl ?_
    refine pm_R_lo pm_M109 (pc_q := 9) rfl rfl rfl ?_
    refine pm_R_cv pm_M109 (pc_q := 12) (a := 16) (ra := [.int a1]) (rest := []) (ls_q := [.ref 16, .int a1]) rfl rfl (Or.inl rfl) pm_M66 T.e16 rfl (by decide) (T.lt (by decide)) rfl rfl (Nat.le_of_ble_eq_true rfl) rfl rfl ?_
    refine pm_R_lo pm_M66 (pc_q := 1) rfl rfl rfl ?_
    refine pm_R_ifc pm_M66 (t := 17) (pc_q := 4) rfl rfl rfl (fun c3 => ?_) (fun c3 => ?_)
    · have B4 : sf_B (-2147483648) (-1) a1 := sf_ltL c3 (sf_any a1) sf_k0
      refine pm_R_op pm_M66 (pc_q := 18) (st_q := [.null]) rfl rfl rfl ?_
      refine pm_R_br pm_M66 (pc_q := 30) rfl rfl ?_
      refine pm_R_ret pm_M66 (r := some (.null)) rfl rfl ?_
      show pm_R _ 109 12 [.ref 16, .int a0, .int a1, .int a2, .int a3, .null, pm_no] [.null] _ _
      refine pm_R_lo pm_M109 (pc_q := 14) (ls_q := [.ref 16, .int a0, .int a1, .int a2, .int a3, .null, .null]) (st_q := []) rfl rfl rfl ?_
      refine pm_R_lo pm_M109 (pc_q := 16) rfl rfl rfl ?_
      refine pm_R_br pm_M109 (pc_q := 31) rfl rfl ?_
      refine pm_R_op pm_M109 (pc_q := 33) (st_q := [.int (-2)]) rfl rfl rfl ?_
      exact pm_R_ret pm_M109 (r := some (.int (-2))) rfl rfl (K (-2) m h T (cl_F.refl (ck := ck) (A := [32, 38]) (n := 0) (s := 0) T.1) (rf_W.refl [] m) (sf_weak sf_kn2 (by decide) (by decide)))
    · have B5 : sf_B 0 2147483647 a1 := sf_leR (Int32.not_lt.mp c3) sf_k0 (sf_any a1)
      refine pm_R_lo pm_M66 (pc_q := 5) rfl rfl rfl ?_
      refine pm_R_lo pm_M66 (pc_q := 6) rfl rfl rfl ?_
      refine pm_R_get pm_M66 (pc_q := 9) (v := .ref 17) rfl rfl T.e16 (by decide) (T.lt (by decide)) rfl rfl ?_
      refine pm_R_get pm_M66 (pc_q := 12) (v := .ref 23) rfl rfl T.e17 (by decide) (T.lt (by decide)) rfl rfl ?_
      refine pm_R_op pm_M66 (pc_q := 13) (st_q := [.int 1, .ref 23, .int a1]) rfl rfl rfl ?_
      obtain ⟨f9, e10, b11⟩ := T.C 23 (by decide) (by decide)
      obtain ⟨z6, ez7⟩ : ∃ y, f9 (Int32.toNatClampNeg 1) = y := ⟨_, rfl⟩
      have B8 : sf_B 0 3 z6 := ez7 ▸ (b11 1)
      refine pm_R_iald pm_M66 (pc_q := 14) (v := z6) rfl e10 (T.lt (by decide)) rfl ez7 rfl ?_
      refine pm_R_icmp pm_M66 (t := 21) (pc_q := 17) rfl rfl rfl (fun c12 => ?_) (fun c12 => ?_)
      · have B13 : sf_B 0 2 a1 := sf_ltL c12 B5 B8
        have B14 : sf_B 1 3 z6 := sf_ltR c12 B5 B8
        refine pm_R_lo pm_M66 (pc_q := 22) rfl rfl rfl ?_
        refine pm_R_get pm_M66 (pc_q := 25) (v := .ref 17) rfl rfl T.e16 (by decide) (T.lt (by decide)) rfl rfl ?_
        refine pm_R_get pm_M66 (pc_q := 28) (v := .ref 20) rfl rfl T.e17 (by decide) (T.lt (by decide)) rfl rfl ?_
        refine pm_R_lo pm_M66 (pc_q := 29) rfl rfl rfl ?_
        obtain ⟨f15, e16, b17⟩ := T.C 20 (by decide) (by decide)
        obtain ⟨l18, hx19⟩ := cl_there1 T e10 e16 ez7 c12 B13 (by decide)
        have hk20 := b17 _ _ hx19
        refine pm_R_aald pm_M66 (pc_q := 30) (v := .ref l18) rfl e16 (by decide) (by decide) (by decide) (T.lt (by decide)) (sf_in B13 (by decide) (by decide)) (by rw [hx19]; rfl) rfl ?_
        refine pm_R_ret pm_M66 (r := some (.ref l18)) rfl rfl ?_
        show pm_R _ 109 12 [.ref 16, .int a0, .int a1, .int a2, .int a3, .null, pm_no] [.ref l18] _ _
        refine pm_R_lo pm_M109 (pc_q := 14) (ls_q := [.ref 16, .int a0, .int a1, .int a2, .int a3, .null, .ref l18]) (st_q := []) rfl rfl rfl ?_
        refine pm_R_lo pm_M109 (pc_q := 16) rfl rfl rfl ?_
        refine pm_R_br pm_M109 (pc_q := 31) rfl rfl ?_
        refine pm_R_op pm_M109 (pc_q := 33) (st_q := [.int (-2)]) rfl rfl rfl ?_
        exact pm_R_ret pm_M109 (r := some (.int (-2))) rfl rfl (K (-2) m h T (cl_F.refl (ck := ck) (A := [32, 38]) (n := 0) (s := 0) T.1) (rf_W.refl [] m) (sf_weak sf_kn2 (by decide) (by decide)))
      · skip
        refine pm_R_op pm_M66 (pc_q := 18) (st_q := [.null]) rfl rfl rfl ?_
        refine pm_R_br pm_M66 (pc_q := 30) rfl rfl ?_
        refine pm_R_ret pm_M66 (r := some (.null)) rfl rfl ?_
        show pm_R _ 109 12 [.ref 16, .int a0, .int a1, .int a2, .int a3, .null, pm_no] [.null] _ _
        refine pm_R_lo pm_M109 (pc_q := 14) (ls_q := [.ref 16, .int a0, .int a1, .int a2, .int a3, .null, .null]) (st_q := []) rfl rfl rfl ?_
        refine pm_R_lo pm_M109 (pc_q := 16) rfl rfl rfl ?_
        refine pm_R_br pm_M109 (pc_q := 31) rfl rfl ?_
        refine pm_R_op pm_M109 (pc_q := 33) (st_q := [.int (-2)]) rfl rfl rfl ?_
        exact pm_R_ret pm_M109 (r := some (.int (-2))) rfl rfl (K (-2) m h T (cl_F.refl (ck := ck) (A := [32, 38]) (n := 0) (s := 0) T.1) (rf_W.refl [] m) (sf_weak sf_kn2 (by decide) (by decide)))
  · have B21 : sf_B 0 2147483647 a0 := sf_leR (Int32.not_lt.mp c1) sf_k0 (sf_any a0)
    refine pm_R_lo pm_M62 (pc_q := 5) rfl rfl rfl ?_
    refine pm_R_lo pm_M62 (pc_q := 6) rfl rfl rfl ?_
    refine pm_R_get pm_M62 (pc_q := 9) (v := .ref 17) rfl rfl T.e16 (by decide) (T.lt (by decide)) rfl rfl ?_
    refine pm_R_get pm_M62 (pc_q := 12) (v := .ref 23) rfl rfl T.e17 (by decide) (T.lt (by decide)) rfl rfl ?_
    refine pm_R_op pm_M62 (pc_q := 13) (st_q := [.int 0, .ref 23, .int a0]) rfl rfl rfl ?_
    obtain ⟨f25, e26, b27⟩ := T.C 23 (by decide) (by decide)
    obtain ⟨z22, ez23⟩ : ∃ y, f25 (Int32.toNatClampNeg 0) = y := ⟨_, rfl⟩
    have B24 : sf_B 0 2 z22 := ez23 ▸ (b27 0)
    refine pm_R_iald pm_M62 (pc_q := 14) (v := z22) rfl e26 (T.lt (by decide)) rfl ez23 rfl ?_
    refine pm_R_icmp pm_M62 (t := 21) (pc_q := 17) rfl rfl rfl (fun c28 => ?_) (fun c28 => ?_)
    · have B29 : sf_B 0 1 a0 := sf_ltL c28 B21 B24
      have B30 : sf_B 1 2 z22 := sf_ltR c28 B21 B24
      refine pm_R_lo pm_M62 (pc_q := 22) rfl rfl rfl ?_
      refine pm_R_get pm_M62 (pc_q := 25) (v := .ref 17) rfl rfl T.e16 (by decide) (T.lt (by decide)) rfl rfl ?_
      refine pm_R_get pm_M62 (pc_q := 28) (v := .ref 19) rfl rfl T.e17 (by decide) (T.lt (by decide)) rfl rfl ?_
      refine pm_R_lo pm_M62 (pc_q := 29) rfl rfl rfl ?_
      obtain ⟨f31, e32, b33⟩ := T.C 19 (by decide) (by decide)
      obtain ⟨l34, hx35⟩ := cl_there0 T e26 e32 ez23 c28 B29 (by decide)
      have hk36 := b33 _ _ hx35
      refine pm_R_aald pm_M62 (pc_q := 30) (v := .ref l34) rfl e32 (by decide) (by decide) (by decide) (T.lt (by decide)) (sf_in B29 (by decide) (by decide)) (by rw [hx35]; rfl) rfl ?_
      refine pm_R_ret pm_M62 (r := some (.ref l34)) rfl rfl ?_
      show pm_R _ 109 5 [.ref 16, .int a0, .int a1, .int a2, .int a3, pm_no, pm_no] [.ref l34] _ _
      refine pm_R_lo pm_M109 (pc_q := 7) (ls_q := [.ref 16, .int a0, .int a1, .int a2, .int a3, .ref l34, pm_no]) (st_q := []) rfl rfl rfl ?_
      refine pm_R_lo pm_M109 (pc_q := 8) rfl rfl rfl ?_
      refine pm_R_lo pm_M109 (pc_q := 9) rfl rfl rfl ?_
      refine pm_R_cv pm_M109 (pc_q := 12) (a := 16) (ra := [.int a1]) (rest := []) (ls_q := [.ref 16, .int a1]) rfl rfl (Or.inl rfl) pm_M66 T.e16 rfl (by decide) (T.lt (by decide)) rfl rfl (Nat.le_of_ble_eq_true rfl) rfl rfl ?_
      refine pm_R_lo pm_M66 (pc_q := 1) rfl rfl rfl ?_
      refine pm_R_ifc pm_M66 (t := 17) (pc_q := 4) rfl rfl rfl (fun c37 => ?_) (fun c37 => ?_)
      · have B38 : sf_B (-2147483648) (-1) a1 := sf_ltL c37 (sf_any a1) sf_k0
        refine pm_R_op pm_M66 (pc_q := 18) (st_q := [.null]) rfl rfl rfl ?_
        refine pm_R_br pm_M66 (pc_q := 30) rfl rfl ?_
        refine pm_R_ret pm_M66 (r := some (.null)) rfl rfl ?_
        show pm_R _ 109 12 [.ref 16, .int a0, .int a1, .int a2, .int a3, .ref l34, pm_no] [.null] _ _
        refine pm_R_lo pm_M109 (pc_q := 14) (ls_q := [.ref 16, .int a0, .int a1, .int a2, .int a3, .ref l34, .null]) (st_q := []) rfl rfl rfl ?_
        refine pm_R_lo pm_M109 (pc_q := 16) rfl rfl rfl ?_
        refine pm_R_br pm_M109 (pc_q := 19) rfl rfl ?_
        refine pm_R_lo pm_M109 (pc_q := 21) rfl rfl rfl ?_
        refine pm_R_br pm_M109 (pc_q := 31) rfl rfl ?_
        refine pm_R_op pm_M109 (pc_q := 33) (st_q := [.int (-2)]) rfl rfl rfl ?_
        exact pm_R_ret pm_M109 (r := some (.int (-2))) rfl rfl (K (-2) m h T (cl_F.refl (ck := ck) (A := [32, 38]) (n := 0) (s := 0) T.1) (rf_W.refl [] m) (sf_weak sf_kn2 (by decide) (by decide)))
      · have B39 : sf_B 0 2147483647 a1 := sf_leR (Int32.not_lt.mp c37) sf_k0 (sf_any a1)
        refine pm_R_lo pm_M66 (pc_q := 5) rfl rfl rfl ?_
        refine pm_R_lo pm_M66 (pc_q := 6) rfl rfl rfl ?_
        refine pm_R_get pm_M66 (pc_q := 9) (v := .ref 17) rfl rfl T.e16 (by decide) (T.lt (by decide)) rfl rfl ?_
        refine pm_R_get pm_M66 (pc_q := 12) (v := .ref 23) rfl rfl T.e17 (by decide) (T.lt (by decide)) rfl rfl ?_
        refine pm_R_op pm_M66 (pc_q := 13) (st_q := [.int 1, .ref 23, .int a1]) rfl rfl rfl ?_
        obtain ⟨z40, ez41⟩ : ∃ y, f25 (Int32.toNatClampNeg 1) = y := ⟨_, rfl⟩
        have B42 : sf_B 0 3 z40 := ez41 ▸ (b27 1)
        refine pm_R_iald pm_M66 (pc_q := 14) (v := z40) rfl e26 (T.lt (by decide)) rfl ez41 rfl ?_
        refine pm_R_icmp pm_M66 (t := 21) (pc_q := 17) rfl rfl rfl (fun c43 => ?_) (fun c43 => ?_)
        · have B44 : sf_B 0 2 a1 := sf_ltL c43 B39 B42
          have B45 : sf_B 1 3 z40 := sf_ltR c43 B39 B42
          refine pm_R_lo pm_M66 (pc_q := 22) rfl rfl rfl ?_
          refine pm_R_get pm_M66 (pc_q := 25) (v := .ref 17) rfl rfl T.e16 (by decide) (T.lt (by decide)) rfl rfl ?_
          refine pm_R_get pm_M66 (pc_q := 28) (v := .ref 20) rfl rfl T.e17 (by decide) (T.lt (by decide)) rfl rfl ?_
          refine pm_R_lo pm_M66 (pc_q := 29) rfl rfl rfl ?_
          obtain ⟨f46, e47, b48⟩ := T.C 20 (by decide) (by decide)
          obtain ⟨l49, hx50⟩ := cl_there1 T e26 e47 ez41 c43 B44 (by decide)
          have hk51 := b48 _ _ hx50
          refine pm_R_aald pm_M66 (pc_q := 30) (v := .ref l49) rfl e47 (by decide) (by decide) (by decide) (T.lt (by decide)) (sf_in B44 (by decide) (by decide)) (by rw [hx50]; rfl) rfl ?_
          refine pm_R_ret pm_M66 (r := some (.ref l49)) rfl rfl ?_
          show pm_R _ 109 12 [.ref 16, .int a0, .int a1, .int a2, .int a3, .ref l34, pm_no] [.ref l49] _ _
          refine pm_R_lo pm_M109 (pc_q := 14) (ls_q := [.ref 16, .int a0, .int a1, .int a2, .int a3, .ref l34, .ref l49]) (st_q := []) rfl rfl rfl ?_
          refine pm_R_lo pm_M109 (pc_q := 16) rfl rfl rfl ?_
          refine pm_R_br pm_M109 (pc_q := 19) rfl rfl ?_
          refine pm_R_lo pm_M109 (pc_q := 21) rfl rfl rfl ?_
          refine pm_R_br pm_M109 (pc_q := 24) rfl rfl ?_
          refine pm_R_lo pm_M109 (pc_q := 25) rfl rfl rfl ?_
          refine pm_R_cs pm_M109 (pc_q := 28) (ra := [.int a2]) (rest := []) (ls_q := [.int a2]) rfl rfl (Or.inl rfl) pm_M110 rfl rfl (Nat.le_of_ble_eq_true rfl) rfl rfl ?_
          refine pm_R_lo pm_M110 (pc_q := 1) rfl rfl rfl ?_
          refine pm_R_ifc pm_M110 (t := 14) (pc_q := 4) rfl rfl rfl (fun c52 => ?_) (fun c52 => ?_)
          · have B53 : sf_B (-2147483648) (-1) a2 := sf_ltL c52 (sf_any a2) sf_k0
            refine pm_R_op pm_M110 (pc_q := 15) (st_q := [.int 0]) rfl rfl rfl ?_
            refine pm_R_ret pm_M110 (r := some (.int 0)) rfl rfl ?_
            show pm_R _ 109 28 [.ref 16, .int a0, .int a1, .int a2, .int a3, .ref l34, .ref l49] [.int 0] _ _
            refine pm_R_br pm_M109 (pc_q := 31) (st_q := []) rfl rfl ?_
            refine pm_R_op pm_M109 (pc_q := 33) (st_q := [.int (-2)]) rfl rfl rfl ?_
            exact pm_R_ret pm_M109 (r := some (.int (-2))) rfl rfl (K (-2) m h T (cl_F.refl (ck := ck) (A := [32, 38]) (n := 0) (s := 0) T.1) (rf_W.refl [] m) (sf_weak sf_kn2 (by decide) (by decide)))
          · have B54 : sf_B 0 2147483647 a2 := sf_leR (Int32.not_lt.mp c52) sf_k0 (sf_any a2)
            refine pm_R_lo pm_M110 (pc_q := 5) rfl rfl rfl ?_
            refine pm_R_op pm_M110 (pc_q := 7) (st_q := [.int 9, .int a2]) rfl rfl rfl ?_
            refine pm_R_icmp pm_M110 (t := 14) (pc_q := 10) rfl rfl rfl (fun c55 => ?_) (fun c55 => ?_)
            · have B56 : sf_B 10 2147483647 a2 := sf_ltR c55 sf_k9 B54
              refine pm_R_op pm_M110 (pc_q := 15) (st_q := [.int 0]) rfl rfl rfl ?_
              refine pm_R_ret pm_M110 (r := some (.int 0)) rfl rfl ?_
              show pm_R _ 109 28 [.ref 16, .int a0, .int a1, .int a2, .int a3, .ref l34, .ref l49] [.int 0] _ _
              refine pm_R_br pm_M109 (pc_q := 31) (st_q := []) rfl rfl ?_
              refine pm_R_op pm_M109 (pc_q := 33) (st_q := [.int (-2)]) rfl rfl rfl ?_
              exact pm_R_ret pm_M109 (r := some (.int (-2))) rfl rfl (K (-2) m h T (cl_F.refl (ck := ck) (A := [32, 38]) (n := 0) (s := 0) T.1) (rf_W.refl [] m) (sf_weak sf_kn2 (by decide) (by decide)))
            · have B57 : sf_B 0 9 a2 := sf_leL (Int32.not_lt.mp c55) B54 sf_k9
              refine pm_R_op pm_M110 (pc_q := 11) (st_q := [.int 1]) rfl rfl rfl ?_
              refine pm_R_br pm_M110 (pc_q := 15) rfl rfl ?_
              refine pm_R_ret pm_M110 (r := some (.int 1)) rfl rfl ?_
              show pm_R _ 109 28 [.ref 16, .int a0, .int a1, .int a2, .int a3, .ref l34, .ref l49] [.int 1] _ _
              refine pm_R_br pm_M109 (pc_q := 34) (st_q := []) rfl rfl ?_
              refine pm_R_lo pm_M109 (pc_q := 35) rfl rfl rfl ?_
              refine pm_R_lo pm_M109 (pc_q := 37) rfl rfl rfl ?_
              refine pm_R_lo pm_M109 (pc_q := 39) rfl rfl rfl ?_
              refine pm_R_lo pm_M109 (pc_q := 40) rfl rfl rfl ?_
              refine pm_R_cv pm_M109 (pc_q := 43) (a := 16) (ra := [.int a2, .ref l49, .ref l34]) (rest := []) (ls_q := [.ref 16, .ref l34, .ref l49, .int a2]) rfl rfl (Or.inl rfl) pm_M98 T.e16 rfl (by decide) (T.lt (by decide)) rfl rfl (Nat.le_of_ble_eq_true rfl) rfl rfl ?_
              refine cl_c98 (d := d + 0) G T hk36 hk51 B57 (fun r58 m60 h61 T62 F63 W64 => ?_)
              have F65 := (cl_F.refl (ck := ck) (A := [32, 38]) (n := 0) (s := 0) T.1).trans (N := 0) (S := 0) F63 (by decide) (by decide) (by decide)
              have W66 : rf_W [] m m60 := (rf_W.refl [] m).trans W64 (by decide)
              show pm_R _ 109 43 [.ref 16, .int a0, .int a1, .int a2, .int a3, .ref l34, .ref l49] [.long r58] _ _
              refine pm_R_lo pm_M109 (pc_q := 45) rfl rfl rfl ?_
              refine pm_R_cs pm_M109 (pc_q := 48) (ra := [.int a3, .long r58]) (rest := []) (ls_q := [.long r58, pm_no, .int a3, pm_no, pm_no, pm_no]) rfl rfl (Or.inl rfl) pm_M107 rfl rfl (Nat.le_of_ble_eq_true rfl) rfl rfl ?_
              refine cl_c107 (d := d + 3)  (fun r67 B68 => ?_)
              show pm_R _ 109 48 [.ref 16, .int a0, .int a1, .int a2, .int a3, .ref l34, .ref l49] [.int r67] _ _
              exact pm_R_ret pm_M109 (r := some (.int r67)) rfl (pm_ret_i _) (K r67 m60 h61 T62 F65 W66 B68)
        · skip
          refine pm_R_op pm_M66 (pc_q := 18) (st_q := [.null]) rfl rfl rfl ?_
          refine pm_R_br pm_M66 (pc_q := 30) rfl rfl ?_
          refine pm_R_ret pm_M66 (r := some (.null)) rfl rfl ?_
          show pm_R _ 109 12 [.ref 16, .int a0, .int a1, .int a2, .int a3, .ref l34, pm_no] [.null] _ _
          refine pm_R_lo pm_M109 (pc_q := 14) (ls_q := [.ref 16, .int a0, .int a1, .int a2, .int a3, .ref l34, .null]) (st_q := []) rfl rfl rfl ?_
          refine pm_R_lo pm_M109 (pc_q := 16) rfl rfl rfl ?_
          refine pm_R_br pm_M109 (pc_q := 19) rfl rfl ?_
          refine pm_R_lo pm_M109 (pc_q := 21) rfl rfl rfl ?_
          refine pm_R_br pm_M109 (pc_q := 31) rfl rfl ?_
          refine pm_R_op pm_M109 (pc_q := 33) (st_q := [.int (-2)]) rfl rfl rfl ?_
          exact pm_R_ret pm_M109 (r := some (.int (-2))) rfl rfl (K (-2) m h T (cl_F.refl (ck := ck) (A := [32, 38]) (n := 0) (s := 0) T.1) (rf_W.refl [] m) (sf_weak sf_kn2 (by decide) (by decide)))
    · skip
      refine pm_R_op pm_M62 (pc_q := 18) (st_q := [.null]) rfl rfl rfl ?_
      refine pm_R_br pm_M62 (pc_q := 30) rfl rfl ?_
      refine pm_R_ret pm_M62 (r := some (.null)) rfl rfl ?_
      show pm_R _ 109 5 [.ref 16, .int a0, .int a1, .int a2, .int a3, pm_no, pm_no] [.null] _ _
      refine pm_R_lo pm_M109 (pc_q := 7) (ls_q := [.ref 16, .int a0, .int a1, .int a2, .int a3, .null, pm_no]) (st_q := []) rfl rfl rfl ?_
      refine pm_R_lo pm_M109 (pc_q := 8) rfl rfl rfl ?_
      refine pm_R_lo pm_M109 (pc_q := 9) rfl rfl rfl ?_
      refine pm_R_cv pm_M109 (pc_q := 12) (a := 16) (ra := [.int a1]) (rest := []) (ls_q := [.ref 16, .int a1]) rfl rfl (Or.inl rfl) pm_M66 T.e16 rfl (by decide) (T.lt (by decide)) rfl rfl (Nat.le_of_ble_eq_true rfl) rfl rfl ?_
      refine pm_R_lo pm_M66 (pc_q := 1) rfl rfl rfl ?_
      refine pm_R_ifc pm_M66 (t := 17) (pc_q := 4) rfl rfl rfl (fun c74 => ?_) (fun c74 => ?_)
      · have B75 : sf_B (-2147483648) (-1) a1 := sf_ltL c74 (sf_any a1) sf_k0
        refine pm_R_op pm_M66 (pc_q := 18) (st_q := [.null]) rfl rfl rfl ?_
        refine pm_R_br pm_M66 (pc_q := 30) rfl rfl ?_
        refine pm_R_ret pm_M66 (r := some (.null)) rfl rfl ?_
        show pm_R _ 109 12 [.ref 16, .int a0, .int a1, .int a2, .int a3, .null, pm_no] [.null] _ _
        refine pm_R_lo pm_M109 (pc_q := 14) (ls_q := [.ref 16, .int a0, .int a1, .int a2, .int a3, .null, .null]) (st_q := []) rfl rfl rfl ?_
        refine pm_R_lo pm_M109 (pc_q := 16) rfl rfl rfl ?_
        refine pm_R_br pm_M109 (pc_q := 31) rfl rfl ?_
        refine pm_R_op pm_M109 (pc_q := 33) (st_q := [.int (-2)]) rfl rfl rfl ?_
        exact pm_R_ret pm_M109 (r := some (.int (-2))) rfl rfl (K (-2) m h T (cl_F.refl (ck := ck) (A := [32, 38]) (n := 0) (s := 0) T.1) (rf_W.refl [] m) (sf_weak sf_kn2 (by decide) (by decide)))
      · have B76 : sf_B 0 2147483647 a1 := sf_leR (Int32.not_lt.mp c74) sf_k0 (sf_any a1)
        refine pm_R_lo pm_M66 (pc_q := 5) rfl rfl rfl ?_
        refine pm_R_lo pm_M66 (pc_q := 6) rfl rfl rfl ?_
        refine pm_R_get pm_M66 (pc_q := 9) (v := .ref 17) rfl rfl T.e16 (by decide) (T.lt (by decide)) rfl rfl ?_
        refine pm_R_get pm_M66 (pc_q := 12) (v := .ref 23) rfl rfl T.e17 (by decide) (T.lt (by decide)) rfl rfl ?_
        refine pm_R_op pm_M66 (pc_q := 13) (st_q := [.int 1, .ref 23, .int a1]) rfl rfl rfl ?_
        obtain ⟨z77, ez78⟩ : ∃ y, f25 (Int32.toNatClampNeg 1) = y := ⟨_, rfl⟩
        have B79 : sf_B 0 3 z77 := ez78 ▸ (b27 1)
        refine pm_R_iald pm_M66 (pc_q := 14) (v := z77) rfl e26 (T.lt (by decide)) rfl ez78 rfl ?_
        refine pm_R_icmp pm_M66 (t := 21) (pc_q := 17) rfl rfl rfl (fun c80 => ?_) (fun c80 => ?_)
        · have B81 : sf_B 0 2 a1 := sf_ltL c80 B76 B79
          have B82 : sf_B 1 3 z77 := sf_ltR c80 B76 B79
          refine pm_R_lo pm_M66 (pc_q := 22) rfl rfl rfl ?_
          refine pm_R_get pm_M66 (pc_q := 25) (v := .ref 17) rfl rfl T.e16 (by decide) (T.lt (by decide)) rfl rfl ?_
          refine pm_R_get pm_M66 (pc_q := 28) (v := .ref 20) rfl rfl T.e17 (by decide) (T.lt (by decide)) rfl rfl ?_
          refine pm_R_lo pm_M66 (pc_q := 29) rfl rfl rfl ?_
          obtain ⟨f83, e84, b85⟩ := T.C 20 (by decide) (by decide)
          obtain ⟨l86, hx87⟩ := cl_there1 T e26 e84 ez78 c80 B81 (by decide)
          have hk88 := b85 _ _ hx87
          refine pm_R_aald pm_M66 (pc_q := 30) (v := .ref l86) rfl e84 (by decide) (by decide) (by decide) (T.lt (by decide)) (sf_in B81 (by decide) (by decide)) (by rw [hx87]; rfl) rfl ?_
          refine pm_R_ret pm_M66 (r := some (.ref l86)) rfl rfl ?_
          show pm_R _ 109 12 [.ref 16, .int a0, .int a1, .int a2, .int a3, .null, pm_no] [.ref l86] _ _
          refine pm_R_lo pm_M109 (pc_q := 14) (ls_q := [.ref 16, .int a0, .int a1, .int a2, .int a3, .null, .ref l86]) (st_q := []) rfl rfl rfl ?_
          refine pm_R_lo pm_M109 (pc_q := 16) rfl rfl rfl ?_
          refine pm_R_br pm_M109 (pc_q := 31) rfl rfl ?_
          refine pm_R_op pm_M109 (pc_q := 33) (st_q := [.int (-2)]) rfl rfl rfl ?_
          exact pm_R_ret pm_M109 (r := some (.int (-2))) rfl rfl (K (-2) m h T (cl_F.refl (ck := ck) (A := [32, 38]) (n := 0) (s := 0) T.1) (rf_W.refl [] m) (sf_weak sf_kn2 (by decide) (by decide)))
        · skip
          refine pm_R_op pm_M66 (pc_q := 18) (st_q := [.null]) rfl rfl rfl ?_
          refine pm_R_br pm_M66 (pc_q := 30) rfl rfl ?_
          refine pm_R_ret pm_M66 (r := some (.null)) rfl rfl ?_
          show pm_R _ 109 12 [.ref 16, .int a0, .int a1, .int a2, .int a3, .null, pm_no] [.null] _ _
          refine pm_R_lo pm_M109 (pc_q := 14) (ls_q := [.ref 16, .int a0, .int a1, .int a2, .int a3, .null, .null]) (st_q := []) rfl rfl rfl ?_
          refine pm_R_lo pm_M109 (pc_q := 16) rfl rfl rfl ?_
          refine pm_R_br pm_M109 (pc_q := 31) rfl rfl ?_
          refine pm_R_op pm_M109 (pc_q := 33) (st_q := [.int (-2)]) rfl rfl rfl ?_
          exact pm_R_ret pm_M109 (r := some (.int (-2))) rfl rfl (K (-2) m h T (cl_F.refl (ck := ck) (A := [32, 38]) (n := 0) (s := 0) T.1) (rf_W.refl [] m) (sf_weak sf_kn2 (by decide) (by decide)))

set_option maxRecDepth 100000 in
set_option maxHeartbeats 4000000 in
/-- SilentTable.like -/
theorem cl_c111 {d : Nat} {ck : cl_K} {E : Nat → pm_E} {m : Nat → Int32} {o : Nat → Option Nat} {h : pm_H} {Q : Option Value → pm_H → Prop} {a0 : Int32} {a1 : Int32} {a2 : Int32} (G : cl_G ck E) (T : cl_T ck E m o h)  (K : ∀ (r : Int32) (m_q : Nat → Int32) (h_q : pm_H), cl_T ck E m_q o h_q → cl_F ck [32, 38] 0 0 h h_q → rf_W [] m m_q → sf_B (-1) 127 r → Q (some (.int r)) h_q) : pm_R (d + 5) 111 0 [.ref 16, .int a0, .int a1, .int a2, pm_no, pm_no, pm_no] [] h Q := by
  refine pm_R_lo pm_M111 (pc_q := 1) rfl rfl rfl ?_
  refine pm_R_lo pm_M111 (pc_q := 2) rfl rfl rfl ?_
  refine pm_R_cv pm_M111 (pc_q := 5) (a := 16) (ra := [.int a0]) (rest := []) (ls_q := [.ref 16, .int a0]) rfl rfl (Or.inl rfl) pm_M62 T.e16 rfl (by decide) (T.lt (by decide)) rfl rfl (Nat.le_of_ble_eq_true rfl) rfl rfl ?_
  refine pm_R_lo pm_M62 (pc_q := 1) rfl rfl rfl ?_
  refine pm_R_ifc pm_M62 (t := 17) (pc_q := 4) rfl rfl rfl (fun c1 => ?_) (fun c1 => ?_)
  · have B2 : sf_B (-2147483648) (-1) a0 := sf_ltL c1 (sf_any a0) sf_k0
    refine pm_R_op pm_M62 (pc_q := 18) (st_q := [.null]) rfl rfl rfl ?_
    refine pm_R_br pm_M62 (pc_q := 30) rfl rfl ?_
    refine pm_R_ret pm_M62 (r := some (.null)) rfl rfl ?_
    show pm_R _ 111 5 [.ref 16, .int a0, .int a1, .int a2, pm_no, pm_no, pm_no] [.null] _ _
    refine pm_R_lo pm_M111 (pc_q := 7) (ls_q := [.ref 16, .int a0, .int a1, .int a2, .null, pm_no, pm_no]) (st_q := []) rfl rfl rfl ?_
    refine pm_R_lo pm_M111 (pc_q := 8) rfl rfl rfl ?_
    refine pm_R_lo pm_M111 (pc_q := 9) rfl rfl rfl ?_
    refine pm_R_cv pm_M111 (pc_q := 12) (a := 16) (ra := [.int a1]) (rest := []) (ls_q := [.ref 16, .int a1]) rfl rfl (Or.inl rfl) pm_M66 T.e16 rfl (by decide) (T.lt (by decide)) rfl rfl (Nat.le_of_ble_eq_true rfl) rfl rfl ?_
    refine pm_R_lo pm_M66 (pc_q := 1) rfl rfl rfl ?_
    refine pm_R_ifc pm_M66 (t := 17) (pc_q := 4) rfl rfl rfl (fun c3 => ?_) (fun c3 => ?_)
    · have B4 : sf_B (-2147483648) (-1) a1 := sf_ltL c3 (sf_any a1) sf_k0
      refine pm_R_op pm_M66 (pc_q := 18) (st_q := [.null]) rfl rfl rfl ?_
      refine pm_R_br pm_M66 (pc_q := 30) rfl rfl ?_
      refine pm_R_ret pm_M66 (r := some (.null)) rfl rfl ?_
      show pm_R _ 111 12 [.ref 16, .int a0, .int a1, .int a2, .null, pm_no, pm_no] [.null] _ _
      refine pm_R_lo pm_M111 (pc_q := 14) (ls_q := [.ref 16, .int a0, .int a1, .int a2, .null, .null, pm_no]) (st_q := []) rfl rfl rfl ?_
      refine pm_R_lo pm_M111 (pc_q := 15) rfl rfl rfl ?_
      refine pm_R_lo pm_M111 (pc_q := 16) rfl rfl rfl ?_
      refine pm_R_cv pm_M111 (pc_q := 19) (a := 16) (ra := [.int a2]) (rest := []) (ls_q := [.ref 16, .int a2]) rfl rfl (Or.inl rfl) pm_M66 T.e16 rfl (by decide) (T.lt (by decide)) rfl rfl (Nat.le_of_ble_eq_true rfl) rfl rfl ?_
      refine pm_R_lo pm_M66 (pc_q := 1) rfl rfl rfl ?_
      refine pm_R_ifc pm_M66 (t := 17) (pc_q := 4) rfl rfl rfl (fun c5 => ?_) (fun c5 => ?_)
      · have B6 : sf_B (-2147483648) (-1) a2 := sf_ltL c5 (sf_any a2) sf_k0
        refine pm_R_op pm_M66 (pc_q := 18) (st_q := [.null]) rfl rfl rfl ?_
        refine pm_R_br pm_M66 (pc_q := 30) rfl rfl ?_
        refine pm_R_ret pm_M66 (r := some (.null)) rfl rfl ?_
        show pm_R _ 111 19 [.ref 16, .int a0, .int a1, .int a2, .null, .null, pm_no] [.null] _ _
        refine pm_R_lo pm_M111 (pc_q := 21) (ls_q := [.ref 16, .int a0, .int a1, .int a2, .null, .null, .null]) (st_q := []) rfl rfl rfl ?_
        refine pm_R_lo pm_M111 (pc_q := 23) rfl rfl rfl ?_
        refine pm_R_br pm_M111 (pc_q := 36) rfl rfl ?_
        refine pm_R_op pm_M111 (pc_q := 37) (st_q := [.int (-1)]) rfl rfl rfl ?_
        exact pm_R_ret pm_M111 (r := some (.int (-1))) rfl rfl (K (-1) m h T (cl_F.refl (ck := ck) (A := [32, 38]) (n := 0) (s := 0) T.1) (rf_W.refl [] m) (sf_weak sf_kn1 (by decide) (by decide)))
      · have B7 : sf_B 0 2147483647 a2 := sf_leR (Int32.not_lt.mp c5) sf_k0 (sf_any a2)
        refine pm_R_lo pm_M66 (pc_q := 5) rfl rfl rfl ?_
        refine pm_R_lo pm_M66 (pc_q := 6) rfl rfl rfl ?_
        refine pm_R_get pm_M66 (pc_q := 9) (v := .ref 17) rfl rfl T.e16 (by decide) (T.lt (by decide)) rfl rfl ?_
        refine pm_R_get pm_M66 (pc_q := 12) (v := .ref 23) rfl rfl T.e17 (by decide) (T.lt (by decide)) rfl rfl ?_
        refine pm_R_op pm_M66 (pc_q := 13) (st_q := [.int 1, .ref 23, .int a2]) rfl rfl rfl ?_
        obtain ⟨f11, e12, b13⟩ := T.C 23 (by decide) (by decide)
        obtain ⟨z8, ez9⟩ : ∃ y, f11 (Int32.toNatClampNeg 1) = y := ⟨_, rfl⟩
        have B10 : sf_B 0 3 z8 := ez9 ▸ (b13 1)
        refine pm_R_iald pm_M66 (pc_q := 14) (v := z8) rfl e12 (T.lt (by decide)) rfl ez9 rfl ?_
        refine pm_R_icmp pm_M66 (t := 21) (pc_q := 17) rfl rfl rfl (fun c14 => ?_) (fun c14 => ?_)
        · have B15 : sf_B 0 2 a2 := sf_ltL c14 B7 B10
          have B16 : sf_B 1 3 z8 := sf_ltR c14 B7 B10
          refine pm_R_lo pm_M66 (pc_q := 22) rfl rfl rfl ?_
          refine pm_R_get pm_M66 (pc_q := 25) (v := .ref 17) rfl rfl T.e16 (by decide) (T.lt (by decide)) rfl rfl ?_
          refine pm_R_get pm_M66 (pc_q := 28) (v := .ref 20) rfl rfl T.e17 (by decide) (T.lt (by decide)) rfl rfl ?_
          refine pm_R_lo pm_M66 (pc_q := 29) rfl rfl rfl ?_
          obtain ⟨f17, e18, b19⟩ := T.C 20 (by decide) (by decide)
          obtain ⟨l20, hx21⟩ := cl_there1 T e12 e18 ez9 c14 B15 (by decide)
          have hk22 := b19 _ _ hx21
          refine pm_R_aald pm_M66 (pc_q := 30) (v := .ref l20) rfl e18 (by decide) (by decide) (by decide) (T.lt (by decide)) (sf_in B15 (by decide) (by decide)) (by rw [hx21]; rfl) rfl ?_
          refine pm_R_ret pm_M66 (r := some (.ref l20)) rfl rfl ?_
          show pm_R _ 111 19 [.ref 16, .int a0, .int a1, .int a2, .null, .null, pm_no] [.ref l20] _ _
          refine pm_R_lo pm_M111 (pc_q := 21) (ls_q := [.ref 16, .int a0, .int a1, .int a2, .null, .null, .ref l20]) (st_q := []) rfl rfl rfl ?_
          refine pm_R_lo pm_M111 (pc_q := 23) rfl rfl rfl ?_
          refine pm_R_br pm_M111 (pc_q := 36) rfl rfl ?_
          refine pm_R_op pm_M111 (pc_q := 37) (st_q := [.int (-1)]) rfl rfl rfl ?_
          exact pm_R_ret pm_M111 (r := some (.int (-1))) rfl rfl (K (-1) m h T (cl_F.refl (ck := ck) (A := [32, 38]) (n := 0) (s := 0) T.1) (rf_W.refl [] m) (sf_weak sf_kn1 (by decide) (by decide)))
        · skip
          refine pm_R_op pm_M66 (pc_q := 18) (st_q := [.null]) rfl rfl rfl ?_
          refine pm_R_br pm_M66 (pc_q := 30) rfl rfl ?_
          refine pm_R_ret pm_M66 (r := some (.null)) rfl rfl ?_
          show pm_R _ 111 19 [.ref 16, .int a0, .int a1, .int a2, .null, .null, pm_no] [.null] _ _
          refine pm_R_lo pm_M111 (pc_q := 21) (ls_q := [.ref 16, .int a0, .int a1, .int a2, .null, .null, .null]) (st_q := []) rfl rfl rfl ?_
          refine pm_R_lo pm_M111 (pc_q := 23) rfl rfl rfl ?_
          refine pm_R_br pm_M111 (pc_q := 36) rfl rfl ?_
          refine pm_R_op pm_M111 (pc_q := 37) (st_q := [.int (-1)]) rfl rfl rfl ?_
          exact pm_R_ret pm_M111 (r := some (.int (-1))) rfl rfl (K (-1) m h T (cl_F.refl (ck := ck) (A := [32, 38]) (n := 0) (s := 0) T.1) (rf_W.refl [] m) (sf_weak sf_kn1 (by decide) (by decide)))
    · have B23 : sf_B 0 2147483647 a1 := sf_leR (Int32.not_lt.mp c3) sf_k0 (sf_any a1)
      refine pm_R_lo pm_M66 (pc_q := 5) rfl rfl rfl ?_
      refine pm_R_lo pm_M66 (pc_q := 6) rfl rfl rfl ?_
      refine pm_R_get pm_M66 (pc_q := 9) (v := .ref 17) rfl rfl T.e16 (by decide) (T.lt (by decide)) rfl rfl ?_
      refine pm_R_get pm_M66 (pc_q := 12) (v := .ref 23) rfl rfl T.e17 (by decide) (T.lt (by decide)) rfl rfl ?_
      refine pm_R_op pm_M66 (pc_q := 13) (st_q := [.int 1, .ref 23, .int a1]) rfl rfl rfl ?_
      obtain ⟨f27, e28, b29⟩ := T.C 23 (by decide) (by decide)
      obtain ⟨z24, ez25⟩ : ∃ y, f27 (Int32.toNatClampNeg 1) = y := ⟨_, rfl⟩
      have B26 : sf_B 0 3 z24 := ez25 ▸ (b29 1)
      refine pm_R_iald pm_M66 (pc_q := 14) (v := z24) rfl e28 (T.lt (by decide)) rfl ez25 rfl ?_
      refine pm_R_icmp pm_M66 (t := 21) (pc_q := 17) rfl rfl rfl (fun c30 => ?_) (fun c30 => ?_)
      · have B31 : sf_B 0 2 a1 := sf_ltL c30 B23 B26
        have B32 : sf_B 1 3 z24 := sf_ltR c30 B23 B26
        refine pm_R_lo pm_M66 (pc_q := 22) rfl rfl rfl ?_
        refine pm_R_get pm_M66 (pc_q := 25) (v := .ref 17) rfl rfl T.e16 (by decide) (T.lt (by decide)) rfl rfl ?_
        refine pm_R_get pm_M66 (pc_q := 28) (v := .ref 20) rfl rfl T.e17 (by decide) (T.lt (by decide)) rfl rfl ?_
        refine pm_R_lo pm_M66 (pc_q := 29) rfl rfl rfl ?_
        obtain ⟨f33, e34, b35⟩ := T.C 20 (by decide) (by decide)
        obtain ⟨l36, hx37⟩ := cl_there1 T e28 e34 ez25 c30 B31 (by decide)
        have hk38 := b35 _ _ hx37
        refine pm_R_aald pm_M66 (pc_q := 30) (v := .ref l36) rfl e34 (by decide) (by decide) (by decide) (T.lt (by decide)) (sf_in B31 (by decide) (by decide)) (by rw [hx37]; rfl) rfl ?_
        refine pm_R_ret pm_M66 (r := some (.ref l36)) rfl rfl ?_
        show pm_R _ 111 12 [.ref 16, .int a0, .int a1, .int a2, .null, pm_no, pm_no] [.ref l36] _ _
        refine pm_R_lo pm_M111 (pc_q := 14) (ls_q := [.ref 16, .int a0, .int a1, .int a2, .null, .ref l36, pm_no]) (st_q := []) rfl rfl rfl ?_
        refine pm_R_lo pm_M111 (pc_q := 15) rfl rfl rfl ?_
        refine pm_R_lo pm_M111 (pc_q := 16) rfl rfl rfl ?_
        refine pm_R_cv pm_M111 (pc_q := 19) (a := 16) (ra := [.int a2]) (rest := []) (ls_q := [.ref 16, .int a2]) rfl rfl (Or.inl rfl) pm_M66 T.e16 rfl (by decide) (T.lt (by decide)) rfl rfl (Nat.le_of_ble_eq_true rfl) rfl rfl ?_
        refine pm_R_lo pm_M66 (pc_q := 1) rfl rfl rfl ?_
        refine pm_R_ifc pm_M66 (t := 17) (pc_q := 4) rfl rfl rfl (fun c39 => ?_) (fun c39 => ?_)
        · have B40 : sf_B (-2147483648) (-1) a2 := sf_ltL c39 (sf_any a2) sf_k0
          refine pm_R_op pm_M66 (pc_q := 18) (st_q := [.null]) rfl rfl rfl ?_
          refine pm_R_br pm_M66 (pc_q := 30) rfl rfl ?_
          refine pm_R_ret pm_M66 (r := some (.null)) rfl rfl ?_
          show pm_R _ 111 19 [.ref 16, .int a0, .int a1, .int a2, .null, .ref l36, pm_no] [.null] _ _
          refine pm_R_lo pm_M111 (pc_q := 21) (ls_q := [.ref 16, .int a0, .int a1, .int a2, .null, .ref l36, .null]) (st_q := []) rfl rfl rfl ?_
          refine pm_R_lo pm_M111 (pc_q := 23) rfl rfl rfl ?_
          refine pm_R_br pm_M111 (pc_q := 36) rfl rfl ?_
          refine pm_R_op pm_M111 (pc_q := 37) (st_q := [.int (-1)]) rfl rfl rfl ?_
          exact pm_R_ret pm_M111 (r := some (.int (-1))) rfl rfl (K (-1) m h T (cl_F.refl (ck := ck) (A := [32, 38]) (n := 0) (s := 0) T.1) (rf_W.refl [] m) (sf_weak sf_kn1 (by decide) (by decide)))
        · have B41 : sf_B 0 2147483647 a2 := sf_leR (Int32.not_lt.mp c39) sf_k0 (sf_any a2)
          refine pm_R_lo pm_M66 (pc_q := 5) rfl rfl rfl ?_
          refine pm_R_lo pm_M66 (pc_q := 6) rfl rfl rfl ?_
          refine pm_R_get pm_M66 (pc_q := 9) (v := .ref 17) rfl rfl T.e16 (by decide) (T.lt (by decide)) rfl rfl ?_
          refine pm_R_get pm_M66 (pc_q := 12) (v := .ref 23) rfl rfl T.e17 (by decide) (T.lt (by decide)) rfl rfl ?_
          refine pm_R_op pm_M66 (pc_q := 13) (st_q := [.int 1, .ref 23, .int a2]) rfl rfl rfl ?_
          refine pm_R_iald pm_M66 (pc_q := 14) (v := z24) rfl e28 (T.lt (by decide)) rfl ez25 rfl ?_
          refine pm_R_icmp pm_M66 (t := 21) (pc_q := 17) rfl rfl rfl (fun c45 => ?_) (fun c45 => ?_)
          · have B46 : sf_B 0 2 a2 := sf_ltL c45 B41 B32
            refine pm_R_lo pm_M66 (pc_q := 22) rfl rfl rfl ?_
            refine pm_R_get pm_M66 (pc_q := 25) (v := .ref 17) rfl rfl T.e16 (by decide) (T.lt (by decide)) rfl rfl ?_
            refine pm_R_get pm_M66 (pc_q := 28) (v := .ref 20) rfl rfl T.e17 (by decide) (T.lt (by decide)) rfl rfl ?_
            refine pm_R_lo pm_M66 (pc_q := 29) rfl rfl rfl ?_
            obtain ⟨l47, hx48⟩ := cl_there1 T e28 e34 ez25 c45 B46 (by decide)
            have hk49 := b35 _ _ hx48
            refine pm_R_aald pm_M66 (pc_q := 30) (v := .ref l47) rfl e34 (by decide) (by decide) (by decide) (T.lt (by decide)) (sf_in B46 (by decide) (by decide)) (by rw [hx48]; rfl) rfl ?_
            refine pm_R_ret pm_M66 (r := some (.ref l47)) rfl rfl ?_
            show pm_R _ 111 19 [.ref 16, .int a0, .int a1, .int a2, .null, .ref l36, pm_no] [.ref l47] _ _
            refine pm_R_lo pm_M111 (pc_q := 21) (ls_q := [.ref 16, .int a0, .int a1, .int a2, .null, .ref l36, .ref l47]) (st_q := []) rfl rfl rfl ?_
            refine pm_R_lo pm_M111 (pc_q := 23) rfl rfl rfl ?_
            refine pm_R_br pm_M111 (pc_q := 36) rfl rfl ?_
            refine pm_R_op pm_M111 (pc_q := 37) (st_q := [.int (-1)]) rfl rfl rfl ?_
            exact pm_R_ret pm_M111 (r := some (.int (-1))) rfl rfl (K (-1) m h T (cl_F.refl (ck := ck) (A := [32, 38]) (n := 0) (s := 0) T.1) (rf_W.refl [] m) (sf_weak sf_kn1 (by decide) (by decide)))
          · have B50 : sf_B 1 2147483647 a2 := sf_leR (Int32.not_lt.mp c45) B32 B41
            refine pm_R_op pm_M66 (pc_q := 18) (st_q := [.null]) rfl rfl rfl ?_
            refine pm_R_br pm_M66 (pc_q := 30) rfl rfl ?_
            refine pm_R_ret pm_M66 (r := some (.null)) rfl rfl ?_
            show pm_R _ 111 19 [.ref 16, .int a0, .int a1, .int a2, .null, .ref l36, pm_no] [.null] _ _
            refine pm_R_lo pm_M111 (pc_q := 21) (ls_q := [.ref 16, .int a0, .int a1, .int a2, .null, .ref l36, .null]) (st_q := []) rfl rfl rfl ?_
            refine pm_R_lo pm_M111 (pc_q := 23) rfl rfl rfl ?_
            refine pm_R_br pm_M111 (pc_q := 36) rfl rfl ?_
            refine pm_R_op pm_M111 (pc_q := 37) (st_q := [.int (-1)]) rfl rfl rfl ?_
            exact pm_R_ret pm_M111 (r := some (.int (-1))) rfl rfl (K (-1) m h T (cl_F.refl (ck := ck) (A := [32, 38]) (n := 0) (s := 0) T.1) (rf_W.refl [] m) (sf_weak sf_kn1 (by decide) (by decide)))
      · skip
        refine pm_R_op pm_M66 (pc_q := 18) (st_q := [.null]) rfl rfl rfl ?_
        refine pm_R_br pm_M66 (pc_q := 30) rfl rfl ?_
        refine pm_R_ret pm_M66 (r := some (.null)) rfl rfl ?_
        show pm_R _ 111 12 [.ref 16, .int a0, .int a1, .int a2, .null, pm_no, pm_no] [.null] _ _
        refine pm_R_lo pm_M111 (pc_q := 14) (ls_q := [.ref 16, .int a0, .int a1, .int a2, .null, .null, pm_no]) (st_q := []) rfl rfl rfl ?_
        refine pm_R_lo pm_M111 (pc_q := 15) rfl rfl rfl ?_
        refine pm_R_lo pm_M111 (pc_q := 16) rfl rfl rfl ?_
        refine pm_R_cv pm_M111 (pc_q := 19) (a := 16) (ra := [.int a2]) (rest := []) (ls_q := [.ref 16, .int a2]) rfl rfl (Or.inl rfl) pm_M66 T.e16 rfl (by decide) (T.lt (by decide)) rfl rfl (Nat.le_of_ble_eq_true rfl) rfl rfl ?_
        refine pm_R_lo pm_M66 (pc_q := 1) rfl rfl rfl ?_
        refine pm_R_ifc pm_M66 (t := 17) (pc_q := 4) rfl rfl rfl (fun c51 => ?_) (fun c51 => ?_)
        · have B52 : sf_B (-2147483648) (-1) a2 := sf_ltL c51 (sf_any a2) sf_k0
          refine pm_R_op pm_M66 (pc_q := 18) (st_q := [.null]) rfl rfl rfl ?_
          refine pm_R_br pm_M66 (pc_q := 30) rfl rfl ?_
          refine pm_R_ret pm_M66 (r := some (.null)) rfl rfl ?_
          show pm_R _ 111 19 [.ref 16, .int a0, .int a1, .int a2, .null, .null, pm_no] [.null] _ _
          refine pm_R_lo pm_M111 (pc_q := 21) (ls_q := [.ref 16, .int a0, .int a1, .int a2, .null, .null, .null]) (st_q := []) rfl rfl rfl ?_
          refine pm_R_lo pm_M111 (pc_q := 23) rfl rfl rfl ?_
          refine pm_R_br pm_M111 (pc_q := 36) rfl rfl ?_
          refine pm_R_op pm_M111 (pc_q := 37) (st_q := [.int (-1)]) rfl rfl rfl ?_
          exact pm_R_ret pm_M111 (r := some (.int (-1))) rfl rfl (K (-1) m h T (cl_F.refl (ck := ck) (A := [32, 38]) (n := 0) (s := 0) T.1) (rf_W.refl [] m) (sf_weak sf_kn1 (by decide) (by decide)))
        · have B53 : sf_B 0 2147483647 a2 := sf_leR (Int32.not_lt.mp c51) sf_k0 (sf_any a2)
          refine pm_R_lo pm_M66 (pc_q := 5) rfl rfl rfl ?_
          refine pm_R_lo pm_M66 (pc_q := 6) rfl rfl rfl ?_
          refine pm_R_get pm_M66 (pc_q := 9) (v := .ref 17) rfl rfl T.e16 (by decide) (T.lt (by decide)) rfl rfl ?_
          refine pm_R_get pm_M66 (pc_q := 12) (v := .ref 23) rfl rfl T.e17 (by decide) (T.lt (by decide)) rfl rfl ?_
          refine pm_R_op pm_M66 (pc_q := 13) (st_q := [.int 1, .ref 23, .int a2]) rfl rfl rfl ?_
          refine pm_R_iald pm_M66 (pc_q := 14) (v := z24) rfl e28 (T.lt (by decide)) rfl ez25 rfl ?_
          refine pm_R_icmp pm_M66 (t := 21) (pc_q := 17) rfl rfl rfl (fun c57 => ?_) (fun c57 => ?_)
          · have B58 : sf_B 0 2 a2 := sf_ltL c57 B53 B26
            have B59 : sf_B 1 3 z24 := sf_ltR c57 B53 B26
            refine pm_R_lo pm_M66 (pc_q := 22) rfl rfl rfl ?_
            refine pm_R_get pm_M66 (pc_q := 25) (v := .ref 17) rfl rfl T.e16 (by decide) (T.lt (by decide)) rfl rfl ?_
            refine pm_R_get pm_M66 (pc_q := 28) (v := .ref 20) rfl rfl T.e17 (by decide) (T.lt (by decide)) rfl rfl ?_
            refine pm_R_lo pm_M66 (pc_q := 29) rfl rfl rfl ?_
            obtain ⟨f60, e61, b62⟩ := T.C 20 (by decide) (by decide)
            obtain ⟨l63, hx64⟩ := cl_there1 T e28 e61 ez25 c57 B58 (by decide)
            have hk65 := b62 _ _ hx64
            refine pm_R_aald pm_M66 (pc_q := 30) (v := .ref l63) rfl e61 (by decide) (by decide) (by decide) (T.lt (by decide)) (sf_in B58 (by decide) (by decide)) (by rw [hx64]; rfl) rfl ?_
            refine pm_R_ret pm_M66 (r := some (.ref l63)) rfl rfl ?_
            show pm_R _ 111 19 [.ref 16, .int a0, .int a1, .int a2, .null, .null, pm_no] [.ref l63] _ _
            refine pm_R_lo pm_M111 (pc_q := 21) (ls_q := [.ref 16, .int a0, .int a1, .int a2, .null, .null, .ref l63]) (st_q := []) rfl rfl rfl ?_
            refine pm_R_lo pm_M111 (pc_q := 23) rfl rfl rfl ?_
            refine pm_R_br pm_M111 (pc_q := 36) rfl rfl ?_
            refine pm_R_op pm_M111 (pc_q := 37) (st_q := [.int (-1)]) rfl rfl rfl ?_
            exact pm_R_ret pm_M111 (r := some (.int (-1))) rfl rfl (K (-1) m h T (cl_F.refl (ck := ck) (A := [32, 38]) (n := 0) (s := 0) T.1) (rf_W.refl [] m) (sf_weak sf_kn1 (by decide) (by decide)))
          · skip
            refine pm_R_op pm_M66 (pc_q := 18) (st_q := [.null]) rfl rfl rfl ?_
            refine pm_R_br pm_M66 (pc_q := 30) rfl rfl ?_
            refine pm_R_ret pm_M66 (r := some (.null)) rfl rfl ?_
            show pm_R _ 111 19 [.ref 16, .int a0, .int a1, .int a2, .null, .null, pm_no] [.null] _ _
            refine pm_R_lo pm_M111 (pc_q := 21) (ls_q := [.ref 16, .int a0, .int a1, .int a2, .null, .null, .null]) (st_q := []) rfl rfl rfl ?_
            refine pm_R_lo pm_M111 (pc_q := 23) rfl rfl rfl ?_
            refine pm_R_br pm_M111 (pc_q := 36) rfl rfl ?_
            refine pm_R_op pm_M111 (pc_q := 37) (st_q := [.int (-1)]) rfl rfl rfl ?_
            exact pm_R_ret pm_M111 (r := some (.int (-1))) rfl rfl (K (-1) m h T (cl_F.refl (ck := ck) (A := [32, 38]) (n := 0) (s := 0) T.1) (rf_W.refl [] m) (sf_weak sf_kn1 (by decide) (by decide)))
  · have B66 : sf_B 0 2147483647 a0 := sf_leR (Int32.not_lt.mp c1) sf_k0 (sf_any a0)
    refine pm_R_lo pm_M62 (pc_q := 5) rfl rfl rfl ?_
    refine pm_R_lo pm_M62 (pc_q := 6) rfl rfl rfl ?_
    refine pm_R_get pm_M62 (pc_q := 9) (v := .ref 17) rfl rfl T.e16 (by decide) (T.lt (by decide)) rfl rfl ?_
    refine pm_R_get pm_M62 (pc_q := 12) (v := .ref 23) rfl rfl T.e17 (by decide) (T.lt (by decide)) rfl rfl ?_
    refine pm_R_op pm_M62 (pc_q := 13) (st_q := [.int 0, .ref 23, .int a0]) rfl rfl rfl ?_
    obtain ⟨f70, e71, b72⟩ := T.C 23 (by decide) (by decide)
    obtain ⟨z67, ez68⟩ : ∃ y, f70 (Int32.toNatClampNeg 0) = y := ⟨_, rfl⟩
    have B69 : sf_B 0 2 z67 := ez68 ▸ (b72 0)
    refine pm_R_iald pm_M62 (pc_q := 14) (v := z67) rfl e71 (T.lt (by decide)) rfl ez68 rfl ?_
    refine pm_R_icmp pm_M62 (t := 21) (pc_q := 17) rfl rfl rfl (fun c73 => ?_) (fun c73 => ?_)
    · have B74 : sf_B 0 1 a0 := sf_ltL c73 B66 B69
      have B75 : sf_B 1 2 z67 := sf_ltR c73 B66 B69
      refine pm_R_lo pm_M62 (pc_q := 22) rfl rfl rfl ?_
      refine pm_R_get pm_M62 (pc_q := 25) (v := .ref 17) rfl rfl T.e16 (by decide) (T.lt (by decide)) rfl rfl ?_
      refine pm_R_get pm_M62 (pc_q := 28) (v := .ref 19) rfl rfl T.e17 (by decide) (T.lt (by decide)) rfl rfl ?_
      refine pm_R_lo pm_M62 (pc_q := 29) rfl rfl rfl ?_
      obtain ⟨f76, e77, b78⟩ := T.C 19 (by decide) (by decide)
      obtain ⟨l79, hx80⟩ := cl_there0 T e71 e77 ez68 c73 B74 (by decide)
      have hk81 := b78 _ _ hx80
      refine pm_R_aald pm_M62 (pc_q := 30) (v := .ref l79) rfl e77 (by decide) (by decide) (by decide) (T.lt (by decide)) (sf_in B74 (by decide) (by decide)) (by rw [hx80]; rfl) rfl ?_
      refine pm_R_ret pm_M62 (r := some (.ref l79)) rfl rfl ?_
      show pm_R _ 111 5 [.ref 16, .int a0, .int a1, .int a2, pm_no, pm_no, pm_no] [.ref l79] _ _
      refine pm_R_lo pm_M111 (pc_q := 7) (ls_q := [.ref 16, .int a0, .int a1, .int a2, .ref l79, pm_no, pm_no]) (st_q := []) rfl rfl rfl ?_
      refine pm_R_lo pm_M111 (pc_q := 8) rfl rfl rfl ?_
      refine pm_R_lo pm_M111 (pc_q := 9) rfl rfl rfl ?_
      refine pm_R_cv pm_M111 (pc_q := 12) (a := 16) (ra := [.int a1]) (rest := []) (ls_q := [.ref 16, .int a1]) rfl rfl (Or.inl rfl) pm_M66 T.e16 rfl (by decide) (T.lt (by decide)) rfl rfl (Nat.le_of_ble_eq_true rfl) rfl rfl ?_
      refine pm_R_lo pm_M66 (pc_q := 1) rfl rfl rfl ?_
      refine pm_R_ifc pm_M66 (t := 17) (pc_q := 4) rfl rfl rfl (fun c82 => ?_) (fun c82 => ?_)
      · have B83 : sf_B (-2147483648) (-1) a1 := sf_ltL c82 (sf_any a1) sf_k0
        refine pm_R_op pm_M66 (pc_q := 18) (st_q := [.null]) rfl rfl rfl ?_
        refine pm_R_br pm_M66 (pc_q := 30) rfl rfl ?_
        refine pm_R_ret pm_M66 (r := some (.null)) rfl rfl ?_
        show pm_R _ 111 12 [.ref 16, .int a0, .int a1, .int a2, .ref l79, pm_no, pm_no] [.null] _ _
        refine pm_R_lo pm_M111 (pc_q := 14) (ls_q := [.ref 16, .int a0, .int a1, .int a2, .ref l79, .null, pm_no]) (st_q := []) rfl rfl rfl ?_
        refine pm_R_lo pm_M111 (pc_q := 15) rfl rfl rfl ?_
        refine pm_R_lo pm_M111 (pc_q := 16) rfl rfl rfl ?_
        refine pm_R_cv pm_M111 (pc_q := 19) (a := 16) (ra := [.int a2]) (rest := []) (ls_q := [.ref 16, .int a2]) rfl rfl (Or.inl rfl) pm_M66 T.e16 rfl (by decide) (T.lt (by decide)) rfl rfl (Nat.le_of_ble_eq_true rfl) rfl rfl ?_
        refine pm_R_lo pm_M66 (pc_q := 1) rfl rfl rfl ?_
        refine pm_R_ifc pm_M66 (t := 17) (pc_q := 4) rfl rfl rfl (fun c84 => ?_) (fun c84 => ?_)
        · have B85 : sf_B (-2147483648) (-1) a2 := sf_ltL c84 (sf_any a2) sf_k0
          refine pm_R_op pm_M66 (pc_q := 18) (st_q := [.null]) rfl rfl rfl ?_
          refine pm_R_br pm_M66 (pc_q := 30) rfl rfl ?_
          refine pm_R_ret pm_M66 (r := some (.null)) rfl rfl ?_
          show pm_R _ 111 19 [.ref 16, .int a0, .int a1, .int a2, .ref l79, .null, pm_no] [.null] _ _
          refine pm_R_lo pm_M111 (pc_q := 21) (ls_q := [.ref 16, .int a0, .int a1, .int a2, .ref l79, .null, .null]) (st_q := []) rfl rfl rfl ?_
          refine pm_R_lo pm_M111 (pc_q := 23) rfl rfl rfl ?_
          refine pm_R_br pm_M111 (pc_q := 26) rfl rfl ?_
          refine pm_R_lo pm_M111 (pc_q := 28) rfl rfl rfl ?_
          refine pm_R_br pm_M111 (pc_q := 36) rfl rfl ?_
          refine pm_R_op pm_M111 (pc_q := 37) (st_q := [.int (-1)]) rfl rfl rfl ?_
          exact pm_R_ret pm_M111 (r := some (.int (-1))) rfl rfl (K (-1) m h T (cl_F.refl (ck := ck) (A := [32, 38]) (n := 0) (s := 0) T.1) (rf_W.refl [] m) (sf_weak sf_kn1 (by decide) (by decide)))
        · have B86 : sf_B 0 2147483647 a2 := sf_leR (Int32.not_lt.mp c84) sf_k0 (sf_any a2)
          refine pm_R_lo pm_M66 (pc_q := 5) rfl rfl rfl ?_
          refine pm_R_lo pm_M66 (pc_q := 6) rfl rfl rfl ?_
          refine pm_R_get pm_M66 (pc_q := 9) (v := .ref 17) rfl rfl T.e16 (by decide) (T.lt (by decide)) rfl rfl ?_
          refine pm_R_get pm_M66 (pc_q := 12) (v := .ref 23) rfl rfl T.e17 (by decide) (T.lt (by decide)) rfl rfl ?_
          refine pm_R_op pm_M66 (pc_q := 13) (st_q := [.int 1, .ref 23, .int a2]) rfl rfl rfl ?_
          obtain ⟨z87, ez88⟩ : ∃ y, f70 (Int32.toNatClampNeg 1) = y := ⟨_, rfl⟩
          have B89 : sf_B 0 3 z87 := ez88 ▸ (b72 1)
          refine pm_R_iald pm_M66 (pc_q := 14) (v := z87) rfl e71 (T.lt (by decide)) rfl ez88 rfl ?_
          refine pm_R_icmp pm_M66 (t := 21) (pc_q := 17) rfl rfl rfl (fun c90 => ?_) (fun c90 => ?_)
          · have B91 : sf_B 0 2 a2 := sf_ltL c90 B86 B89
            have B92 : sf_B 1 3 z87 := sf_ltR c90 B86 B89
            refine pm_R_lo pm_M66 (pc_q := 22) rfl rfl rfl ?_
            refine pm_R_get pm_M66 (pc_q := 25) (v := .ref 17) rfl rfl T.e16 (by decide) (T.lt (by decide)) rfl rfl ?_
            refine pm_R_get pm_M66 (pc_q := 28) (v := .ref 20) rfl rfl T.e17 (by decide) (T.lt (by decide)) rfl rfl ?_
            refine pm_R_lo pm_M66 (pc_q := 29) rfl rfl rfl ?_
            obtain ⟨f93, e94, b95⟩ := T.C 20 (by decide) (by decide)
            obtain ⟨l96, hx97⟩ := cl_there1 T e71 e94 ez88 c90 B91 (by decide)
            have hk98 := b95 _ _ hx97
            refine pm_R_aald pm_M66 (pc_q := 30) (v := .ref l96) rfl e94 (by decide) (by decide) (by decide) (T.lt (by decide)) (sf_in B91 (by decide) (by decide)) (by rw [hx97]; rfl) rfl ?_
            refine pm_R_ret pm_M66 (r := some (.ref l96)) rfl rfl ?_
            show pm_R _ 111 19 [.ref 16, .int a0, .int a1, .int a2, .ref l79, .null, pm_no] [.ref l96] _ _
            refine pm_R_lo pm_M111 (pc_q := 21) (ls_q := [.ref 16, .int a0, .int a1, .int a2, .ref l79, .null, .ref l96]) (st_q := []) rfl rfl rfl ?_
            refine pm_R_lo pm_M111 (pc_q := 23) rfl rfl rfl ?_
            refine pm_R_br pm_M111 (pc_q := 26) rfl rfl ?_
            refine pm_R_lo pm_M111 (pc_q := 28) rfl rfl rfl ?_
            refine pm_R_br pm_M111 (pc_q := 36) rfl rfl ?_
            refine pm_R_op pm_M111 (pc_q := 37) (st_q := [.int (-1)]) rfl rfl rfl ?_
            exact pm_R_ret pm_M111 (r := some (.int (-1))) rfl rfl (K (-1) m h T (cl_F.refl (ck := ck) (A := [32, 38]) (n := 0) (s := 0) T.1) (rf_W.refl [] m) (sf_weak sf_kn1 (by decide) (by decide)))
          · skip
            refine pm_R_op pm_M66 (pc_q := 18) (st_q := [.null]) rfl rfl rfl ?_
            refine pm_R_br pm_M66 (pc_q := 30) rfl rfl ?_
            refine pm_R_ret pm_M66 (r := some (.null)) rfl rfl ?_
            show pm_R _ 111 19 [.ref 16, .int a0, .int a1, .int a2, .ref l79, .null, pm_no] [.null] _ _
            refine pm_R_lo pm_M111 (pc_q := 21) (ls_q := [.ref 16, .int a0, .int a1, .int a2, .ref l79, .null, .null]) (st_q := []) rfl rfl rfl ?_
            refine pm_R_lo pm_M111 (pc_q := 23) rfl rfl rfl ?_
            refine pm_R_br pm_M111 (pc_q := 26) rfl rfl ?_
            refine pm_R_lo pm_M111 (pc_q := 28) rfl rfl rfl ?_
            refine pm_R_br pm_M111 (pc_q := 36) rfl rfl ?_
            refine pm_R_op pm_M111 (pc_q := 37) (st_q := [.int (-1)]) rfl rfl rfl ?_
            exact pm_R_ret pm_M111 (r := some (.int (-1))) rfl rfl (K (-1) m h T (cl_F.refl (ck := ck) (A := [32, 38]) (n := 0) (s := 0) T.1) (rf_W.refl [] m) (sf_weak sf_kn1 (by decide) (by decide)))
      · have B99 : sf_B 0 2147483647 a1 := sf_leR (Int32.not_lt.mp c82) sf_k0 (sf_any a1)
        refine pm_R_lo pm_M66 (pc_q := 5) rfl rfl rfl ?_
        refine pm_R_lo pm_M66 (pc_q := 6) rfl rfl rfl ?_
        refine pm_R_get pm_M66 (pc_q := 9) (v := .ref 17) rfl rfl T.e16 (by decide) (T.lt (by decide)) rfl rfl ?_
        refine pm_R_get pm_M66 (pc_q := 12) (v := .ref 23) rfl rfl T.e17 (by decide) (T.lt (by decide)) rfl rfl ?_
        refine pm_R_op pm_M66 (pc_q := 13) (st_q := [.int 1, .ref 23, .int a1]) rfl rfl rfl ?_
        obtain ⟨z100, ez101⟩ : ∃ y, f70 (Int32.toNatClampNeg 1) = y := ⟨_, rfl⟩
        have B102 : sf_B 0 3 z100 := ez101 ▸ (b72 1)
        refine pm_R_iald pm_M66 (pc_q := 14) (v := z100) rfl e71 (T.lt (by decide)) rfl ez101 rfl ?_
        refine pm_R_icmp pm_M66 (t := 21) (pc_q := 17) rfl rfl rfl (fun c103 => ?_) (fun c103 => ?_)
        · have B104 : sf_B 0 2 a1 := sf_ltL c103 B99 B102
          have B105 : sf_B 1 3 z100 := sf_ltR c103 B99 B102
          refine pm_R_lo pm_M66 (pc_q := 22) rfl rfl rfl ?_
          refine pm_R_get pm_M66 (pc_q := 25) (v := .ref 17) rfl rfl T.e16 (by decide) (T.lt (by decide)) rfl rfl ?_
          refine pm_R_get pm_M66 (pc_q := 28) (v := .ref 20) rfl rfl T.e17 (by decide) (T.lt (by decide)) rfl rfl ?_
          refine pm_R_lo pm_M66 (pc_q := 29) rfl rfl rfl ?_
          obtain ⟨f106, e107, b108⟩ := T.C 20 (by decide) (by decide)
          obtain ⟨l109, hx110⟩ := cl_there1 T e71 e107 ez101 c103 B104 (by decide)
          have hk111 := b108 _ _ hx110
          refine pm_R_aald pm_M66 (pc_q := 30) (v := .ref l109) rfl e107 (by decide) (by decide) (by decide) (T.lt (by decide)) (sf_in B104 (by decide) (by decide)) (by rw [hx110]; rfl) rfl ?_
          refine pm_R_ret pm_M66 (r := some (.ref l109)) rfl rfl ?_
          show pm_R _ 111 12 [.ref 16, .int a0, .int a1, .int a2, .ref l79, pm_no, pm_no] [.ref l109] _ _
          refine pm_R_lo pm_M111 (pc_q := 14) (ls_q := [.ref 16, .int a0, .int a1, .int a2, .ref l79, .ref l109, pm_no]) (st_q := []) rfl rfl rfl ?_
          refine pm_R_lo pm_M111 (pc_q := 15) rfl rfl rfl ?_
          refine pm_R_lo pm_M111 (pc_q := 16) rfl rfl rfl ?_
          refine pm_R_cv pm_M111 (pc_q := 19) (a := 16) (ra := [.int a2]) (rest := []) (ls_q := [.ref 16, .int a2]) rfl rfl (Or.inl rfl) pm_M66 T.e16 rfl (by decide) (T.lt (by decide)) rfl rfl (Nat.le_of_ble_eq_true rfl) rfl rfl ?_
          refine pm_R_lo pm_M66 (pc_q := 1) rfl rfl rfl ?_
          refine pm_R_ifc pm_M66 (t := 17) (pc_q := 4) rfl rfl rfl (fun c112 => ?_) (fun c112 => ?_)
          · have B113 : sf_B (-2147483648) (-1) a2 := sf_ltL c112 (sf_any a2) sf_k0
            refine pm_R_op pm_M66 (pc_q := 18) (st_q := [.null]) rfl rfl rfl ?_
            refine pm_R_br pm_M66 (pc_q := 30) rfl rfl ?_
            refine pm_R_ret pm_M66 (r := some (.null)) rfl rfl ?_
            show pm_R _ 111 19 [.ref 16, .int a0, .int a1, .int a2, .ref l79, .ref l109, pm_no] [.null] _ _
            refine pm_R_lo pm_M111 (pc_q := 21) (ls_q := [.ref 16, .int a0, .int a1, .int a2, .ref l79, .ref l109, .null]) (st_q := []) rfl rfl rfl ?_
            refine pm_R_lo pm_M111 (pc_q := 23) rfl rfl rfl ?_
            refine pm_R_br pm_M111 (pc_q := 26) rfl rfl ?_
            refine pm_R_lo pm_M111 (pc_q := 28) rfl rfl rfl ?_
            refine pm_R_br pm_M111 (pc_q := 31) rfl rfl ?_
            refine pm_R_lo pm_M111 (pc_q := 33) rfl rfl rfl ?_
            refine pm_R_br pm_M111 (pc_q := 36) rfl rfl ?_
            refine pm_R_op pm_M111 (pc_q := 37) (st_q := [.int (-1)]) rfl rfl rfl ?_
            exact pm_R_ret pm_M111 (r := some (.int (-1))) rfl rfl (K (-1) m h T (cl_F.refl (ck := ck) (A := [32, 38]) (n := 0) (s := 0) T.1) (rf_W.refl [] m) (sf_weak sf_kn1 (by decide) (by decide)))
          · have B114 : sf_B 0 2147483647 a2 := sf_leR (Int32.not_lt.mp c112) sf_k0 (sf_any a2)
            refine pm_R_lo pm_M66 (pc_q := 5) rfl rfl rfl ?_
            refine pm_R_lo pm_M66 (pc_q := 6) rfl rfl rfl ?_
            refine pm_R_get pm_M66 (pc_q := 9) (v := .ref 17) rfl rfl T.e16 (by decide) (T.lt (by decide)) rfl rfl ?_
            refine pm_R_get pm_M66 (pc_q := 12) (v := .ref 23) rfl rfl T.e17 (by decide) (T.lt (by decide)) rfl rfl ?_
            refine pm_R_op pm_M66 (pc_q := 13) (st_q := [.int 1, .ref 23, .int a2]) rfl rfl rfl ?_
            refine pm_R_iald pm_M66 (pc_q := 14) (v := z100) rfl e71 (T.lt (by decide)) rfl ez101 rfl ?_
            refine pm_R_icmp pm_M66 (t := 21) (pc_q := 17) rfl rfl rfl (fun c118 => ?_) (fun c118 => ?_)
            · have B119 : sf_B 0 2 a2 := sf_ltL c118 B114 B105
              refine pm_R_lo pm_M66 (pc_q := 22) rfl rfl rfl ?_
              refine pm_R_get pm_M66 (pc_q := 25) (v := .ref 17) rfl rfl T.e16 (by decide) (T.lt (by decide)) rfl rfl ?_
              refine pm_R_get pm_M66 (pc_q := 28) (v := .ref 20) rfl rfl T.e17 (by decide) (T.lt (by decide)) rfl rfl ?_
              refine pm_R_lo pm_M66 (pc_q := 29) rfl rfl rfl ?_
              obtain ⟨l120, hx121⟩ := cl_there1 T e71 e107 ez101 c118 B119 (by decide)
              have hk122 := b108 _ _ hx121
              refine pm_R_aald pm_M66 (pc_q := 30) (v := .ref l120) rfl e107 (by decide) (by decide) (by decide) (T.lt (by decide)) (sf_in B119 (by decide) (by decide)) (by rw [hx121]; rfl) rfl ?_
              refine pm_R_ret pm_M66 (r := some (.ref l120)) rfl rfl ?_
              show pm_R _ 111 19 [.ref 16, .int a0, .int a1, .int a2, .ref l79, .ref l109, pm_no] [.ref l120] _ _
              refine pm_R_lo pm_M111 (pc_q := 21) (ls_q := [.ref 16, .int a0, .int a1, .int a2, .ref l79, .ref l109, .ref l120]) (st_q := []) rfl rfl rfl ?_
              refine pm_R_lo pm_M111 (pc_q := 23) rfl rfl rfl ?_
              refine pm_R_br pm_M111 (pc_q := 26) rfl rfl ?_
              refine pm_R_lo pm_M111 (pc_q := 28) rfl rfl rfl ?_
              refine pm_R_br pm_M111 (pc_q := 31) rfl rfl ?_
              refine pm_R_lo pm_M111 (pc_q := 33) rfl rfl rfl ?_
              refine pm_R_br pm_M111 (pc_q := 38) rfl rfl ?_
              refine pm_R_lo pm_M111 (pc_q := 39) rfl rfl rfl ?_
              refine pm_R_lo pm_M111 (pc_q := 41) rfl rfl rfl ?_
              refine pm_R_lo pm_M111 (pc_q := 43) rfl rfl rfl ?_
              refine pm_R_op pm_M111 (pc_q := 44) (st_q := [.int 0, .ref l109, .ref l79, .ref 16]) rfl rfl rfl ?_
              refine pm_R_cv pm_M111 (pc_q := 47) (a := 16) (ra := [.int 0, .ref l109, .ref l79]) (rest := []) (ls_q := [.ref 16, .ref l79, .ref l109, .int 0]) rfl rfl (Or.inl rfl) pm_M98 T.e16 rfl (by decide) (T.lt (by decide)) rfl rfl (Nat.le_of_ble_eq_true rfl) rfl rfl ?_
              refine cl_c98 (d := d + 0) G T hk81 hk111 (sf_weak sf_k0 (by decide) (by decide)) (fun r123 m125 h126 T127 F128 W129 => ?_)
              have F130 := (cl_F.refl (ck := ck) (A := [32, 38]) (n := 0) (s := 0) T.1).trans (N := 0) (S := 0) F128 (by decide) (by decide) (by decide)
              have W131 : rf_W [] m m125 := (rf_W.refl [] m).trans W129 (by decide)
              show pm_R _ 111 47 [.ref 16, .int a0, .int a1, .int a2, .ref l79, .ref l109, .ref l120] [.long r123] _ _
              refine pm_R_lo pm_M111 (pc_q := 48) rfl rfl rfl ?_
              refine pm_R_lo pm_M111 (pc_q := 50) rfl rfl rfl ?_
              refine pm_R_lo pm_M111 (pc_q := 52) rfl rfl rfl ?_
              refine pm_R_op pm_M111 (pc_q := 53) (st_q := [.int 0, .ref l120, .ref l79, .ref 16, .long r123]) rfl rfl rfl ?_
              refine pm_R_cv pm_M111 (pc_q := 56) (a := 16) (ra := [.int 0, .ref l120, .ref l79]) (rest := [.long r123]) (ls_q := [.ref 16, .ref l79, .ref l120, .int 0]) rfl rfl (Or.inl rfl) pm_M98 T127.e16 rfl (by decide) (T127.lt (by decide)) rfl rfl (Nat.le_of_ble_eq_true rfl) rfl rfl ?_
              refine cl_c98 (d := d + 0) G T127 hk81 hk122 (sf_weak sf_k0 (by decide) (by decide)) (fun r132 m134 h135 T136 F137 W138 => ?_)
              have F139 := F130.trans (N := 0) (S := 0) F137 (by decide) (by decide) (by decide)
              have W140 : rf_W [] m m134 := W131.trans W138 (by decide)
              show pm_R _ 111 56 [.ref 16, .int a0, .int a1, .int a2, .ref l79, .ref l109, .ref l120] [.long r132, .long r123] _ _
              refine sf_R_lany pm_M111 (pc_q := 57) (st := []) rfl rfl rfl (fun z141 => ?_)
              refine pm_R_cs pm_M111 (pc_q := 60) (ra := [.long z141]) (rest := []) (ls_q := [.long z141, pm_no]) rfl rfl (Or.inl rfl) pm_M108 rfl rfl (Nat.le_of_ble_eq_true rfl) rfl rfl ?_
              refine pm_R_lo pm_M108 (pc_q := 1) rfl rfl rfl ?_
              refine pm_R_lo pm_M108 (pc_q := 2) rfl rfl rfl ?_
              refine pm_R_op pm_M108 (pc_q := 3) (st_q := [.int 1, .long z141, .long z141]) rfl rfl rfl ?_
              refine sf_R_lany pm_M108 (pc_q := 4) (st := [.long z141]) rfl rfl rfl (fun z142 => ?_)
              refine pm_R_ldc2 pm_M108 (pc_q := 7) rfl rfl rfl ?_
              refine sf_R_lany pm_M108 (pc_q := 8) (st := [.long z141]) rfl rfl rfl (fun z143 => ?_)
              refine sf_R_lany pm_M108 (pc_q := 9) (st := []) rfl rfl rfl (fun z144 => ?_)
              refine pm_R_lo pm_M108 (pc_q := 10) (ls_q := [.long z144, pm_no]) (st_q := []) rfl rfl rfl ?_
              refine pm_R_lo pm_M108 (pc_q := 11) rfl rfl rfl ?_
              refine pm_R_ldc2 pm_M108 (pc_q := 14) rfl rfl rfl ?_
              refine sf_R_lany pm_M108 (pc_q := 15) (st := []) rfl rfl rfl (fun z145 => ?_)
              refine pm_R_lo pm_M108 (pc_q := 16) rfl rfl rfl ?_
              refine pm_R_op pm_M108 (pc_q := 17) (st_q := [.int 2, .long z144, .long z145]) rfl rfl rfl ?_
              refine sf_R_lany pm_M108 (pc_q := 18) (st := [.long z145]) rfl rfl rfl (fun z146 => ?_)
              refine pm_R_ldc2 pm_M108 (pc_q := 21) rfl rfl rfl ?_
              refine sf_R_lany pm_M108 (pc_q := 22) (st := [.long z145]) rfl rfl rfl (fun z147 => ?_)
              refine sf_R_lany pm_M108 (pc_q := 23) (st := []) rfl rfl rfl (fun z148 => ?_)
              refine pm_R_lo pm_M108 (pc_q := 24) (ls_q := [.long z148, pm_no]) (st_q := []) rfl rfl rfl ?_
              refine pm_R_lo pm_M108 (pc_q := 25) rfl rfl rfl ?_
              refine pm_R_lo pm_M108 (pc_q := 26) rfl rfl rfl ?_
              refine pm_R_op pm_M108 (pc_q := 27) (st_q := [.int 4, .long z148, .long z148]) rfl rfl rfl ?_
              refine sf_R_lany pm_M108 (pc_q := 28) (st := [.long z148]) rfl rfl rfl (fun z149 => ?_)
              refine sf_R_lany pm_M108 (pc_q := 29) (st := []) rfl rfl rfl (fun z150 => ?_)
              refine pm_R_ldc2 pm_M108 (pc_q := 32) rfl rfl rfl ?_
              refine sf_R_lany pm_M108 (pc_q := 33) (st := []) rfl rfl rfl (fun z151 => ?_)
              refine pm_R_lo pm_M108 (pc_q := 34) (ls_q := [.long z151, pm_no]) (st_q := []) rfl rfl rfl ?_
              refine pm_R_lo pm_M108 (pc_q := 35) rfl rfl rfl ?_
              refine pm_R_lo pm_M108 (pc_q := 36) rfl rfl rfl ?_
              refine pm_R_op pm_M108 (pc_q := 38) (st_q := [.int 8, .long z151, .long z151]) rfl rfl rfl ?_
              refine sf_R_lany pm_M108 (pc_q := 39) (st := [.long z151]) rfl rfl rfl (fun z152 => ?_)
              refine sf_R_lany pm_M108 (pc_q := 40) (st := []) rfl rfl rfl (fun z153 => ?_)
              refine pm_R_lo pm_M108 (pc_q := 41) (ls_q := [.long z153, pm_no]) (st_q := []) rfl rfl rfl ?_
              refine pm_R_lo pm_M108 (pc_q := 42) rfl rfl rfl ?_
              refine pm_R_lo pm_M108 (pc_q := 43) rfl rfl rfl ?_
              refine pm_R_op pm_M108 (pc_q := 45) (st_q := [.int 16, .long z153, .long z153]) rfl rfl rfl ?_
              refine sf_R_lany pm_M108 (pc_q := 46) (st := [.long z153]) rfl rfl rfl (fun z154 => ?_)
              refine sf_R_lany pm_M108 (pc_q := 47) (st := []) rfl rfl rfl (fun z155 => ?_)
              refine pm_R_lo pm_M108 (pc_q := 48) (ls_q := [.long z155, pm_no]) (st_q := []) rfl rfl rfl ?_
              refine pm_R_lo pm_M108 (pc_q := 49) rfl rfl rfl ?_
              refine pm_R_lo pm_M108 (pc_q := 50) rfl rfl rfl ?_
              refine pm_R_op pm_M108 (pc_q := 52) (st_q := [.int 32, .long z155, .long z155]) rfl rfl rfl ?_
              refine sf_R_lany pm_M108 (pc_q := 53) (st := [.long z155]) rfl rfl rfl (fun z156 => ?_)
              refine sf_R_lany pm_M108 (pc_q := 54) (st := []) rfl rfl rfl (fun z157 => ?_)
              refine pm_R_lo pm_M108 (pc_q := 55) (ls_q := [.long z157, pm_no]) (st_q := []) rfl rfl rfl ?_
              refine pm_R_lo pm_M108 (pc_q := 56) rfl rfl rfl ?_
              refine sf_R_iany pm_M108 (pc_q := 57) (st := []) rfl rfl rfl (fun z158 => ?_)
              refine pm_R_op pm_M108 (pc_q := 59) (st_q := [.int 127, .int z158]) rfl rfl rfl ?_
              refine sf_R_iandE pm_M108 (pc_q := 60) rfl rfl sf_k127 (by decide) (fun z159 e160 B161 => ?_)
              refine pm_R_ret pm_M108 (r := some (.int z159)) rfl (pm_ret_i _) ?_
              show pm_R _ 111 60 [.ref 16, .int a0, .int a1, .int a2, .ref l79, .ref l109, .ref l120] [.int z159] _ _
              exact pm_R_ret pm_M111 (r := some (.int z159)) rfl (pm_ret_i _) (K z159 m134 h135 T136 F139 W140 (sf_weak B161 (by decide) (by decide)))
            · have B162 : sf_B 1 2147483647 a2 := sf_leR (Int32.not_lt.mp c118) B105 B114
              refine pm_R_op pm_M66 (pc_q := 18) (st_q := [.null]) rfl rfl rfl ?_
              refine pm_R_br pm_M66 (pc_q := 30) rfl rfl ?_
              refine pm_R_ret pm_M66 (r := some (.null)) rfl rfl ?_
              show pm_R _ 111 19 [.ref 16, .int a0, .int a1, .int a2, .ref l79, .ref l109, pm_no] [.null] _ _
              refine pm_R_lo pm_M111 (pc_q := 21) (ls_q := [.ref 16, .int a0, .int a1, .int a2, .ref l79, .ref l109, .null]) (st_q := []) rfl rfl rfl ?_
              refine pm_R_lo pm_M111 (pc_q := 23) rfl rfl rfl ?_
              refine pm_R_br pm_M111 (pc_q := 26) rfl rfl ?_
              refine pm_R_lo pm_M111 (pc_q := 28) rfl rfl rfl ?_
              refine pm_R_br pm_M111 (pc_q := 31) rfl rfl ?_
              refine pm_R_lo pm_M111 (pc_q := 33) rfl rfl rfl ?_
              refine pm_R_br pm_M111 (pc_q := 36) rfl rfl ?_
              refine pm_R_op pm_M111 (pc_q := 37) (st_q := [.int (-1)]) rfl rfl rfl ?_
              exact pm_R_ret pm_M111 (r := some (.int (-1))) rfl rfl (K (-1) m h T (cl_F.refl (ck := ck) (A := [32, 38]) (n := 0) (s := 0) T.1) (rf_W.refl [] m) (sf_weak sf_kn1 (by decide) (by decide)))
        · skip
          refine pm_R_op pm_M66 (pc_q := 18) (st_q := [.null]) rfl rfl rfl ?_
          refine pm_R_br pm_M66 (pc_q := 30) rfl rfl ?_
          refine pm_R_ret pm_M66 (r := some (.null)) rfl rfl ?_
          show pm_R _ 111 12 [.ref 16, .int a0, .int a1, .int a2, .ref l79, pm_no, pm_no] [.null] _ _
          refine pm_R_lo pm_M111 (pc_q := 14) (ls_q := [.ref 16, .int a0, .int a1, .int a2, .ref l79, .null, pm_no]) (st_q := []) rfl rfl rfl ?_
          refine pm_R_lo pm_M111 (pc_q := 15) rfl rfl rfl ?_
          refine pm_R_lo pm_M111 (pc_q := 16) rfl rfl rfl ?_
          refine pm_R_cv pm_M111 (pc_q := 19) (a := 16) (ra := [.int a2]) (rest := []) (ls_q := [.ref 16, .int a2]) rfl rfl (Or.inl rfl) pm_M66 T.e16 rfl (by decide) (T.lt (by decide)) rfl rfl (Nat.le_of_ble_eq_true rfl) rfl rfl ?_
          refine pm_R_lo pm_M66 (pc_q := 1) rfl rfl rfl ?_
          refine pm_R_ifc pm_M66 (t := 17) (pc_q := 4) rfl rfl rfl (fun c163 => ?_) (fun c163 => ?_)
          · have B164 : sf_B (-2147483648) (-1) a2 := sf_ltL c163 (sf_any a2) sf_k0
            refine pm_R_op pm_M66 (pc_q := 18) (st_q := [.null]) rfl rfl rfl ?_
            refine pm_R_br pm_M66 (pc_q := 30) rfl rfl ?_
            refine pm_R_ret pm_M66 (r := some (.null)) rfl rfl ?_
            show pm_R _ 111 19 [.ref 16, .int a0, .int a1, .int a2, .ref l79, .null, pm_no] [.null] _ _
            refine pm_R_lo pm_M111 (pc_q := 21) (ls_q := [.ref 16, .int a0, .int a1, .int a2, .ref l79, .null, .null]) (st_q := []) rfl rfl rfl ?_
            refine pm_R_lo pm_M111 (pc_q := 23) rfl rfl rfl ?_
            refine pm_R_br pm_M111 (pc_q := 26) rfl rfl ?_
            refine pm_R_lo pm_M111 (pc_q := 28) rfl rfl rfl ?_
            refine pm_R_br pm_M111 (pc_q := 36) rfl rfl ?_
            refine pm_R_op pm_M111 (pc_q := 37) (st_q := [.int (-1)]) rfl rfl rfl ?_
            exact pm_R_ret pm_M111 (r := some (.int (-1))) rfl rfl (K (-1) m h T (cl_F.refl (ck := ck) (A := [32, 38]) (n := 0) (s := 0) T.1) (rf_W.refl [] m) (sf_weak sf_kn1 (by decide) (by decide)))
          · have B165 : sf_B 0 2147483647 a2 := sf_leR (Int32.not_lt.mp c163) sf_k0 (sf_any a2)
            refine pm_R_lo pm_M66 (pc_q := 5) rfl rfl rfl ?_
            refine pm_R_lo pm_M66 (pc_q := 6) rfl rfl rfl ?_
            refine pm_R_get pm_M66 (pc_q := 9) (v := .ref 17) rfl rfl T.e16 (by decide) (T.lt (by decide)) rfl rfl ?_
            refine pm_R_get pm_M66 (pc_q := 12) (v := .ref 23) rfl rfl T.e17 (by decide) (T.lt (by decide)) rfl rfl ?_
            refine pm_R_op pm_M66 (pc_q := 13) (st_q := [.int 1, .ref 23, .int a2]) rfl rfl rfl ?_
            refine pm_R_iald pm_M66 (pc_q := 14) (v := z100) rfl e71 (T.lt (by decide)) rfl ez101 rfl ?_
            refine pm_R_icmp pm_M66 (t := 21) (pc_q := 17) rfl rfl rfl (fun c169 => ?_) (fun c169 => ?_)
            · have B170 : sf_B 0 2 a2 := sf_ltL c169 B165 B102
              have B171 : sf_B 1 3 z100 := sf_ltR c169 B165 B102
              refine pm_R_lo pm_M66 (pc_q := 22) rfl rfl rfl ?_
              refine pm_R_get pm_M66 (pc_q := 25) (v := .ref 17) rfl rfl T.e16 (by decide) (T.lt (by decide)) rfl rfl ?_
              refine pm_R_get pm_M66 (pc_q := 28) (v := .ref 20) rfl rfl T.e17 (by decide) (T.lt (by decide)) rfl rfl ?_
              refine pm_R_lo pm_M66 (pc_q := 29) rfl rfl rfl ?_
              obtain ⟨f172, e173, b174⟩ := T.C 20 (by decide) (by decide)
              obtain ⟨l175, hx176⟩ := cl_there1 T e71 e173 ez101 c169 B170 (by decide)
              have hk177 := b174 _ _ hx176
              refine pm_R_aald pm_M66 (pc_q := 30) (v := .ref l175) rfl e173 (by decide) (by decide) (by decide) (T.lt (by decide)) (sf_in B170 (by decide) (by decide)) (by rw [hx176]; rfl) rfl ?_
              refine pm_R_ret pm_M66 (r := some (.ref l175)) rfl rfl ?_
              show pm_R _ 111 19 [.ref 16, .int a0, .int a1, .int a2, .ref l79, .null, pm_no] [.ref l175] _ _
              refine pm_R_lo pm_M111 (pc_q := 21) (ls_q := [.ref 16, .int a0, .int a1, .int a2, .ref l79, .null, .ref l175]) (st_q := []) rfl rfl rfl ?_
              refine pm_R_lo pm_M111 (pc_q := 23) rfl rfl rfl ?_
              refine pm_R_br pm_M111 (pc_q := 26) rfl rfl ?_
              refine pm_R_lo pm_M111 (pc_q := 28) rfl rfl rfl ?_
              refine pm_R_br pm_M111 (pc_q := 36) rfl rfl ?_
              refine pm_R_op pm_M111 (pc_q := 37) (st_q := [.int (-1)]) rfl rfl rfl ?_
              exact pm_R_ret pm_M111 (r := some (.int (-1))) rfl rfl (K (-1) m h T (cl_F.refl (ck := ck) (A := [32, 38]) (n := 0) (s := 0) T.1) (rf_W.refl [] m) (sf_weak sf_kn1 (by decide) (by decide)))
            · skip
              refine pm_R_op pm_M66 (pc_q := 18) (st_q := [.null]) rfl rfl rfl ?_
              refine pm_R_br pm_M66 (pc_q := 30) rfl rfl ?_
              refine pm_R_ret pm_M66 (r := some (.null)) rfl rfl ?_
              show pm_R _ 111 19 [.ref 16, .int a0, .int a1, .int a2, .ref l79, .null, pm_no] [.null] _ _
              refine pm_R_lo pm_M111 (pc_q := 21) (ls_q := [.ref 16, .int a0, .int a1, .int a2, .ref l79, .null, .null]) (st_q := []) rfl rfl rfl ?_
              refine pm_R_lo pm_M111 (pc_q := 23) rfl rfl rfl ?_
              refine pm_R_br pm_M111 (pc_q := 26) rfl rfl ?_
              refine pm_R_lo pm_M111 (pc_q := 28) rfl rfl rfl ?_
              refine pm_R_br pm_M111 (pc_q := 36) rfl rfl ?_
              refine pm_R_op pm_M111 (pc_q := 37) (st_q := [.int (-1)]) rfl rfl rfl ?_
              exact pm_R_ret pm_M111 (r := some (.int (-1))) rfl rfl (K (-1) m h T (cl_F.refl (ck := ck) (A := [32, 38]) (n := 0) (s := 0) T.1) (rf_W.refl [] m) (sf_weak sf_kn1 (by decide) (by decide)))
    · skip
      refine pm_R_op pm_M62 (pc_q := 18) (st_q := [.null]) rfl rfl rfl ?_
      refine pm_R_br pm_M62 (pc_q := 30) rfl rfl ?_
      refine pm_R_ret pm_M62 (r := some (.null)) rfl rfl ?_
      show pm_R _ 111 5 [.ref 16, .int a0, .int a1, .int a2, pm_no, pm_no, pm_no] [.null] _ _
      refine pm_R_lo pm_M111 (pc_q := 7) (ls_q := [.ref 16, .int a0, .int a1, .int a2, .null, pm_no, pm_no]) (st_q := []) rfl rfl rfl ?_
      refine pm_R_lo pm_M111 (pc_q := 8) rfl rfl rfl ?_
      refine pm_R_lo pm_M111 (pc_q := 9) rfl rfl rfl ?_
      refine pm_R_cv pm_M111 (pc_q := 12) (a := 16) (ra := [.int a1]) (rest := []) (ls_q := [.ref 16, .int a1]) rfl rfl (Or.inl rfl) pm_M66 T.e16 rfl (by decide) (T.lt (by decide)) rfl rfl (Nat.le_of_ble_eq_true rfl) rfl rfl ?_
      refine pm_R_lo pm_M66 (pc_q := 1) rfl rfl rfl ?_
      refine pm_R_ifc pm_M66 (t := 17) (pc_q := 4) rfl rfl rfl (fun c178 => ?_) (fun c178 => ?_)
      · have B179 : sf_B (-2147483648) (-1) a1 := sf_ltL c178 (sf_any a1) sf_k0
        refine pm_R_op pm_M66 (pc_q := 18) (st_q := [.null]) rfl rfl rfl ?_
        refine pm_R_br pm_M66 (pc_q := 30) rfl rfl ?_
        refine pm_R_ret pm_M66 (r := some (.null)) rfl rfl ?_
        show pm_R _ 111 12 [.ref 16, .int a0, .int a1, .int a2, .null, pm_no, pm_no] [.null] _ _
        refine pm_R_lo pm_M111 (pc_q := 14) (ls_q := [.ref 16, .int a0, .int a1, .int a2, .null, .null, pm_no]) (st_q := []) rfl rfl rfl ?_
        refine pm_R_lo pm_M111 (pc_q := 15) rfl rfl rfl ?_
        refine pm_R_lo pm_M111 (pc_q := 16) rfl rfl rfl ?_
        refine pm_R_cv pm_M111 (pc_q := 19) (a := 16) (ra := [.int a2]) (rest := []) (ls_q := [.ref 16, .int a2]) rfl rfl (Or.inl rfl) pm_M66 T.e16 rfl (by decide) (T.lt (by decide)) rfl rfl (Nat.le_of_ble_eq_true rfl) rfl rfl ?_
        refine pm_R_lo pm_M66 (pc_q := 1) rfl rfl rfl ?_
        refine pm_R_ifc pm_M66 (t := 17) (pc_q := 4) rfl rfl rfl (fun c180 => ?_) (fun c180 => ?_)
        · have B181 : sf_B (-2147483648) (-1) a2 := sf_ltL c180 (sf_any a2) sf_k0
          refine pm_R_op pm_M66 (pc_q := 18) (st_q := [.null]) rfl rfl rfl ?_
          refine pm_R_br pm_M66 (pc_q := 30) rfl rfl ?_
          refine pm_R_ret pm_M66 (r := some (.null)) rfl rfl ?_
          show pm_R _ 111 19 [.ref 16, .int a0, .int a1, .int a2, .null, .null, pm_no] [.null] _ _
          refine pm_R_lo pm_M111 (pc_q := 21) (ls_q := [.ref 16, .int a0, .int a1, .int a2, .null, .null, .null]) (st_q := []) rfl rfl rfl ?_
          refine pm_R_lo pm_M111 (pc_q := 23) rfl rfl rfl ?_
          refine pm_R_br pm_M111 (pc_q := 36) rfl rfl ?_
          refine pm_R_op pm_M111 (pc_q := 37) (st_q := [.int (-1)]) rfl rfl rfl ?_
          exact pm_R_ret pm_M111 (r := some (.int (-1))) rfl rfl (K (-1) m h T (cl_F.refl (ck := ck) (A := [32, 38]) (n := 0) (s := 0) T.1) (rf_W.refl [] m) (sf_weak sf_kn1 (by decide) (by decide)))
        · have B182 : sf_B 0 2147483647 a2 := sf_leR (Int32.not_lt.mp c180) sf_k0 (sf_any a2)
          refine pm_R_lo pm_M66 (pc_q := 5) rfl rfl rfl ?_
          refine pm_R_lo pm_M66 (pc_q := 6) rfl rfl rfl ?_
          refine pm_R_get pm_M66 (pc_q := 9) (v := .ref 17) rfl rfl T.e16 (by decide) (T.lt (by decide)) rfl rfl ?_
          refine pm_R_get pm_M66 (pc_q := 12) (v := .ref 23) rfl rfl T.e17 (by decide) (T.lt (by decide)) rfl rfl ?_
          refine pm_R_op pm_M66 (pc_q := 13) (st_q := [.int 1, .ref 23, .int a2]) rfl rfl rfl ?_
          obtain ⟨z183, ez184⟩ : ∃ y, f70 (Int32.toNatClampNeg 1) = y := ⟨_, rfl⟩
          have B185 : sf_B 0 3 z183 := ez184 ▸ (b72 1)
          refine pm_R_iald pm_M66 (pc_q := 14) (v := z183) rfl e71 (T.lt (by decide)) rfl ez184 rfl ?_
          refine pm_R_icmp pm_M66 (t := 21) (pc_q := 17) rfl rfl rfl (fun c186 => ?_) (fun c186 => ?_)
          · have B187 : sf_B 0 2 a2 := sf_ltL c186 B182 B185
            have B188 : sf_B 1 3 z183 := sf_ltR c186 B182 B185
            refine pm_R_lo pm_M66 (pc_q := 22) rfl rfl rfl ?_
            refine pm_R_get pm_M66 (pc_q := 25) (v := .ref 17) rfl rfl T.e16 (by decide) (T.lt (by decide)) rfl rfl ?_
            refine pm_R_get pm_M66 (pc_q := 28) (v := .ref 20) rfl rfl T.e17 (by decide) (T.lt (by decide)) rfl rfl ?_
            refine pm_R_lo pm_M66 (pc_q := 29) rfl rfl rfl ?_
            obtain ⟨f189, e190, b191⟩ := T.C 20 (by decide) (by decide)
            obtain ⟨l192, hx193⟩ := cl_there1 T e71 e190 ez184 c186 B187 (by decide)
            have hk194 := b191 _ _ hx193
            refine pm_R_aald pm_M66 (pc_q := 30) (v := .ref l192) rfl e190 (by decide) (by decide) (by decide) (T.lt (by decide)) (sf_in B187 (by decide) (by decide)) (by rw [hx193]; rfl) rfl ?_
            refine pm_R_ret pm_M66 (r := some (.ref l192)) rfl rfl ?_
            show pm_R _ 111 19 [.ref 16, .int a0, .int a1, .int a2, .null, .null, pm_no] [.ref l192] _ _
            refine pm_R_lo pm_M111 (pc_q := 21) (ls_q := [.ref 16, .int a0, .int a1, .int a2, .null, .null, .ref l192]) (st_q := []) rfl rfl rfl ?_
            refine pm_R_lo pm_M111 (pc_q := 23) rfl rfl rfl ?_
            refine pm_R_br pm_M111 (pc_q := 36) rfl rfl ?_
            refine pm_R_op pm_M111 (pc_q := 37) (st_q := [.int (-1)]) rfl rfl rfl ?_
            exact pm_R_ret pm_M111 (r := some (.int (-1))) rfl rfl (K (-1) m h T (cl_F.refl (ck := ck) (A := [32, 38]) (n := 0) (s := 0) T.1) (rf_W.refl [] m) (sf_weak sf_kn1 (by decide) (by decide)))
          · skip
            refine pm_R_op pm_M66 (pc_q := 18) (st_q := [.null]) rfl rfl rfl ?_
            refine pm_R_br pm_M66 (pc_q := 30) rfl rfl ?_
            refine pm_R_ret pm_M66 (r := some (.null)) rfl rfl ?_
            show pm_R _ 111 19 [.ref 16, .int a0, .int a1, .int a2, .null, .null, pm_no] [.null] _ _
            refine pm_R_lo pm_M111 (pc_q := 21) (ls_q := [.ref 16, .int a0, .int a1, .int a2, .null, .null, .null]) (st_q := []) rfl rfl rfl ?_
            refine pm_R_lo pm_M111 (pc_q := 23) rfl rfl rfl ?_
            refine pm_R_br pm_M111 (pc_q := 36) rfl rfl ?_
            refine pm_R_op pm_M111 (pc_q := 37) (st_q := [.int (-1)]) rfl rfl rfl ?_
            exact pm_R_ret pm_M111 (r := some (.int (-1))) rfl rfl (K (-1) m h T (cl_F.refl (ck := ck) (A := [32, 38]) (n := 0) (s := 0) T.1) (rf_W.refl [] m) (sf_weak sf_kn1 (by decide) (by decide)))
      · have B195 : sf_B 0 2147483647 a1 := sf_leR (Int32.not_lt.mp c178) sf_k0 (sf_any a1)
        refine pm_R_lo pm_M66 (pc_q := 5) rfl rfl rfl ?_
        refine pm_R_lo pm_M66 (pc_q := 6) rfl rfl rfl ?_
        refine pm_R_get pm_M66 (pc_q := 9) (v := .ref 17) rfl rfl T.e16 (by decide) (T.lt (by decide)) rfl rfl ?_
        refine pm_R_get pm_M66 (pc_q := 12) (v := .ref 23) rfl rfl T.e17 (by decide) (T.lt (by decide)) rfl rfl ?_
        refine pm_R_op pm_M66 (pc_q := 13) (st_q := [.int 1, .ref 23, .int a1]) rfl rfl rfl ?_
        obtain ⟨z196, ez197⟩ : ∃ y, f70 (Int32.toNatClampNeg 1) = y := ⟨_, rfl⟩
        have B198 : sf_B 0 3 z196 := ez197 ▸ (b72 1)
        refine pm_R_iald pm_M66 (pc_q := 14) (v := z196) rfl e71 (T.lt (by decide)) rfl ez197 rfl ?_
        refine pm_R_icmp pm_M66 (t := 21) (pc_q := 17) rfl rfl rfl (fun c199 => ?_) (fun c199 => ?_)
        · have B200 : sf_B 0 2 a1 := sf_ltL c199 B195 B198
          have B201 : sf_B 1 3 z196 := sf_ltR c199 B195 B198
          refine pm_R_lo pm_M66 (pc_q := 22) rfl rfl rfl ?_
          refine pm_R_get pm_M66 (pc_q := 25) (v := .ref 17) rfl rfl T.e16 (by decide) (T.lt (by decide)) rfl rfl ?_
          refine pm_R_get pm_M66 (pc_q := 28) (v := .ref 20) rfl rfl T.e17 (by decide) (T.lt (by decide)) rfl rfl ?_
          refine pm_R_lo pm_M66 (pc_q := 29) rfl rfl rfl ?_
          obtain ⟨f202, e203, b204⟩ := T.C 20 (by decide) (by decide)
          obtain ⟨l205, hx206⟩ := cl_there1 T e71 e203 ez197 c199 B200 (by decide)
          have hk207 := b204 _ _ hx206
          refine pm_R_aald pm_M66 (pc_q := 30) (v := .ref l205) rfl e203 (by decide) (by decide) (by decide) (T.lt (by decide)) (sf_in B200 (by decide) (by decide)) (by rw [hx206]; rfl) rfl ?_
          refine pm_R_ret pm_M66 (r := some (.ref l205)) rfl rfl ?_
          show pm_R _ 111 12 [.ref 16, .int a0, .int a1, .int a2, .null, pm_no, pm_no] [.ref l205] _ _
          refine pm_R_lo pm_M111 (pc_q := 14) (ls_q := [.ref 16, .int a0, .int a1, .int a2, .null, .ref l205, pm_no]) (st_q := []) rfl rfl rfl ?_
          refine pm_R_lo pm_M111 (pc_q := 15) rfl rfl rfl ?_
          refine pm_R_lo pm_M111 (pc_q := 16) rfl rfl rfl ?_
          refine pm_R_cv pm_M111 (pc_q := 19) (a := 16) (ra := [.int a2]) (rest := []) (ls_q := [.ref 16, .int a2]) rfl rfl (Or.inl rfl) pm_M66 T.e16 rfl (by decide) (T.lt (by decide)) rfl rfl (Nat.le_of_ble_eq_true rfl) rfl rfl ?_
          refine pm_R_lo pm_M66 (pc_q := 1) rfl rfl rfl ?_
          refine pm_R_ifc pm_M66 (t := 17) (pc_q := 4) rfl rfl rfl (fun c208 => ?_) (fun c208 => ?_)
          · have B209 : sf_B (-2147483648) (-1) a2 := sf_ltL c208 (sf_any a2) sf_k0
            refine pm_R_op pm_M66 (pc_q := 18) (st_q := [.null]) rfl rfl rfl ?_
            refine pm_R_br pm_M66 (pc_q := 30) rfl rfl ?_
            refine pm_R_ret pm_M66 (r := some (.null)) rfl rfl ?_
            show pm_R _ 111 19 [.ref 16, .int a0, .int a1, .int a2, .null, .ref l205, pm_no] [.null] _ _
            refine pm_R_lo pm_M111 (pc_q := 21) (ls_q := [.ref 16, .int a0, .int a1, .int a2, .null, .ref l205, .null]) (st_q := []) rfl rfl rfl ?_
            refine pm_R_lo pm_M111 (pc_q := 23) rfl rfl rfl ?_
            refine pm_R_br pm_M111 (pc_q := 36) rfl rfl ?_
            refine pm_R_op pm_M111 (pc_q := 37) (st_q := [.int (-1)]) rfl rfl rfl ?_
            exact pm_R_ret pm_M111 (r := some (.int (-1))) rfl rfl (K (-1) m h T (cl_F.refl (ck := ck) (A := [32, 38]) (n := 0) (s := 0) T.1) (rf_W.refl [] m) (sf_weak sf_kn1 (by decide) (by decide)))
          · have B210 : sf_B 0 2147483647 a2 := sf_leR (Int32.not_lt.mp c208) sf_k0 (sf_any a2)
            refine pm_R_lo pm_M66 (pc_q := 5) rfl rfl rfl ?_
            refine pm_R_lo pm_M66 (pc_q := 6) rfl rfl rfl ?_
            refine pm_R_get pm_M66 (pc_q := 9) (v := .ref 17) rfl rfl T.e16 (by decide) (T.lt (by decide)) rfl rfl ?_
            refine pm_R_get pm_M66 (pc_q := 12) (v := .ref 23) rfl rfl T.e17 (by decide) (T.lt (by decide)) rfl rfl ?_
            refine pm_R_op pm_M66 (pc_q := 13) (st_q := [.int 1, .ref 23, .int a2]) rfl rfl rfl ?_
            refine pm_R_iald pm_M66 (pc_q := 14) (v := z196) rfl e71 (T.lt (by decide)) rfl ez197 rfl ?_
            refine pm_R_icmp pm_M66 (t := 21) (pc_q := 17) rfl rfl rfl (fun c214 => ?_) (fun c214 => ?_)
            · have B215 : sf_B 0 2 a2 := sf_ltL c214 B210 B201
              refine pm_R_lo pm_M66 (pc_q := 22) rfl rfl rfl ?_
              refine pm_R_get pm_M66 (pc_q := 25) (v := .ref 17) rfl rfl T.e16 (by decide) (T.lt (by decide)) rfl rfl ?_
              refine pm_R_get pm_M66 (pc_q := 28) (v := .ref 20) rfl rfl T.e17 (by decide) (T.lt (by decide)) rfl rfl ?_
              refine pm_R_lo pm_M66 (pc_q := 29) rfl rfl rfl ?_
              obtain ⟨l216, hx217⟩ := cl_there1 T e71 e203 ez197 c214 B215 (by decide)
              have hk218 := b204 _ _ hx217
              refine pm_R_aald pm_M66 (pc_q := 30) (v := .ref l216) rfl e203 (by decide) (by decide) (by decide) (T.lt (by decide)) (sf_in B215 (by decide) (by decide)) (by rw [hx217]; rfl) rfl ?_
              refine pm_R_ret pm_M66 (r := some (.ref l216)) rfl rfl ?_
              show pm_R _ 111 19 [.ref 16, .int a0, .int a1, .int a2, .null, .ref l205, pm_no] [.ref l216] _ _
              refine pm_R_lo pm_M111 (pc_q := 21) (ls_q := [.ref 16, .int a0, .int a1, .int a2, .null, .ref l205, .ref l216]) (st_q := []) rfl rfl rfl ?_
              refine pm_R_lo pm_M111 (pc_q := 23) rfl rfl rfl ?_
              refine pm_R_br pm_M111 (pc_q := 36) rfl rfl ?_
              refine pm_R_op pm_M111 (pc_q := 37) (st_q := [.int (-1)]) rfl rfl rfl ?_
              exact pm_R_ret pm_M111 (r := some (.int (-1))) rfl rfl (K (-1) m h T (cl_F.refl (ck := ck) (A := [32, 38]) (n := 0) (s := 0) T.1) (rf_W.refl [] m) (sf_weak sf_kn1 (by decide) (by decide)))
            · have B219 : sf_B 1 2147483647 a2 := sf_leR (Int32.not_lt.mp c214) B201 B210
              refine pm_R_op pm_M66 (pc_q := 18) (st_q := [.null]) rfl rfl rfl ?_
              refine pm_R_br pm_M66 (pc_q := 30) rfl rfl ?_
              refine pm_R_ret pm_M66 (r := some (.null)) rfl rfl ?_
              show pm_R _ 111 19 [.ref 16, .int a0, .int a1, .int a2, .null, .ref l205, pm_no] [.null] _ _
              refine pm_R_lo pm_M111 (pc_q := 21) (ls_q := [.ref 16, .int a0, .int a1, .int a2, .null, .ref l205, .null]) (st_q := []) rfl rfl rfl ?_
              refine pm_R_lo pm_M111 (pc_q := 23) rfl rfl rfl ?_
              refine pm_R_br pm_M111 (pc_q := 36) rfl rfl ?_
              refine pm_R_op pm_M111 (pc_q := 37) (st_q := [.int (-1)]) rfl rfl rfl ?_
              exact pm_R_ret pm_M111 (r := some (.int (-1))) rfl rfl (K (-1) m h T (cl_F.refl (ck := ck) (A := [32, 38]) (n := 0) (s := 0) T.1) (rf_W.refl [] m) (sf_weak sf_kn1 (by decide) (by decide)))
        · skip
          refine pm_R_op pm_M66 (pc_q := 18) (st_q := [.null]) rfl rfl rfl ?_
          refine pm_R_br pm_M66 (pc_q := 30) rfl rfl ?_
          refine pm_R_ret pm_M66 (r := some (.null)) rfl rfl ?_
          show pm_R _ 111 12 [.ref 16, .int a0, .int a1, .int a2, .null, pm_no, pm_no] [.null] _ _
          refine pm_R_lo pm_M111 (pc_q := 14) (ls_q := [.ref 16, .int a0, .int a1, .int a2, .null, .null, pm_no]) (st_q := []) rfl rfl rfl ?_
          refine pm_R_lo pm_M111 (pc_q := 15) rfl rfl rfl ?_
          refine pm_R_lo pm_M111 (pc_q := 16) rfl rfl rfl ?_
          refine pm_R_cv pm_M111 (pc_q := 19) (a := 16) (ra := [.int a2]) (rest := []) (ls_q := [.ref 16, .int a2]) rfl rfl (Or.inl rfl) pm_M66 T.e16 rfl (by decide) (T.lt (by decide)) rfl rfl (Nat.le_of_ble_eq_true rfl) rfl rfl ?_
          refine pm_R_lo pm_M66 (pc_q := 1) rfl rfl rfl ?_
          refine pm_R_ifc pm_M66 (t := 17) (pc_q := 4) rfl rfl rfl (fun c220 => ?_) (fun c220 => ?_)
          · have B221 : sf_B (-2147483648) (-1) a2 := sf_ltL c220 (sf_any a2) sf_k0
            refine pm_R_op pm_M66 (pc_q := 18) (st_q := [.null]) rfl rfl rfl ?_
            refine pm_R_br pm_M66 (pc_q := 30) rfl rfl ?_
            refine pm_R_ret pm_M66 (r := some (.null)) rfl rfl ?_
            show pm_R _ 111 19 [.ref 16, .int a0, .int a1, .int a2, .null, .null, pm_no] [.null] _ _
            refine pm_R_lo pm_M111 (pc_q := 21) (ls_q := [.ref 16, .int a0, .int a1, .int a2, .null, .null, .null]) (st_q := []) rfl rfl rfl ?_
            refine pm_R_lo pm_M111 (pc_q := 23) rfl rfl rfl ?_
            refine pm_R_br pm_M111 (pc_q := 36) rfl rfl ?_
            refine pm_R_op pm_M111 (pc_q := 37) (st_q := [.int (-1)]) rfl rfl rfl ?_
            exact pm_R_ret pm_M111 (r := some (.int (-1))) rfl rfl (K (-1) m h T (cl_F.refl (ck := ck) (A := [32, 38]) (n := 0) (s := 0) T.1) (rf_W.refl [] m) (sf_weak sf_kn1 (by decide) (by decide)))
          · have B222 : sf_B 0 2147483647 a2 := sf_leR (Int32.not_lt.mp c220) sf_k0 (sf_any a2)
            refine pm_R_lo pm_M66 (pc_q := 5) rfl rfl rfl ?_
            refine pm_R_lo pm_M66 (pc_q := 6) rfl rfl rfl ?_
            refine pm_R_get pm_M66 (pc_q := 9) (v := .ref 17) rfl rfl T.e16 (by decide) (T.lt (by decide)) rfl rfl ?_
            refine pm_R_get pm_M66 (pc_q := 12) (v := .ref 23) rfl rfl T.e17 (by decide) (T.lt (by decide)) rfl rfl ?_
            refine pm_R_op pm_M66 (pc_q := 13) (st_q := [.int 1, .ref 23, .int a2]) rfl rfl rfl ?_
            refine pm_R_iald pm_M66 (pc_q := 14) (v := z196) rfl e71 (T.lt (by decide)) rfl ez197 rfl ?_
            refine pm_R_icmp pm_M66 (t := 21) (pc_q := 17) rfl rfl rfl (fun c226 => ?_) (fun c226 => ?_)
            · have B227 : sf_B 0 2 a2 := sf_ltL c226 B222 B198
              have B228 : sf_B 1 3 z196 := sf_ltR c226 B222 B198
              refine pm_R_lo pm_M66 (pc_q := 22) rfl rfl rfl ?_
              refine pm_R_get pm_M66 (pc_q := 25) (v := .ref 17) rfl rfl T.e16 (by decide) (T.lt (by decide)) rfl rfl ?_
              refine pm_R_get pm_M66 (pc_q := 28) (v := .ref 20) rfl rfl T.e17 (by decide) (T.lt (by decide)) rfl rfl ?_
              refine pm_R_lo pm_M66 (pc_q := 29) rfl rfl rfl ?_
              obtain ⟨f229, e230, b231⟩ := T.C 20 (by decide) (by decide)
              obtain ⟨l232, hx233⟩ := cl_there1 T e71 e230 ez197 c226 B227 (by decide)
              have hk234 := b231 _ _ hx233
              refine pm_R_aald pm_M66 (pc_q := 30) (v := .ref l232) rfl e230 (by decide) (by decide) (by decide) (T.lt (by decide)) (sf_in B227 (by decide) (by decide)) (by rw [hx233]; rfl) rfl ?_
              refine pm_R_ret pm_M66 (r := some (.ref l232)) rfl rfl ?_
              show pm_R _ 111 19 [.ref 16, .int a0, .int a1, .int a2, .null, .null, pm_no] [.ref l232] _ _
              refine pm_R_lo pm_M111 (pc_q := 21) (ls_q := [.ref 16, .int a0, .int a1, .int a2, .null, .null, .ref l232]) (st_q := []) rfl rfl rfl ?_
              refine pm_R_lo pm_M111 (pc_q := 23) rfl rfl rfl ?_
              refine pm_R_br pm_M111 (pc_q := 36) rfl rfl ?_
              refine pm_R_op pm_M111 (pc_q := 37) (st_q := [.int (-1)]) rfl rfl rfl ?_
              exact pm_R_ret pm_M111 (r := some (.int (-1))) rfl rfl (K (-1) m h T (cl_F.refl (ck := ck) (A := [32, 38]) (n := 0) (s := 0) T.1) (rf_W.refl [] m) (sf_weak sf_kn1 (by decide) (by decide)))
            · skip
              refine pm_R_op pm_M66 (pc_q := 18) (st_q := [.null]) rfl rfl rfl ?_
              refine pm_R_br pm_M66 (pc_q := 30) rfl rfl ?_
              refine pm_R_ret pm_M66 (r := some (.null)) rfl rfl ?_
              show pm_R _ 111 19 [.ref 16, .int a0, .int a1, .int a2, .null, .null, pm_no] [.null] _ _
              refine pm_R_lo pm_M111 (pc_q := 21) (ls_q := [.ref 16, .int a0, .int a1, .int a2, .null, .null, .null]) (st_q := []) rfl rfl rfl ?_
              refine pm_R_lo pm_M111 (pc_q := 23) rfl rfl rfl ?_
              refine pm_R_br pm_M111 (pc_q := 36) rfl rfl ?_
              refine pm_R_op pm_M111 (pc_q := 37) (st_q := [.int (-1)]) rfl rfl rfl ?_
              exact pm_R_ret pm_M111 (r := some (.int (-1))) rfl rfl (K (-1) m h T (cl_F.refl (ck := ck) (A := [32, 38]) (n := 0) (s := 0) T.1) (rf_W.refl [] m) (sf_weak sf_kn1 (by decide) (by decide)))
