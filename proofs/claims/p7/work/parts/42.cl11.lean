set_option maxRecDepth 100000 in
set_option maxHeartbeats 4000000 in
/-- SilentTable$TreeChart.pick -/
theorem cl_c92_1 {d : Nat} {ck : cl_K} {E : Nat → pm_E} {m : Nat → Int32} {o : Nat → Option Nat} {h : pm_H} {Q : Option Value → pm_H → Prop} {a0 : Int32} {a1 : Int32} {a2 : Int32} {a3 : Int64} (G : cl_G ck E) (T : cl_T ck E m o h) (Ba0 : sf_B 0 5 a0) (Ba1 : sf_B 0 11 a1) (Ba2 : sf_B 0 11 a2) {lo ro : Nat} (ol : o 1 = some lo) (orr : o 2 = some ro) {n : Nat} (en : E ro = .inr (5, [.int (Int32.ofNat n), .ref (ro + 1)])) (Q1 : a1 < Int32.ofNat n) (Q2 : a2 < Int32.ofNat n) (K : ∀ (r : Int32) (m_q : Nat → Int32) (h_q : pm_H), cl_T ck E m_q o h_q → cl_F ck [33, 35] 0 0 h h_q → rf_W [14, 15] m m_q → Q (some (.int r)) h_q) : pm_R (d + 14) 92 0 [.ref 33, .int a0, .int a1, .int a2, .long a3, pm_no, .int 1, pm_no, pm_no, pm_no, pm_no, pm_no, pm_no, pm_no, pm_no, pm_no, pm_no, pm_no] [] h Q := by
  have hkl := T.oo.2.1 _ ol
  have hkr := T.oo.2.2 _ orr
  obtain ⟨n1, f2, h3, h4, eE5, eE6, b7⟩ := (G.2.2.1 ro hkr).2
  have kq8 := (G.2.2.1 ro hkr).1
  have P1 : a1 < (Int32.ofNat n1) := by rw [cl_rowN eE5 en]; exact Q1
  have P2 : a2 < (Int32.ofNat n1) := by rw [cl_rowN eE5 en]; exact Q2
  refine pm_R_lo pm_M92 (pc_q := 1) rfl rfl rfl ?_
  refine pm_R_lo pm_M92 (pc_q := 2) rfl rfl rfl ?_
  refine pm_R_icmp pm_M92 (t := 12) (pc_q := 5) rfl rfl rfl (fun c9 => ?_) (fun c9 => ?_)
  · skip
    refine pm_R_lo pm_M92 (pc_q := 13) rfl rfl rfl ?_
    refine pm_R_lo pm_M92 (pc_q := 14) rfl rfl rfl ?_
    refine pm_R_lo pm_M92 (pc_q := 15) rfl rfl rfl ?_
    refine pm_R_lo pm_M92 (pc_q := 17) rfl rfl rfl ?_
    refine pm_R_cv pm_M92 (pc_q := 20) (a := 33) (ra := [.long a3, .int a1, .int a0]) (rest := []) (ls_q := [.ref 33, .int a0, .int a1, .long a3, pm_no, pm_no, pm_no, pm_no]) rfl rfl (Or.inl rfl) pm_M93 T.e33 rfl (by decide) (T.lt (by decide)) rfl rfl (Nat.le_of_ble_eq_true rfl) rfl rfl ?_
    refine cl_c93 (d := d + 13) G T Ba0 Ba1 ol orr eE5 P1 (fun r10 m12 h13 T14 F15 W16 B11 => ?_)
    have F17 := (cl_F.refl (ck := ck) (A := [33, 35]) (n := 0) (s := 0) T.1).trans (N := 0) (S := 0) F15 (by decide) (by decide) (by decide)
    have W18 : rf_W [14, 15] m m12 := (rf_W.refl [14, 15] m).trans W16 (by decide)
    show pm_R _ 92 20 [.ref 33, .int a0, .int a1, .int a2, .long a3, pm_no, .int 1, pm_no, pm_no, pm_no, pm_no, pm_no, pm_no, pm_no, pm_no, pm_no, pm_no, pm_no] [.int r10] _ _
    exact pm_R_ret pm_M92 (r := some (.int r10)) rfl (pm_ret_i _) (K r10 m12 h13 T14 F17 W18)
  · have B19 : sf_B 0 10 a1 := sf_ltL (Int32.not_le.mp c9) Ba1 Ba2
    have B20 : sf_B 1 11 a2 := sf_ltR (Int32.not_le.mp c9) Ba1 Ba2
    refine pm_R_lo pm_M92 (pc_q := 7) rfl rfl rfl ?_
    refine pm_R_op pm_M92 (pc_q := 9) (st_q := [.int 12, .int 1]) rfl rfl rfl ?_
    refine pm_R_br pm_M92 (pc_q := 21) (st_q := []) rfl rfl ?_
    refine pm_R_lo pm_M92 (pc_q := 23) rfl rfl rfl ?_
    refine pm_R_lo pm_M92 (pc_q := 25) (ls_q := [.ref 33, .int a0, .int a1, .int a2, .long a3, pm_no, .int 1, .long a3, pm_no, pm_no, pm_no, pm_no, pm_no, pm_no, pm_no, pm_no, pm_no, pm_no]) (st_q := []) rfl rfl rfl ?_
    refine pm_R_lo pm_M92 (pc_q := 26) rfl rfl rfl ?_
    refine pm_R_lo pm_M92 (pc_q := 28) (ls_q := [.ref 33, .int a0, .int a1, .int a2, .long a3, pm_no, .int 1, .long a3, pm_no, .int a1, pm_no, pm_no, pm_no, pm_no, pm_no, pm_no, pm_no, pm_no]) (st_q := []) rfl rfl rfl ?_
    have L_8826 : ∀ (N : Nat) (x9_8826 : Int32) (y7_8826 : Int64) (g10_8826 : Value) (g11_8826 : Value) (g12_8826 : Value) (g13_8826 : Value) (g14_8826 : Value), sf_B 0 11 x9_8826 → g10_8826.category = 1 → g12_8826.category = 1 → g14_8826.category = 1 → (11 - x9_8826.toInt).toNat = N → pm_R (d + 14) 92 28 [.ref 33, .int a0, .int a1, .int a2, .long a3, pm_no, .int 1, .long y7_8826, pm_no, .int x9_8826, g10_8826, g11_8826, g12_8826, g13_8826, g14_8826, pm_no, pm_no, pm_no] [] h Q := by
      intro N
      induction N using Nat.strongRecOn with
      | ind N ih_8826 =>
        intro x9_8826 y7_8826 g10_8826 g11_8826 g12_8826 g13_8826 g14_8826 Bx9_8826 Cg10_8826 Cg12_8826 Cg14_8826 hN_8826
        refine pm_R_lo pm_M92 (pc_q := 30) rfl rfl rfl ?_
        refine pm_R_lo pm_M92 (pc_q := 31) rfl rfl rfl ?_
        refine pm_R_icmp pm_M92 (t := 278) (pc_q := 34) rfl rfl rfl (fun c8827 => ?_) (fun c8827 => ?_)
        · have B8828 : sf_B 1 11 x9_8826 := sf_leR c8827 B20 Bx9_8826
          refine pm_R_op pm_M92 (pc_q := 279) (st_q := [.int (-1)]) (pm_q92_2 (Nat.le_of_ble_eq_true rfl)) rfl rfl ?_
          exact pm_R_ret pm_M92 (r := some (.int (-1))) (pm_q92_2 (Nat.le_of_ble_eq_true rfl)) rfl (K (-1) m h T (cl_F.refl (ck := ck) (A := [33, 35]) (n := 0) (s := 0) T.1) (rf_W.refl [14, 15] m))
        · have B8829 : sf_B 0 10 x9_8826 := sf_ltL (Int32.not_le.mp c8827) Bx9_8826 B20
          refine pm_R_op pm_M92 (pc_q := 35) (st_q := [.int 0]) rfl rfl rfl ?_
          refine pm_R_lo pm_M92 (pc_q := 37) (ls_q := [.ref 33, .int a0, .int a1, .int a2, .long a3, pm_no, .int 1, .long y7_8826, pm_no, .int x9_8826, .int 0, g11_8826, g12_8826, g13_8826, g14_8826, pm_no, pm_no, pm_no]) (st_q := []) rfl rfl rfl ?_
          have L_11755 : ∀ (N : Nat) (x10_11755 : Int32) (y7_11755 : Int64) (g11_11755 : Value) (g12_11755 : Value) (g13_11755 : Value) (g14_11755 : Value), sf_B 0 10 x10_11755 → g12_11755.category = 1 → g14_11755.category = 1 → (10 - x10_11755.toInt).toNat = N → pm_R (d + 14) 92 37 [.ref 33, .int a0, .int a1, .int a2, .long a3, pm_no, .int 1, .long y7_11755, pm_no, .int x9_8826, .int x10_11755, g11_11755, g12_11755, g13_11755, g14_11755, pm_no, pm_no, pm_no] [] h Q := by
            intro N
            induction N using Nat.strongRecOn with
            | ind N ih_11755 =>
              intro x10_11755 y7_11755 g11_11755 g12_11755 g13_11755 g14_11755 Bx10_11755 Cg12_11755 Cg14_11755 hN_11755
              refine pm_R_lo pm_M92 (pc_q := 39) rfl rfl rfl ?_
              refine pm_R_lo pm_M92 (pc_q := 40) rfl rfl rfl ?_
              refine pm_R_get pm_M92 (pc_q := 43) (v := .ref lo) rfl rfl T.e33 (by decide) (T.lt (by decide)) (by show some (va_rf (o 1)) = _; rw [ol]; rfl) rfl ?_
              obtain ⟨rc11756, tc11757, rs11758, fv11759, fw11760, fr11761, ft11762, fn11763, h11764, h11765, B11766, eE11767, eE11768, eE11769, eE11770, eE11771, eE11772, b11773, b11774, b11775⟩ := (G.2.1 lo hkl).2.2.2.2.2
              have kq11776 := G.2.1 lo hkl
              refine pm_R_get pm_M92 (pc_q := 46) (v := .int (Int32.ofNat rc11756)) rfl rfl (T.im hkl (by decide) (by decide) eE11767) (G.ge hkl (by decide)) (T.al hkl (by decide)) rfl rfl ?_
              refine pm_R_icmp pm_M92 (t := 272) (pc_q := 49) rfl rfl rfl (fun c11777 => ?_) (fun c11777 => ?_)
              · skip
                refine sf_R_iinc pm_M92 (pc_q := 275) (ls_q := fun z => [.ref 33, .int a0, .int a1, .int a2, .long a3, pm_no, .int 1, .long y7_11755, pm_no, .int z, .int x10_11755, g11_11755, g12_11755, g13_11755, g14_11755, pm_no, pm_no, pm_no]) (pm_q92_2 (Nat.le_of_ble_eq_true rfl)) B8829 rfl (by decide) (by decide) (by decide) (fun _ => rfl) rfl (fun z11778 e11779 B11780 => ?_)
                show pm_R _ 92 275 [.ref 33, .int a0, .int a1, .int a2, .long a3, pm_no, .int 1, .long y7_11755, pm_no, .int z11778, .int x10_11755, g11_11755, g12_11755, g13_11755, g14_11755, pm_no, pm_no, pm_no] [] _ _
                refine pm_R_br pm_M92 (pc_q := 28) (pm_q92_2 (Nat.le_of_ble_eq_true rfl)) rfl ?_
                exact ih_8826 _ (sf_up hN_8826 e11779 B8829 (by decide) (by decide)) z11778 y7_11755 (.int x10_11755) (g11_11755) (g12_11755) (g13_11755) (g14_11755) (sf_weak B11780 (by decide) (by decide)) rfl Cg12_11755 Cg14_11755 rfl
              · have B11781 : sf_B 0 9 x10_11755 := sf_ltL (Int32.not_le.mp c11777) Bx10_11755 (sf_ofB h11764 (by decide))
                have B11782 : sf_B 1 10 (Int32.ofNat rc11756) := sf_ltR (Int32.not_le.mp c11777) Bx10_11755 (sf_ofB h11764 (by decide))
                refine pm_R_lo pm_M92 (pc_q := 50) rfl rfl rfl ?_
                refine pm_R_lo pm_M92 (pc_q := 52) rfl rfl rfl ?_
                refine pm_R_lo pm_M92 (pc_q := 54) rfl rfl rfl ?_
                refine pm_R_lo pm_M92 (pc_q := 55) rfl rfl rfl ?_
                refine pm_R_cv pm_M92 (pc_q := 58) (a := 33) (ra := [.int a2, .int x9_8826, .int x10_11755]) (rest := []) (ls_q := [.ref 33, .int x10_11755, .int x9_8826, .int a2]) rfl rfl (Or.inl rfl) pm_M76 T.e33 rfl (by decide) (T.lt (by decide)) rfl rfl (Nat.le_of_ble_eq_true rfl) rfl rfl ?_
                refine pm_R_lo pm_M76 (pc_q := 1) rfl rfl rfl ?_
                refine pm_R_get pm_M76 (pc_q := 4) (v := .ref 34) rfl rfl T.e33 (by decide) (T.lt (by decide)) rfl rfl ?_
                refine pm_R_lo pm_M76 (pc_q := 5) rfl rfl rfl ?_
                refine pm_R_op pm_M76 (pc_q := 6) (st_q := [.int 1, .int x9_8826, .ref 34]) rfl rfl rfl ?_
                refine sf_R_iadd pm_M76 (pc_q := 7) rfl rfl B8829 sf_k1 (by decide) (by decide) (fun z11783 e11784 B11785 => ?_)
                refine pm_R_lo pm_M76 (pc_q := 8) rfl rfl rfl ?_
                refine pm_R_cs pm_M76 (pc_q := 11) (ra := [.int a2, .int z11783]) (rest := [.ref 34]) (ls_q := [.int z11783, .int a2]) rfl rfl (Or.inr rfl) pm_M73 rfl rfl (Nat.le_of_ble_eq_true rfl) rfl rfl ?_
                refine pm_R_lo pm_M73 (pc_q := 1) rfl rfl rfl ?_
                refine pm_R_lo pm_M73 (pc_q := 2) rfl rfl rfl ?_
                refine pm_R_op pm_M73 (pc_q := 3) (st_q := [.int 1, .int a2, .int a2]) rfl rfl rfl ?_
                refine sf_R_iadd pm_M73 (pc_q := 4) rfl rfl B20 sf_k1 (by decide) (by decide) (fun z11786 e11787 B11788 => ?_)
                refine sf_R_imul pm_M73 (pc_q := 5) rfl rfl B20 B11788 (by decide) (by decide) (by decide) (fun z11789 e11790 B11791 => ?_)
                refine pm_R_op pm_M73 (pc_q := 6) (st_q := [.int 2, .int z11789]) rfl rfl rfl ?_
                refine sf_R_idiv pm_M73 (pc_q := 7) rfl rfl B11791 sf_k2 (by decide) (by decide) (fun z11792 e11793 B11794 => ?_)
                refine pm_R_lo pm_M73 (pc_q := 8) rfl rfl rfl ?_
                refine sf_R_iadd pm_M73 (pc_q := 9) rfl rfl B11794 B11785 (by decide) (by decide) (fun z11795 e11796 B11797 => ?_)
                refine pm_R_ret pm_M73 (r := some (.int z11795)) rfl (pm_ret_i _) ?_
                show pm_R _ 76 11 [.ref 33, .int x10_11755, .int x9_8826, .int a2] [.int z11795, .ref 34] _ _
                refine pm_R_op pm_M76 (pc_q := 13) (st_q := [.int 6, .int z11795, .ref 34]) rfl rfl rfl ?_
                refine sf_R_imul pm_M76 (pc_q := 14) rfl rfl B11797 sf_k6 (by decide) (by decide) (by decide) (fun z11798 e11799 B11800 => ?_)
                refine pm_R_lo pm_M76 (pc_q := 15) rfl rfl rfl ?_
                refine pm_R_get pm_M76 (pc_q := 18) (v := .ref lo) rfl rfl T.e33 (by decide) (T.lt (by decide)) (by show some (va_rf (o 1)) = _; rw [ol]; rfl) rfl ?_
                refine pm_R_get pm_M76 (pc_q := 21) (v := .ref (lo + 3)) rfl rfl (T.im hkl (by decide) (by decide) eE11767) (G.ge hkl (by decide)) (T.al hkl (by decide)) rfl rfl ?_
                refine pm_R_lo pm_M76 (pc_q := 22) rfl rfl rfl ?_
                refine pm_R_op pm_M76 (pc_q := 23) (st_q := [.int 4, .int x10_11755, .ref (lo + 3), .int z11798, .ref 34]) rfl rfl rfl ?_
                refine sf_R_imul pm_M76 (pc_q := 24) rfl rfl B11781 sf_k4 (by decide) (by decide) (by decide) (fun z11801 e11802 B11803 => ?_)
                refine pm_R_op pm_M76 (pc_q := 25) (st_q := [.int 2, .int z11801, .ref (lo + 3), .int z11798, .ref 34]) rfl rfl rfl ?_
                refine sf_R_iadd pm_M76 (pc_q := 26) rfl rfl B11803 sf_k2 (by decide) (by decide) (fun z11804 e11805 B11806 => ?_)
                have q11810 := cl_in4 (n := rc11756) (Nat.le_trans h11764 (by decide)) (Int32.not_le.mp c11777) (cl_aux6 _ _ _ e11802 e11805) B11781 (by decide) (by decide)
                obtain ⟨z11807, ez11808⟩ : ∃ y, fr11761 (Int32.toNatClampNeg z11804) = y := ⟨_, rfl⟩
                have B11809 : sf_B 0 5 z11807 := ez11808 ▸ q11810.2.2 ▸ (b11773 _ q11810.2.1).2.2
                refine pm_R_iald pm_M76 (pc_q := 27) (v := z11807) rfl (T.im kq11776.2.2.1 (by decide) (by decide) eE11770) (T.al kq11776.2.2.1 (by decide)) q11810.1 ez11808 rfl ?_
                refine sf_R_iadd pm_M76 (pc_q := 28) rfl rfl B11800 B11809 (by decide) (by decide) (fun z11811 e11812 B11813 => ?_)
                obtain ⟨f11817, e11818⟩ := T.C 34 (by decide) (by decide)
                obtain ⟨z11814, ez11815⟩ : ∃ y, f11817 (Int32.toNatClampNeg z11811) = y := ⟨_, rfl⟩
                refine pm_R_lald pm_M76 (pc_q := 29) (v := z11814) rfl e11818 (by decide) (T.lt (by decide)) (sf_in B11813 (by decide) (by decide)) ez11815 rfl ?_
                refine pm_R_ret pm_M76 (r := some (.long z11814)) rfl rfl ?_
                show pm_R _ 92 58 [.ref 33, .int a0, .int a1, .int a2, .long a3, pm_no, .int 1, .long y7_11755, pm_no, .int x9_8826, .int x10_11755, g11_11755, g12_11755, g13_11755, g14_11755, pm_no, pm_no, pm_no] [.long z11814] _ _
                refine pm_R_lo pm_M92 (pc_q := 60) (ls_q := [.ref 33, .int a0, .int a1, .int a2, .long a3, pm_no, .int 1, .long y7_11755, pm_no, .int x9_8826, .int x10_11755, .long z11814, pm_no, g13_11755, g14_11755, pm_no, pm_no, pm_no]) (st_q := []) rfl rfl rfl ?_
                refine pm_R_lo pm_M92 (pc_q := 61) rfl rfl rfl ?_
                refine pm_R_get pm_M92 (pc_q := 64) (v := .ref lo) rfl rfl T.e33 (by decide) (T.lt (by decide)) (by show some (va_rf (o 1)) = _; rw [ol]; rfl) rfl ?_
                refine pm_R_get pm_M92 (pc_q := 67) (v := .ref (lo + 3)) rfl rfl (T.im hkl (by decide) (by decide) eE11767) (G.ge hkl (by decide)) (T.al hkl (by decide)) rfl rfl ?_
                refine pm_R_lo pm_M92 (pc_q := 69) rfl rfl rfl ?_
                refine pm_R_op pm_M92 (pc_q := 70) (st_q := [.int 4, .int x10_11755, .ref (lo + 3)]) rfl rfl rfl ?_
                refine sf_R_imulV pm_M92 (pc_q := 71) rfl rfl B11781 sf_k4 (by decide) (by decide) (by decide) e11802 ?_
                have q11823 := cl_in4 (n := rc11756) (Nat.le_trans h11764 (by decide)) (Int32.not_le.mp c11777) (cl_aux5 _ _ e11802) B11781 (by decide) (by decide)
                obtain ⟨z11820, ez11821⟩ : ∃ y, fr11761 (Int32.toNatClampNeg z11801) = y := ⟨_, rfl⟩
                have B11822 : sf_B 0 5 z11820 := ez11821 ▸ q11823.2.2 ▸ (b11773 _ q11823.2.1).1
                refine pm_R_iald pm_M92 (pc_q := 72) (v := z11820) rfl (T.im kq11776.2.2.1 (by decide) (by decide) eE11770) (T.al kq11776.2.2.1 (by decide)) q11823.1 ez11821 rfl ?_
                refine pm_R_lo pm_M92 (pc_q := 73) rfl rfl rfl ?_
                refine pm_R_icmp pm_M92 (t := 93) (pc_q := 76) rfl rfl rfl (fun c11824 => ?_) (fun c11824 => ?_)
                · skip
                  refine pm_R_op pm_M92 (pc_q := 94) (st_q := [.long 0]) rfl rfl rfl ?_
                  refine pm_R_lo pm_M92 (pc_q := 96) (ls_q := [.ref 33, .int a0, .int a1, .int a2, .long a3, pm_no, .int 1, .long y7_11755, pm_no, .int x9_8826, .int x10_11755, .long z11814, pm_no, .long 0, pm_no, pm_no, pm_no, pm_no]) (st_q := []) rfl rfl rfl ?_
                  refine pm_R_lo pm_M92 (pc_q := 98) rfl rfl rfl ?_
                  refine pm_R_op pm_M92 (pc_q := 99) (st_q := [.long 0, .long z11814]) rfl rfl rfl ?_
                  refine sf_R_lcmp pm_M92 (pc_q := 100) rfl rfl (fun z11825 e11826 => ?_)
                  refine pm_R_ifc pm_M92 (t := 259) (pc_q := 103) rfl rfl rfl (fun c11827 => ?_) (fun c11827 => ?_)
                  · have B11828 : sf_B 0 0 z11825 := sf_eqL c11827 sf_k0
                    have B11829 : lf_B 0 0 z11814 := lf_eqB e11826 B11828 (⟨by decide, by decide⟩ : lf_B 0 0 0)
                    refine pm_R_lo pm_M92 (pc_q := 261) (pm_q92_2 (Nat.le_of_ble_eq_true rfl)) rfl rfl ?_
                    refine pm_R_lo pm_M92 (pc_q := 263) (pm_q92_2 (Nat.le_of_ble_eq_true rfl)) rfl rfl ?_
                    refine sf_R_lany pm_M92 (pc_q := 264) (st := []) (pm_q92_2 (Nat.le_of_ble_eq_true rfl)) rfl rfl (fun z11830 => ?_)
                    refine pm_R_lo pm_M92 (pc_q := 266) (ls_q := [.ref 33, .int a0, .int a1, .int a2, .long a3, pm_no, .int 1, .long z11830, pm_no, .int x9_8826, .int x10_11755, .long z11814, pm_no, .long 0, pm_no, pm_no, pm_no, pm_no]) (st_q := []) (pm_q92_2 (Nat.le_of_ble_eq_true rfl)) rfl rfl ?_
                    refine sf_R_iinc pm_M92 (pc_q := 269) (ls_q := fun z => [.ref 33, .int a0, .int a1, .int a2, .long a3, pm_no, .int 1, .long z11830, pm_no, .int x9_8826, .int z, .long z11814, pm_no, .long 0, pm_no, pm_no, pm_no, pm_no]) (pm_q92_2 (Nat.le_of_ble_eq_true rfl)) B11781 rfl (by decide) (by decide) (by decide) (fun _ => rfl) rfl (fun z11831 e11832 B11833 => ?_)
                    show pm_R _ 92 269 [.ref 33, .int a0, .int a1, .int a2, .long a3, pm_no, .int 1, .long z11830, pm_no, .int x9_8826, .int z11831, .long z11814, pm_no, .long 0, pm_no, pm_no, pm_no, pm_no] [] _ _
                    refine pm_R_br pm_M92 (pc_q := 37) (pm_q92_2 (Nat.le_of_ble_eq_true rfl)) rfl ?_
                    exact ih_11755 _ (sf_up hN_11755 e11832 B11781 (by decide) (by decide)) z11831 z11830 (.long z11814) (pm_no) (.long 0) (pm_no) (sf_weak B11833 (by decide) (by decide)) rfl rfl rfl
                  · have k11834 := sf_lneC e11826 c11827
                    refine pm_R_lo pm_M92 (pc_q := 105) rfl rfl rfl ?_
                    refine pm_R_lo pm_M92 (pc_q := 107) rfl rfl rfl ?_
                    refine sf_R_lcmp pm_M92 (pc_q := 108) rfl rfl (fun z11835 e11836 => ?_)
                    refine pm_R_ifc pm_M92 (t := 120) (pc_q := 111) rfl rfl rfl (fun c11837 => ?_) (fun c11837 => ?_)
                    · have B11838 : sf_B (-2147483648) (-1) z11835 := sf_ltL c11837 (sf_any z11835) sf_k0
                      have k11839 := lf_lt e11836 B11838 (by decide)
                      have k11840 := sf_lneB e11836 B11838 (by decide)
                      refine pm_R_lo pm_M92 (pc_q := 122) (pm_q92_1 (Nat.le_of_ble_eq_true rfl)) rfl rfl ?_
                      refine pm_R_ldc2 pm_M92 (pc_q := 125) (pm_q92_1 (Nat.le_of_ble_eq_true rfl)) rfl rfl ?_
                      refine sf_R_lcmp pm_M92 (pc_q := 126) (pm_q92_1 (Nat.le_of_ble_eq_true rfl)) rfl (fun z11841 e11842 => ?_)
                      refine pm_R_ifc pm_M92 (t := 133) (pc_q := 129) (pm_q92_1 (Nat.le_of_ble_eq_true rfl)) rfl rfl (fun c11843 => ?_) (fun c11843 => ?_)
                      · have k11844 := sf_lneC e11842 c11843
                        refine pm_R_op pm_M92 (pc_q := 134) (st_q := [.int 0]) (pm_q92_1 (Nat.le_of_ble_eq_true rfl)) rfl rfl ?_
                        refine pm_R_lo pm_M92 (pc_q := 136) (ls_q := [.ref 33, .int a0, .int a1, .int a2, .long a3, pm_no, .int 1, .long y7_11755, pm_no, .int x9_8826, .int x10_11755, .long z11814, pm_no, .long 0, pm_no, .int 0, pm_no, pm_no]) (st_q := []) (pm_q92_1 (Nat.le_of_ble_eq_true rfl)) rfl rfl ?_
                        refine pm_R_lo pm_M92 (pc_q := 137) (pm_q92_1 (Nat.le_of_ble_eq_true rfl)) rfl rfl ?_
                        refine pm_R_lo pm_M92 (pc_q := 138) (pm_q92_1 (Nat.le_of_ble_eq_true rfl)) rfl rfl ?_
                        refine pm_R_get pm_M92 (pc_q := 141) (v := .ref lo) (pm_q92_1 (Nat.le_of_ble_eq_true rfl)) rfl T.e33 (by decide) (T.lt (by decide)) (by show some (va_rf (o 1)) = _; rw [ol]; rfl) rfl ?_
                        refine pm_R_get pm_M92 (pc_q := 144) (v := .ref (lo + 3)) (pm_q92_1 (Nat.le_of_ble_eq_true rfl)) rfl (T.im hkl (by decide) (by decide) eE11767) (G.ge hkl (by decide)) (T.al hkl (by decide)) rfl rfl ?_
                        refine pm_R_lo pm_M92 (pc_q := 146) (pm_q92_1 (Nat.le_of_ble_eq_true rfl)) rfl rfl ?_
                        refine pm_R_op pm_M92 (pc_q := 147) (st_q := [.int 4, .int x10_11755, .ref (lo + 3), .ref 33]) (pm_q92_1 (Nat.le_of_ble_eq_true rfl)) rfl rfl ?_
                        refine sf_R_imulV pm_M92 (pc_q := 148) (pm_q92_1 (Nat.le_of_ble_eq_true rfl)) rfl B11781 sf_k4 (by decide) (by decide) (by decide) e11802 ?_
                        refine pm_R_op pm_M92 (pc_q := 149) (st_q := [.int 1, .int z11801, .ref (lo + 3), .ref 33]) (pm_q92_1 (Nat.le_of_ble_eq_true rfl)) rfl rfl ?_
                        refine sf_R_iadd pm_M92 (pc_q := 150) (pm_q92_1 (Nat.le_of_ble_eq_true rfl)) rfl B11803 sf_k1 (by decide) (by decide) (fun z11845 e11846 B11847 => ?_)
                        have q11851 := cl_in4 (n := rc11756) (Nat.le_trans h11764 (by decide)) (Int32.not_le.mp c11777) (cl_aux7 _ _ _ e11802 e11846) B11781 (by decide) (by decide)
                        obtain ⟨z11848, ez11849⟩ : ∃ y, fr11761 (Int32.toNatClampNeg z11845) = y := ⟨_, rfl⟩
                        have B11850 : sf_B 0 5 z11848 := ez11849 ▸ q11851.2.2 ▸ (b11773 _ q11851.2.1).2.1
                        refine pm_R_iald pm_M92 (pc_q := 151) (v := z11848) (pm_q92_1 (Nat.le_of_ble_eq_true rfl)) (T.im kq11776.2.2.1 (by decide) (by decide) eE11770) (T.al kq11776.2.2.1 (by decide)) q11851.1 ez11849 rfl ?_
                        refine pm_R_lo pm_M92 (pc_q := 152) (pm_q92_1 (Nat.le_of_ble_eq_true rfl)) rfl rfl ?_
                        refine pm_R_lo pm_M92 (pc_q := 154) (pm_q92_1 (Nat.le_of_ble_eq_true rfl)) rfl rfl ?_
                        refine pm_R_lo pm_M92 (pc_q := 156) (pm_q92_1 (Nat.le_of_ble_eq_true rfl)) rfl rfl ?_
                        refine pm_R_br pm_M92 (pc_q := 163) (st_q := [.int x9_8826, .int a1, .int z11848, .ref 33]) (pm_q92_1 (Nat.le_of_ble_eq_true rfl)) rfl ?_
                        refine pm_R_lo pm_M92 (pc_q := 165) (pm_q92_1 (Nat.le_of_ble_eq_true rfl)) rfl rfl ?_
                        refine pm_R_lo pm_M92 (pc_q := 167) (pm_q92_1 (Nat.le_of_ble_eq_true rfl)) rfl rfl ?_
                        refine sf_R_ldivA pm_M92 (pc_q := 168) (pm_q92_1 (Nat.le_of_ble_eq_true rfl)) rfl k11834 (fun z11852 => ?_)
                        refine pm_R_lo pm_M92 (pc_q := 170) (pm_q92_1 (Nat.le_of_ble_eq_true rfl)) rfl rfl ?_
                        refine pm_R_op pm_M92 (pc_q := 171) (st_q := [.int 1, .int 1, .long z11852, .int x9_8826, .int a1, .int z11848, .ref 33]) (pm_q92_1 (Nat.le_of_ble_eq_true rfl)) rfl rfl ?_
                        refine pm_R_op pm_M92 (pc_q := 172) (st_q := [.int 2, .long z11852, .int x9_8826, .int a1, .int z11848, .ref 33]) (pm_q92_1 (Nat.le_of_ble_eq_true rfl)) rfl rfl ?_
                        refine pm_R_cv pm_M92 (pc_q := 175) (a := 33) (ra := [.int 2, .long z11852, .int x9_8826, .int a1, .int z11848]) (rest := []) (ls_q := [.ref 33, .int z11848, .int a1, .int x9_8826, .long z11852, pm_no, .int 2, pm_no, pm_no, pm_no, pm_no, pm_no, pm_no, pm_no, pm_no, pm_no, pm_no, pm_no]) (pm_q92_1 (Nat.le_of_ble_eq_true rfl)) rfl (Or.inl rfl) pm_M92 T.e33 rfl (by decide) (T.lt (by decide)) rfl rfl (Nat.le_of_ble_eq_true rfl) rfl rfl ?_
                        refine cl_c92_2 (d := d + 0) G T B11850 (sf_weak B19 (by decide) (by decide)) (sf_weak B8829 (by decide) (by decide)) ol orr eE5 P1 (Int32.lt_iff_toInt_lt.mpr (cl_aux14 _ _ _ (Int32.lt_iff_toInt_lt.mp (Int32.not_le.mp c8827)) (Int32.lt_iff_toInt_lt.mp P2))) (fun r11853 m11855 h11856 T11857 F11858 W11859 => ?_)
                        have F11860 := (cl_F.refl (ck := ck) (A := [33, 35]) (n := 0) (s := 0) T.1).trans (N := 0) (S := 0) F11858 (by decide) (by decide) (by decide)
                        have W11861 : rf_W [14, 15] m m11855 := (rf_W.refl [14, 15] m).trans W11859 (by decide)
                        show pm_R _ 92 175 [.ref 33, .int a0, .int a1, .int a2, .long a3, pm_no, .int 1, .long y7_11755, pm_no, .int x9_8826, .int x10_11755, .long z11814, pm_no, .long 0, pm_no, .int 0, pm_no, pm_no] [.int r11853] _ _
                        refine pm_R_lo pm_M92 (pc_q := 177) (ls_q := [.ref 33, .int a0, .int a1, .int a2, .long a3, pm_no, .int 1, .long y7_11755, pm_no, .int x9_8826, .int x10_11755, .long z11814, pm_no, .long 0, pm_no, .int 0, .int r11853, pm_no]) (st_q := []) (pm_q92_1 (Nat.le_of_ble_eq_true rfl)) rfl rfl ?_
                        refine pm_R_lo pm_M92 (pc_q := 178) (pm_q92_1 (Nat.le_of_ble_eq_true rfl)) rfl rfl ?_
                        refine pm_R_lo pm_M92 (pc_q := 179) (pm_q92_1 (Nat.le_of_ble_eq_true rfl)) rfl rfl ?_
                        refine pm_R_get pm_M92 (pc_q := 182) (v := .ref lo) (pm_q92_1 (Nat.le_of_ble_eq_true rfl)) rfl T11857.e33 (by decide) (T11857.lt (by decide)) (by show some (va_rf (o 1)) = _; rw [ol]; rfl) rfl ?_
                        refine pm_R_get pm_M92 (pc_q := 185) (v := .ref (lo + 3)) (pm_q92_1 (Nat.le_of_ble_eq_true rfl)) rfl (T11857.im hkl (by decide) (by decide) eE11767) (G.ge hkl (by decide)) (T11857.al hkl (by decide)) rfl rfl ?_
                        refine pm_R_lo pm_M92 (pc_q := 187) (pm_q92_1 (Nat.le_of_ble_eq_true rfl)) rfl rfl ?_
                        refine pm_R_op pm_M92 (pc_q := 188) (st_q := [.int 4, .int x10_11755, .ref (lo + 3), .ref 33]) (pm_q92_1 (Nat.le_of_ble_eq_true rfl)) rfl rfl ?_
                        refine sf_R_imulV pm_M92 (pc_q := 189) (pm_q92_1 (Nat.le_of_ble_eq_true rfl)) rfl B11781 sf_k4 (by decide) (by decide) (by decide) e11802 ?_
                        refine pm_R_op pm_M92 (pc_q := 190) (st_q := [.int 2, .int z11801, .ref (lo + 3), .ref 33]) (pm_q92_1 (Nat.le_of_ble_eq_true rfl)) rfl rfl ?_
                        refine sf_R_iaddV pm_M92 (pc_q := 191) (pm_q92_1 (Nat.le_of_ble_eq_true rfl)) rfl B11803 sf_k2 (by decide) (by decide) e11805 ?_
                        have q11865 := cl_in4 (n := rc11756) (Nat.le_trans h11764 (by decide)) (Int32.not_le.mp c11777) (cl_aux6 _ _ _ e11802 e11805) B11781 (by decide) (by decide)
                        refine pm_R_iald pm_M92 (pc_q := 192) (v := z11807) (pm_q92_1 (Nat.le_of_ble_eq_true rfl)) (T11857.im kq11776.2.2.1 (by decide) (by decide) eE11770) (T11857.al kq11776.2.2.1 (by decide)) q11865.1 ez11808 rfl ?_
                        refine pm_R_lo pm_M92 (pc_q := 194) (pm_q92_1 (Nat.le_of_ble_eq_true rfl)) rfl rfl ?_
                        refine pm_R_op pm_M92 (pc_q := 195) (st_q := [.int 1, .int x9_8826, .int z11807, .ref 33]) (pm_q92_1 (Nat.le_of_ble_eq_true rfl)) rfl rfl ?_
                        refine sf_R_iaddV pm_M92 (pc_q := 196) (pm_q92_1 (Nat.le_of_ble_eq_true rfl)) rfl B8829 sf_k1 (by decide) (by decide) e11784 ?_
                        refine pm_R_lo pm_M92 (pc_q := 197) (pm_q92_1 (Nat.le_of_ble_eq_true rfl)) rfl rfl ?_
                        refine pm_R_lo pm_M92 (pc_q := 199) (pm_q92_1 (Nat.le_of_ble_eq_true rfl)) rfl rfl ?_
                        refine pm_R_br pm_M92 (pc_q := 207) (st_q := [.int a2, .int z11783, .int z11807, .ref 33]) (pm_q92_1 (Nat.le_of_ble_eq_true rfl)) rfl ?_
                        refine pm_R_lo pm_M92 (pc_q := 209) (pm_q92_1 (Nat.le_of_ble_eq_true rfl)) rfl rfl ?_
                        refine pm_R_lo pm_M92 (pc_q := 211) (pm_q92_1 (Nat.le_of_ble_eq_true rfl)) rfl rfl ?_
                        refine sf_R_lremA pm_M92 (pc_q := 212) (pm_q92_1 (Nat.le_of_ble_eq_true rfl)) rfl k11834 (fun z11866 => ?_)
                        refine pm_R_lo pm_M92 (pc_q := 214) (pm_q92_1 (Nat.le_of_ble_eq_true rfl)) rfl rfl ?_
                        refine pm_R_op pm_M92 (pc_q := 215) (st_q := [.int 1, .int 1, .long z11866, .int a2, .int z11783, .int z11807, .ref 33]) (pm_q92_1 (Nat.le_of_ble_eq_true rfl)) rfl rfl ?_
                        refine pm_R_op pm_M92 (pc_q := 216) (st_q := [.int 2, .long z11866, .int a2, .int z11783, .int z11807, .ref 33]) (pm_q92_1 (Nat.le_of_ble_eq_true rfl)) rfl rfl ?_
                        refine pm_R_cv pm_M92 (pc_q := 219) (a := 33) (ra := [.int 2, .long z11866, .int a2, .int z11783, .int z11807]) (rest := []) (ls_q := [.ref 33, .int z11807, .int z11783, .int a2, .long z11866, pm_no, .int 2, pm_no, pm_no, pm_no, pm_no, pm_no, pm_no, pm_no, pm_no, pm_no, pm_no, pm_no]) (pm_q92_1 (Nat.le_of_ble_eq_true rfl)) rfl (Or.inl rfl) pm_M92 T11857.e33 rfl (by decide) (T11857.lt (by decide)) rfl rfl (Nat.le_of_ble_eq_true rfl) rfl rfl ?_
                        refine cl_c92_2 (d := d + 0) G T11857 B11809 (sf_weak B11785 (by decide) (by decide)) (sf_weak B20 (by decide) (by decide)) ol orr eE5 (Int32.lt_iff_toInt_lt.mpr (cl_aux15 _ _ _ _ e11784 (Int32.lt_iff_toInt_lt.mp (Int32.not_le.mp c8827)) (Int32.lt_iff_toInt_lt.mp P2))) P2 (fun r11867 m11869 h11870 T11871 F11872 W11873 => ?_)
                        have F11874 := F11860.trans (N := 0) (S := 0) F11872 (by decide) (by decide) (by decide)
                        have W11875 : rf_W [14, 15] m m11869 := W11861.trans W11873 (by decide)
                        show pm_R _ 92 219 [.ref 33, .int a0, .int a1, .int a2, .long a3, pm_no, .int 1, .long y7_11755, pm_no, .int x9_8826, .int x10_11755, .long z11814, pm_no, .long 0, pm_no, .int 0, .int r11853, pm_no] [.int r11867] _ _
                        refine pm_R_lo pm_M92 (pc_q := 221) (ls_q := [.ref 33, .int a0, .int a1, .int a2, .long a3, pm_no, .int 1, .long y7_11755, pm_no, .int x9_8826, .int x10_11755, .long z11814, pm_no, .long 0, pm_no, .int 0, .int r11853, .int r11867]) (st_q := []) (pm_q92_2 (Nat.le_of_ble_eq_true rfl)) rfl rfl ?_
                        refine pm_R_lo pm_M92 (pc_q := 222) (pm_q92_2 (Nat.le_of_ble_eq_true rfl)) rfl rfl ?_
                        refine pm_R_lo pm_M92 (pc_q := 224) (pm_q92_2 (Nat.le_of_ble_eq_true rfl)) rfl rfl ?_
                        refine cl_R_put33 G pm_M92 T11871 (k := 14) (pc_q := 227) (pm_q92_2 (Nat.le_of_ble_eq_true rfl)) rfl rfl (by decide) rfl rfl (sf_any _) rfl rfl rfl rfl rfl (fun h11876 m11879 em11880 T11877 F11878 => ?_)
                        have F11881 := F11878.cl (ck := ck) T11871.1
                        have F11882 := F11874.trans (N := 0) (S := 0) F11881 (by decide) (by decide) (by decide)
                        have B11883 : sf_B 0 9 (m11879 14) := by rw [em11880]; exact B11781
                        have ek11884 : (m11879 14).toInt = (x10_11755).toInt := by rw [em11880]; rfl
                        have W11885 : rf_W [14, 15] m m11879 := by rw [em11880]; exact W11875.put (by decide)
                        refine pm_R_lo pm_M92 (pc_q := 228) (pm_q92_2 (Nat.le_of_ble_eq_true rfl)) rfl rfl ?_
                        refine pm_R_lo pm_M92 (pc_q := 230) (pm_q92_2 (Nat.le_of_ble_eq_true rfl)) rfl rfl ?_
                        refine pm_R_op pm_M92 (pc_q := 231) (st_q := [.int 1, .int x9_8826, .ref 33]) (pm_q92_2 (Nat.le_of_ble_eq_true rfl)) rfl rfl ?_
                        refine sf_R_iaddV pm_M92 (pc_q := 232) (pm_q92_2 (Nat.le_of_ble_eq_true rfl)) rfl B8829 sf_k1 (by decide) (by decide) e11784 ?_
                        refine pm_R_lo pm_M92 (pc_q := 233) (pm_q92_2 (Nat.le_of_ble_eq_true rfl)) rfl rfl ?_
                        refine sf_R_isub pm_M92 (pc_q := 234) (pm_q92_2 (Nat.le_of_ble_eq_true rfl)) rfl B11785 B19 (by decide) (by decide) (fun z11886 e11887 B11888 => ?_)
                        refine cl_R_put33 G pm_M92 T11877 (k := 15) (pc_q := 237) (pm_q92_2 (Nat.le_of_ble_eq_true rfl)) rfl rfl (by decide) rfl rfl (sf_any _) rfl rfl rfl rfl rfl (fun h11889 m11892 em11893 T11890 F11891 => ?_)
                        have F11894 := F11891.cl (ck := ck) T11877.1
                        have F11895 := F11882.trans (N := 0) (S := 0) F11894 (by decide) (by decide) (by decide)
                        have B11896 : sf_B 0 9 (m11892 14) := by rw [em11893]; exact B11883
                        have ek11897 : (m11892 14).toInt = (x10_11755).toInt := by rw [em11893]; exact ek11884
                        have B11898 : sf_B (-9) 11 (m11892 15) := by rw [em11893]; exact B11888
                        have ek11899 : (m11892 15).toInt = (z11886).toInt := by rw [em11893]; rfl
                        have W11900 : rf_W [14, 15] m m11892 := by rw [em11893]; exact W11885.put (by decide)
                        refine pm_R_lo pm_M92 (pc_q := 238) (pm_q92_2 (Nat.le_of_ble_eq_true rfl)) rfl rfl ?_
                        refine pm_R_get pm_M92 (pc_q := 241) (v := .ref lo) (pm_q92_2 (Nat.le_of_ble_eq_true rfl)) rfl T11890.e33 (by decide) (T11890.lt (by decide)) (by show some (va_rf (o 1)) = _; rw [ol]; rfl) rfl ?_
                        refine pm_R_get pm_M92 (pc_q := 244) (v := .ref (lo + 3)) (pm_q92_2 (Nat.le_of_ble_eq_true rfl)) rfl (T11890.im hkl (by decide) (by decide) eE11767) (G.ge hkl (by decide)) (T11890.al hkl (by decide)) rfl rfl ?_
                        refine pm_R_lo pm_M92 (pc_q := 246) (pm_q92_2 (Nat.le_of_ble_eq_true rfl)) rfl rfl ?_
                        refine pm_R_op pm_M92 (pc_q := 247) (st_q := [.int 4, .int x10_11755, .ref (lo + 3)]) (pm_q92_2 (Nat.le_of_ble_eq_true rfl)) rfl rfl ?_
                        refine sf_R_imulV pm_M92 (pc_q := 248) (pm_q92_2 (Nat.le_of_ble_eq_true rfl)) rfl B11781 sf_k4 (by decide) (by decide) (by decide) e11802 ?_
                        refine pm_R_op pm_M92 (pc_q := 249) (st_q := [.int 3, .int z11801, .ref (lo + 3)]) (pm_q92_2 (Nat.le_of_ble_eq_true rfl)) rfl rfl ?_
                        refine sf_R_iadd pm_M92 (pc_q := 250) (pm_q92_2 (Nat.le_of_ble_eq_true rfl)) rfl B11803 sf_k3 (by decide) (by decide) (fun z11901 e11902 B11903 => ?_)
                        have q11907 := cl_in4 (n := rc11756) (Nat.le_trans h11764 (by decide)) (Int32.not_le.mp c11777) (cl_aux9 _ _ _ e11802 e11902) B11781 (by decide) (by decide)
                        obtain ⟨z11904, ez11905⟩ : ∃ y, fr11761 (Int32.toNatClampNeg z11901) = y := ⟨_, rfl⟩
                        refine pm_R_iald pm_M92 (pc_q := 251) (v := z11904) (pm_q92_2 (Nat.le_of_ble_eq_true rfl)) (T11890.im kq11776.2.2.1 (by decide) (by decide) eE11770) (T11890.al kq11776.2.2.1 (by decide)) q11907.1 ez11905 rfl ?_
                        refine pm_R_lo pm_M92 (pc_q := 253) (pm_q92_2 (Nat.le_of_ble_eq_true rfl)) rfl rfl ?_
                        refine pm_R_lo pm_M92 (pc_q := 255) (pm_q92_2 (Nat.le_of_ble_eq_true rfl)) rfl rfl ?_
                        refine pm_R_cs pm_M92 (pc_q := 258) (ra := [.int r11867, .int r11853, .int z11904]) (rest := []) (ls_q := [.int z11904, .int r11853, .int r11867]) (pm_q92_2 (Nat.le_of_ble_eq_true rfl)) rfl (Or.inr rfl) pm_M88 rfl rfl (Nat.le_of_ble_eq_true rfl) rfl rfl ?_
                        refine cl_c88_u (d := d + 13)  (fun r11908 => ?_)
                        show pm_R _ 92 258 [.ref 33, .int a0, .int a1, .int a2, .long a3, pm_no, .int 1, .long y7_11755, pm_no, .int x9_8826, .int x10_11755, .long z11814, pm_no, .long 0, pm_no, .int 0, .int r11853, .int r11867] [.int r11908] _ _
                        exact pm_R_ret pm_M92 (r := some (.int r11908)) (pm_q92_2 (Nat.le_of_ble_eq_true rfl)) (pm_ret_i _) (K r11908 m11892 h11889 T11890 F11895 W11900)
                      · have B11915 : sf_B 0 0 z11841 := sf_eqL (Classical.not_not.mp c11843) sf_k0
                        have B11916 : lf_B (-1) (-1) z11814 := lf_eqB e11842 B11915 (⟨by decide, by decide⟩ : lf_B (-1) (-1) (-1))
                        refine pm_R_op pm_M92 (pc_q := 130) (st_q := [.int 1]) (pm_q92_1 (Nat.le_of_ble_eq_true rfl)) rfl rfl ?_
                        refine pm_R_br pm_M92 (pc_q := 134) (pm_q92_1 (Nat.le_of_ble_eq_true rfl)) rfl ?_
                        refine pm_R_lo pm_M92 (pc_q := 136) (ls_q := [.ref 33, .int a0, .int a1, .int a2, .long a3, pm_no, .int 1, .long y7_11755, pm_no, .int x9_8826, .int x10_11755, .long z11814, pm_no, .long 0, pm_no, .int 1, pm_no, pm_no]) (st_q := []) (pm_q92_1 (Nat.le_of_ble_eq_true rfl)) rfl rfl ?_
                        refine pm_R_lo pm_M92 (pc_q := 137) (pm_q92_1 (Nat.le_of_ble_eq_true rfl)) rfl rfl ?_
                        refine pm_R_lo pm_M92 (pc_q := 138) (pm_q92_1 (Nat.le_of_ble_eq_true rfl)) rfl rfl ?_
                        refine pm_R_get pm_M92 (pc_q := 141) (v := .ref lo) (pm_q92_1 (Nat.le_of_ble_eq_true rfl)) rfl T.e33 (by decide) (T.lt (by decide)) (by show some (va_rf (o 1)) = _; rw [ol]; rfl) rfl ?_
                        refine pm_R_get pm_M92 (pc_q := 144) (v := .ref (lo + 3)) (pm_q92_1 (Nat.le_of_ble_eq_true rfl)) rfl (T.im hkl (by decide) (by decide) eE11767) (G.ge hkl (by decide)) (T.al hkl (by decide)) rfl rfl ?_
                        refine pm_R_lo pm_M92 (pc_q := 146) (pm_q92_1 (Nat.le_of_ble_eq_true rfl)) rfl rfl ?_
                        refine pm_R_op pm_M92 (pc_q := 147) (st_q := [.int 4, .int x10_11755, .ref (lo + 3), .ref 33]) (pm_q92_1 (Nat.le_of_ble_eq_true rfl)) rfl rfl ?_
                        refine sf_R_imulV pm_M92 (pc_q := 148) (pm_q92_1 (Nat.le_of_ble_eq_true rfl)) rfl B11781 sf_k4 (by decide) (by decide) (by decide) e11802 ?_
                        refine pm_R_op pm_M92 (pc_q := 149) (st_q := [.int 1, .int z11801, .ref (lo + 3), .ref 33]) (pm_q92_1 (Nat.le_of_ble_eq_true rfl)) rfl rfl ?_
                        refine sf_R_iadd pm_M92 (pc_q := 150) (pm_q92_1 (Nat.le_of_ble_eq_true rfl)) rfl B11803 sf_k1 (by decide) (by decide) (fun z11917 e11918 B11919 => ?_)
                        have q11923 := cl_in4 (n := rc11756) (Nat.le_trans h11764 (by decide)) (Int32.not_le.mp c11777) (cl_aux7 _ _ _ e11802 e11918) B11781 (by decide) (by decide)
                        obtain ⟨z11920, ez11921⟩ : ∃ y, fr11761 (Int32.toNatClampNeg z11917) = y := ⟨_, rfl⟩
                        have B11922 : sf_B 0 5 z11920 := ez11921 ▸ q11923.2.2 ▸ (b11773 _ q11923.2.1).2.1
                        refine pm_R_iald pm_M92 (pc_q := 151) (v := z11920) (pm_q92_1 (Nat.le_of_ble_eq_true rfl)) (T.im kq11776.2.2.1 (by decide) (by decide) eE11770) (T.al kq11776.2.2.1 (by decide)) q11923.1 ez11921 rfl ?_
                        refine pm_R_lo pm_M92 (pc_q := 152) (pm_q92_1 (Nat.le_of_ble_eq_true rfl)) rfl rfl ?_
                        refine pm_R_lo pm_M92 (pc_q := 154) (pm_q92_1 (Nat.le_of_ble_eq_true rfl)) rfl rfl ?_
                        refine pm_R_lo pm_M92 (pc_q := 156) (pm_q92_1 (Nat.le_of_ble_eq_true rfl)) rfl rfl ?_
                        refine pm_R_br pm_M92 (pc_q := 159) (st_q := [.int x9_8826, .int a1, .int z11920, .ref 33]) (pm_q92_1 (Nat.le_of_ble_eq_true rfl)) rfl ?_
                        refine pm_R_op pm_M92 (pc_q := 160) (st_q := [.long 0, .int x9_8826, .int a1, .int z11920, .ref 33]) (pm_q92_1 (Nat.le_of_ble_eq_true rfl)) rfl rfl ?_
                        refine pm_R_br pm_M92 (pc_q := 168) (pm_q92_1 (Nat.le_of_ble_eq_true rfl)) rfl ?_
                        refine pm_R_lo pm_M92 (pc_q := 170) (pm_q92_1 (Nat.le_of_ble_eq_true rfl)) rfl rfl ?_
                        refine pm_R_op pm_M92 (pc_q := 171) (st_q := [.int 1, .int 1, .long 0, .int x9_8826, .int a1, .int z11920, .ref 33]) (pm_q92_1 (Nat.le_of_ble_eq_true rfl)) rfl rfl ?_
                        refine pm_R_op pm_M92 (pc_q := 172) (st_q := [.int 2, .long 0, .int x9_8826, .int a1, .int z11920, .ref 33]) (pm_q92_1 (Nat.le_of_ble_eq_true rfl)) rfl rfl ?_
                        refine pm_R_cv pm_M92 (pc_q := 175) (a := 33) (ra := [.int 2, .long 0, .int x9_8826, .int a1, .int z11920]) (rest := []) (ls_q := [.ref 33, .int z11920, .int a1, .int x9_8826, .long 0, pm_no, .int 2, pm_no, pm_no, pm_no, pm_no, pm_no, pm_no, pm_no, pm_no, pm_no, pm_no, pm_no]) (pm_q92_1 (Nat.le_of_ble_eq_true rfl)) rfl (Or.inl rfl) pm_M92 T.e33 rfl (by decide) (T.lt (by decide)) rfl rfl (Nat.le_of_ble_eq_true rfl) rfl rfl ?_
                        refine cl_c92_2 (d := d + 0) G T B11922 (sf_weak B19 (by decide) (by decide)) (sf_weak B8829 (by decide) (by decide)) ol orr eE5 P1 (Int32.lt_iff_toInt_lt.mpr (cl_aux14 _ _ _ (Int32.lt_iff_toInt_lt.mp (Int32.not_le.mp c8827)) (Int32.lt_iff_toInt_lt.mp P2))) (fun r11924 m11926 h11927 T11928 F11929 W11930 => ?_)
                        have F11931 := (cl_F.refl (ck := ck) (A := [33, 35]) (n := 0) (s := 0) T.1).trans (N := 0) (S := 0) F11929 (by decide) (by decide) (by decide)
                        have W11932 : rf_W [14, 15] m m11926 := (rf_W.refl [14, 15] m).trans W11930 (by decide)
                        show pm_R _ 92 175 [.ref 33, .int a0, .int a1, .int a2, .long a3, pm_no, .int 1, .long y7_11755, pm_no, .int x9_8826, .int x10_11755, .long z11814, pm_no, .long 0, pm_no, .int 1, pm_no, pm_no] [.int r11924] _ _
                        refine pm_R_lo pm_M92 (pc_q := 177) (ls_q := [.ref 33, .int a0, .int a1, .int a2, .long a3, pm_no, .int 1, .long y7_11755, pm_no, .int x9_8826, .int x10_11755, .long z11814, pm_no, .long 0, pm_no, .int 1, .int r11924, pm_no]) (st_q := []) (pm_q92_1 (Nat.le_of_ble_eq_true rfl)) rfl rfl ?_
                        refine pm_R_lo pm_M92 (pc_q := 178) (pm_q92_1 (Nat.le_of_ble_eq_true rfl)) rfl rfl ?_
                        refine pm_R_lo pm_M92 (pc_q := 179) (pm_q92_1 (Nat.le_of_ble_eq_true rfl)) rfl rfl ?_
                        refine pm_R_get pm_M92 (pc_q := 182) (v := .ref lo) (pm_q92_1 (Nat.le_of_ble_eq_true rfl)) rfl T11928.e33 (by decide) (T11928.lt (by decide)) (by show some (va_rf (o 1)) = _; rw [ol]; rfl) rfl ?_
                        refine pm_R_get pm_M92 (pc_q := 185) (v := .ref (lo + 3)) (pm_q92_1 (Nat.le_of_ble_eq_true rfl)) rfl (T11928.im hkl (by decide) (by decide) eE11767) (G.ge hkl (by decide)) (T11928.al hkl (by decide)) rfl rfl ?_
                        refine pm_R_lo pm_M92 (pc_q := 187) (pm_q92_1 (Nat.le_of_ble_eq_true rfl)) rfl rfl ?_
                        refine pm_R_op pm_M92 (pc_q := 188) (st_q := [.int 4, .int x10_11755, .ref (lo + 3), .ref 33]) (pm_q92_1 (Nat.le_of_ble_eq_true rfl)) rfl rfl ?_
                        refine sf_R_imulV pm_M92 (pc_q := 189) (pm_q92_1 (Nat.le_of_ble_eq_true rfl)) rfl B11781 sf_k4 (by decide) (by decide) (by decide) e11802 ?_
                        refine pm_R_op pm_M92 (pc_q := 190) (st_q := [.int 2, .int z11801, .ref (lo + 3), .ref 33]) (pm_q92_1 (Nat.le_of_ble_eq_true rfl)) rfl rfl ?_
                        refine sf_R_iaddV pm_M92 (pc_q := 191) (pm_q92_1 (Nat.le_of_ble_eq_true rfl)) rfl B11803 sf_k2 (by decide) (by decide) e11805 ?_
                        have q11936 := cl_in4 (n := rc11756) (Nat.le_trans h11764 (by decide)) (Int32.not_le.mp c11777) (cl_aux6 _ _ _ e11802 e11805) B11781 (by decide) (by decide)
                        refine pm_R_iald pm_M92 (pc_q := 192) (v := z11807) (pm_q92_1 (Nat.le_of_ble_eq_true rfl)) (T11928.im kq11776.2.2.1 (by decide) (by decide) eE11770) (T11928.al kq11776.2.2.1 (by decide)) q11936.1 ez11808 rfl ?_
                        refine pm_R_lo pm_M92 (pc_q := 194) (pm_q92_1 (Nat.le_of_ble_eq_true rfl)) rfl rfl ?_
                        refine pm_R_op pm_M92 (pc_q := 195) (st_q := [.int 1, .int x9_8826, .int z11807, .ref 33]) (pm_q92_1 (Nat.le_of_ble_eq_true rfl)) rfl rfl ?_
                        refine sf_R_iaddV pm_M92 (pc_q := 196) (pm_q92_1 (Nat.le_of_ble_eq_true rfl)) rfl B8829 sf_k1 (by decide) (by decide) e11784 ?_
                        refine pm_R_lo pm_M92 (pc_q := 197) (pm_q92_1 (Nat.le_of_ble_eq_true rfl)) rfl rfl ?_
                        refine pm_R_lo pm_M92 (pc_q := 199) (pm_q92_1 (Nat.le_of_ble_eq_true rfl)) rfl rfl ?_
                        refine pm_R_br pm_M92 (pc_q := 202) (st_q := [.int a2, .int z11783, .int z11807, .ref 33]) (pm_q92_1 (Nat.le_of_ble_eq_true rfl)) rfl ?_
                        refine pm_R_lo pm_M92 (pc_q := 204) (pm_q92_1 (Nat.le_of_ble_eq_true rfl)) rfl rfl ?_
                        refine pm_R_br pm_M92 (pc_q := 212) (pm_q92_1 (Nat.le_of_ble_eq_true rfl)) rfl ?_
                        refine pm_R_lo pm_M92 (pc_q := 214) (pm_q92_1 (Nat.le_of_ble_eq_true rfl)) rfl rfl ?_
                        refine pm_R_op pm_M92 (pc_q := 215) (st_q := [.int 1, .int 1, .long y7_11755, .int a2, .int z11783, .int z11807, .ref 33]) (pm_q92_1 (Nat.le_of_ble_eq_true rfl)) rfl rfl ?_
                        refine pm_R_op pm_M92 (pc_q := 216) (st_q := [.int 2, .long y7_11755, .int a2, .int z11783, .int z11807, .ref 33]) (pm_q92_1 (Nat.le_of_ble_eq_true rfl)) rfl rfl ?_
                        refine pm_R_cv pm_M92 (pc_q := 219) (a := 33) (ra := [.int 2, .long y7_11755, .int a2, .int z11783, .int z11807]) (rest := []) (ls_q := [.ref 33, .int z11807, .int z11783, .int a2, .long y7_11755, pm_no, .int 2, pm_no, pm_no, pm_no, pm_no, pm_no, pm_no, pm_no, pm_no, pm_no, pm_no, pm_no]) (pm_q92_1 (Nat.le_of_ble_eq_true rfl)) rfl (Or.inl rfl) pm_M92 T11928.e33 rfl (by decide) (T11928.lt (by decide)) rfl rfl (Nat.le_of_ble_eq_true rfl) rfl rfl ?_
                        refine cl_c92_2 (d := d + 0) G T11928 B11809 (sf_weak B11785 (by decide) (by decide)) (sf_weak B20 (by decide) (by decide)) ol orr eE5 (Int32.lt_iff_toInt_lt.mpr (cl_aux15 _ _ _ _ e11784 (Int32.lt_iff_toInt_lt.mp (Int32.not_le.mp c8827)) (Int32.lt_iff_toInt_lt.mp P2))) P2 (fun r11937 m11939 h11940 T11941 F11942 W11943 => ?_)
                        have F11944 := F11931.trans (N := 0) (S := 0) F11942 (by decide) (by decide) (by decide)
                        have W11945 : rf_W [14, 15] m m11939 := W11932.trans W11943 (by decide)
                        show pm_R _ 92 219 [.ref 33, .int a0, .int a1, .int a2, .long a3, pm_no, .int 1, .long y7_11755, pm_no, .int x9_8826, .int x10_11755, .long z11814, pm_no, .long 0, pm_no, .int 1, .int r11924, pm_no] [.int r11937] _ _
                        refine pm_R_lo pm_M92 (pc_q := 221) (ls_q := [.ref 33, .int a0, .int a1, .int a2, .long a3, pm_no, .int 1, .long y7_11755, pm_no, .int x9_8826, .int x10_11755, .long z11814, pm_no, .long 0, pm_no, .int 1, .int r11924, .int r11937]) (st_q := []) (pm_q92_2 (Nat.le_of_ble_eq_true rfl)) rfl rfl ?_
                        refine pm_R_lo pm_M92 (pc_q := 222) (pm_q92_2 (Nat.le_of_ble_eq_true rfl)) rfl rfl ?_
                        refine pm_R_lo pm_M92 (pc_q := 224) (pm_q92_2 (Nat.le_of_ble_eq_true rfl)) rfl rfl ?_
                        refine cl_R_put33 G pm_M92 T11941 (k := 14) (pc_q := 227) (pm_q92_2 (Nat.le_of_ble_eq_true rfl)) rfl rfl (by decide) rfl rfl (sf_any _) rfl rfl rfl rfl rfl (fun h11946 m11949 em11950 T11947 F11948 => ?_)
                        have F11951 := F11948.cl (ck := ck) T11941.1
                        have F11952 := F11944.trans (N := 0) (S := 0) F11951 (by decide) (by decide) (by decide)
                        have B11953 : sf_B 0 9 (m11949 14) := by rw [em11950]; exact B11781
                        have ek11954 : (m11949 14).toInt = (x10_11755).toInt := by rw [em11950]; rfl
                        have W11955 : rf_W [14, 15] m m11949 := by rw [em11950]; exact W11945.put (by decide)
                        refine pm_R_lo pm_M92 (pc_q := 228) (pm_q92_2 (Nat.le_of_ble_eq_true rfl)) rfl rfl ?_
                        refine pm_R_lo pm_M92 (pc_q := 230) (pm_q92_2 (Nat.le_of_ble_eq_true rfl)) rfl rfl ?_
                        refine pm_R_op pm_M92 (pc_q := 231) (st_q := [.int 1, .int x9_8826, .ref 33]) (pm_q92_2 (Nat.le_of_ble_eq_true rfl)) rfl rfl ?_
                        refine sf_R_iaddV pm_M92 (pc_q := 232) (pm_q92_2 (Nat.le_of_ble_eq_true rfl)) rfl B8829 sf_k1 (by decide) (by decide) e11784 ?_
                        refine pm_R_lo pm_M92 (pc_q := 233) (pm_q92_2 (Nat.le_of_ble_eq_true rfl)) rfl rfl ?_
                        refine sf_R_isub pm_M92 (pc_q := 234) (pm_q92_2 (Nat.le_of_ble_eq_true rfl)) rfl B11785 B19 (by decide) (by decide) (fun z11956 e11957 B11958 => ?_)
                        refine cl_R_put33 G pm_M92 T11947 (k := 15) (pc_q := 237) (pm_q92_2 (Nat.le_of_ble_eq_true rfl)) rfl rfl (by decide) rfl rfl (sf_any _) rfl rfl rfl rfl rfl (fun h11959 m11962 em11963 T11960 F11961 => ?_)
                        have F11964 := F11961.cl (ck := ck) T11947.1
                        have F11965 := F11952.trans (N := 0) (S := 0) F11964 (by decide) (by decide) (by decide)
                        have B11966 : sf_B 0 9 (m11962 14) := by rw [em11963]; exact B11953
                        have ek11967 : (m11962 14).toInt = (x10_11755).toInt := by rw [em11963]; exact ek11954
                        have B11968 : sf_B (-9) 11 (m11962 15) := by rw [em11963]; exact B11958
                        have ek11969 : (m11962 15).toInt = (z11956).toInt := by rw [em11963]; rfl
                        have W11970 : rf_W [14, 15] m m11962 := by rw [em11963]; exact W11955.put (by decide)
                        refine pm_R_lo pm_M92 (pc_q := 238) (pm_q92_2 (Nat.le_of_ble_eq_true rfl)) rfl rfl ?_
                        refine pm_R_get pm_M92 (pc_q := 241) (v := .ref lo) (pm_q92_2 (Nat.le_of_ble_eq_true rfl)) rfl T11960.e33 (by decide) (T11960.lt (by decide)) (by show some (va_rf (o 1)) = _; rw [ol]; rfl) rfl ?_
                        refine pm_R_get pm_M92 (pc_q := 244) (v := .ref (lo + 3)) (pm_q92_2 (Nat.le_of_ble_eq_true rfl)) rfl (T11960.im hkl (by decide) (by decide) eE11767) (G.ge hkl (by decide)) (T11960.al hkl (by decide)) rfl rfl ?_
                        refine pm_R_lo pm_M92 (pc_q := 246) (pm_q92_2 (Nat.le_of_ble_eq_true rfl)) rfl rfl ?_
                        refine pm_R_op pm_M92 (pc_q := 247) (st_q := [.int 4, .int x10_11755, .ref (lo + 3)]) (pm_q92_2 (Nat.le_of_ble_eq_true rfl)) rfl rfl ?_
                        refine sf_R_imulV pm_M92 (pc_q := 248) (pm_q92_2 (Nat.le_of_ble_eq_true rfl)) rfl B11781 sf_k4 (by decide) (by decide) (by decide) e11802 ?_
                        refine pm_R_op pm_M92 (pc_q := 249) (st_q := [.int 3, .int z11801, .ref (lo + 3)]) (pm_q92_2 (Nat.le_of_ble_eq_true rfl)) rfl rfl ?_
                        refine sf_R_iadd pm_M92 (pc_q := 250) (pm_q92_2 (Nat.le_of_ble_eq_true rfl)) rfl B11803 sf_k3 (by decide) (by decide) (fun z11971 e11972 B11973 => ?_)
                        have q11977 := cl_in4 (n := rc11756) (Nat.le_trans h11764 (by decide)) (Int32.not_le.mp c11777) (cl_aux9 _ _ _ e11802 e11972) B11781 (by decide) (by decide)
                        obtain ⟨z11974, ez11975⟩ : ∃ y, fr11761 (Int32.toNatClampNeg z11971) = y := ⟨_, rfl⟩
                        refine pm_R_iald pm_M92 (pc_q := 251) (v := z11974) (pm_q92_2 (Nat.le_of_ble_eq_true rfl)) (T11960.im kq11776.2.2.1 (by decide) (by decide) eE11770) (T11960.al kq11776.2.2.1 (by decide)) q11977.1 ez11975 rfl ?_
                        refine pm_R_lo pm_M92 (pc_q := 253) (pm_q92_2 (Nat.le_of_ble_eq_true rfl)) rfl rfl ?_
                        refine pm_R_lo pm_M92 (pc_q := 255) (pm_q92_2 (Nat.le_of_ble_eq_true rfl)) rfl rfl ?_
                        refine pm_R_cs pm_M92 (pc_q := 258) (ra := [.int r11937, .int r11924, .int z11974]) (rest := []) (ls_q := [.int z11974, .int r11924, .int r11937]) (pm_q92_2 (Nat.le_of_ble_eq_true rfl)) rfl (Or.inr rfl) pm_M88 rfl rfl (Nat.le_of_ble_eq_true rfl) rfl rfl ?_
                        refine cl_c88_u (d := d + 13)  (fun r11978 => ?_)
                        show pm_R _ 92 258 [.ref 33, .int a0, .int a1, .int a2, .long a3, pm_no, .int 1, .long y7_11755, pm_no, .int x9_8826, .int x10_11755, .long z11814, pm_no, .long 0, pm_no, .int 1, .int r11924, .int r11937] [.int r11978] _ _
                        exact pm_R_ret pm_M92 (r := some (.int r11978)) (pm_q92_2 (Nat.le_of_ble_eq_true rfl)) (pm_ret_i _) (K r11978 m11962 h11959 T11960 F11965 W11970)
                    · have B11985 : sf_B 0 2147483647 z11835 := sf_leR (Int32.not_lt.mp c11837) sf_k0 (sf_any z11835)
                      have k11986 := lf_ge e11836 B11985 (by decide)
                      have B11987 : lf_B 0 9223372036854775807 y7_11755 := lf_geB k11986 (⟨by decide, by decide⟩ : lf_B 0 0 0) (lf_any _)
                      refine pm_R_lo pm_M92 (pc_q := 113) rfl rfl rfl ?_
                      refine pm_R_ldc2 pm_M92 (pc_q := 116) (pm_q92_1 (Nat.le_of_ble_eq_true rfl)) rfl rfl ?_
                      refine sf_R_lcmp pm_M92 (pc_q := 117) (pm_q92_1 (Nat.le_of_ble_eq_true rfl)) rfl (fun z11988 e11989 => ?_)
                      have B11990 : sf_B 1 2147483647 z11988 := lf_cmpGt e11989 (⟨by decide, by decide⟩ : lf_B 0 0 0) (⟨by decide, by decide⟩ : lf_B (-1) (-1) (-1)) (by decide)
                      refine pm_R_ifc pm_M92 (t := 259) (pc_q := 120) (pm_q92_1 (Nat.le_of_ble_eq_true rfl)) rfl rfl (fun c11991 => ?_) (fun c11991 => absurd (Classical.not_not.mp c11991) (sf_neq1 B11990 sf_k0 (by decide)))
                      have k11992 := sf_lneC e11989 c11991
                      refine pm_R_lo pm_M92 (pc_q := 261) (pm_q92_2 (Nat.le_of_ble_eq_true rfl)) rfl rfl ?_
                      refine pm_R_lo pm_M92 (pc_q := 263) (pm_q92_2 (Nat.le_of_ble_eq_true rfl)) rfl rfl ?_
                      refine sf_R_lsubN pm_M92 (pc_q := 264) (pm_q92_2 (Nat.le_of_ble_eq_true rfl)) rfl B11987 (⟨by decide, by decide⟩ : lf_B 0 0 0) (by decide) k11986 (fun z11993 e11994 B11995 => ?_)
                      refine pm_R_lo pm_M92 (pc_q := 266) (ls_q := [.ref 33, .int a0, .int a1, .int a2, .long a3, pm_no, .int 1, .long z11993, pm_no, .int x9_8826, .int x10_11755, .long z11814, pm_no, .long 0, pm_no, pm_no, pm_no, pm_no]) (st_q := []) (pm_q92_2 (Nat.le_of_ble_eq_true rfl)) rfl rfl ?_
                      refine sf_R_iinc pm_M92 (pc_q := 269) (ls_q := fun z => [.ref 33, .int a0, .int a1, .int a2, .long a3, pm_no, .int 1, .long z11993, pm_no, .int x9_8826, .int z, .long z11814, pm_no, .long 0, pm_no, pm_no, pm_no, pm_no]) (pm_q92_2 (Nat.le_of_ble_eq_true rfl)) B11781 rfl (by decide) (by decide) (by decide) (fun _ => rfl) rfl (fun z11996 e11997 B11998 => ?_)
                      show pm_R _ 92 269 [.ref 33, .int a0, .int a1, .int a2, .long a3, pm_no, .int 1, .long z11993, pm_no, .int x9_8826, .int z11996, .long z11814, pm_no, .long 0, pm_no, pm_no, pm_no, pm_no] [] _ _
                      refine pm_R_br pm_M92 (pc_q := 37) (pm_q92_2 (Nat.le_of_ble_eq_true rfl)) rfl ?_
                      exact ih_11755 _ (sf_up hN_11755 e11997 B11781 (by decide) (by decide)) z11996 z11993 (.long z11814) (pm_no) (.long 0) (pm_no) (sf_weak B11998 (by decide) (by decide)) rfl rfl rfl
                · refine pm_R_lo pm_M92 (pc_q := 77) rfl rfl rfl ?_
                  refine pm_R_lo pm_M92 (pc_q := 79) rfl rfl rfl ?_
                  refine pm_R_lo pm_M92 (pc_q := 80) rfl rfl rfl ?_
                  refine pm_R_lo pm_M92 (pc_q := 82) rfl rfl rfl ?_
                  refine pm_R_cv pm_M92 (pc_q := 85) (a := 33) (ra := [.int x9_8826, .int a1, .int x10_11755]) (rest := []) (ls_q := [.ref 33, .int x10_11755, .int a1, .int x9_8826]) rfl rfl (Or.inl rfl) pm_M75 T.e33 rfl (by decide) (T.lt (by decide)) rfl rfl (Nat.le_of_ble_eq_true rfl) rfl rfl ?_
                  refine pm_R_lo pm_M75 (pc_q := 1) rfl rfl rfl ?_
                  refine pm_R_get pm_M75 (pc_q := 4) (v := .ref 34) rfl rfl T.e33 (by decide) (T.lt (by decide)) rfl rfl ?_
                  refine pm_R_lo pm_M75 (pc_q := 5) rfl rfl rfl ?_
                  refine pm_R_lo pm_M75 (pc_q := 6) rfl rfl rfl ?_
                  refine pm_R_cs pm_M75 (pc_q := 9) (ra := [.int x9_8826, .int a1]) (rest := [.ref 34]) (ls_q := [.int a1, .int x9_8826]) rfl rfl (Or.inr rfl) pm_M73 rfl rfl (Nat.le_of_ble_eq_true rfl) rfl rfl ?_
                  refine pm_R_lo pm_M73 (pc_q := 1) rfl rfl rfl ?_
                  refine pm_R_lo pm_M73 (pc_q := 2) rfl rfl rfl ?_
                  refine pm_R_op pm_M73 (pc_q := 3) (st_q := [.int 1, .int x9_8826, .int x9_8826]) rfl rfl rfl ?_
                  refine sf_R_iaddV pm_M73 (pc_q := 4) rfl rfl B8829 sf_k1 (by decide) (by decide) e11784 ?_
                  refine sf_R_imul pm_M73 (pc_q := 5) rfl rfl B8829 B11785 (by decide) (by decide) (by decide) (fun z11999 e12000 B12001 => ?_)
                  refine pm_R_op pm_M73 (pc_q := 6) (st_q := [.int 2, .int z11999]) rfl rfl rfl ?_
                  refine sf_R_idiv pm_M73 (pc_q := 7) rfl rfl B12001 sf_k2 (by decide) (by decide) (fun z12002 e12003 B12004 => ?_)
                  refine pm_R_lo pm_M73 (pc_q := 8) rfl rfl rfl ?_
                  refine sf_R_iadd pm_M73 (pc_q := 9) rfl rfl B12004 B19 (by decide) (by decide) (fun z12005 e12006 B12007 => ?_)
                  refine pm_R_ret pm_M73 (r := some (.int z12005)) rfl (pm_ret_i _) ?_
                  show pm_R _ 75 9 [.ref 33, .int x10_11755, .int a1, .int x9_8826] [.int z12005, .ref 34] _ _
                  refine pm_R_op pm_M75 (pc_q := 11) (st_q := [.int 6, .int z12005, .ref 34]) rfl rfl rfl ?_
                  refine sf_R_imul pm_M75 (pc_q := 12) rfl rfl B12007 sf_k6 (by decide) (by decide) (by decide) (fun z12008 e12009 B12010 => ?_)
                  refine pm_R_lo pm_M75 (pc_q := 13) rfl rfl rfl ?_
                  refine pm_R_get pm_M75 (pc_q := 16) (v := .ref lo) rfl rfl T.e33 (by decide) (T.lt (by decide)) (by show some (va_rf (o 1)) = _; rw [ol]; rfl) rfl ?_
                  refine pm_R_get pm_M75 (pc_q := 19) (v := .ref (lo + 3)) rfl rfl (T.im hkl (by decide) (by decide) eE11767) (G.ge hkl (by decide)) (T.al hkl (by decide)) rfl rfl ?_
                  refine pm_R_lo pm_M75 (pc_q := 20) rfl rfl rfl ?_
                  refine pm_R_op pm_M75 (pc_q := 21) (st_q := [.int 4, .int x10_11755, .ref (lo + 3), .int z12008, .ref 34]) rfl rfl rfl ?_
                  refine sf_R_imulV pm_M75 (pc_q := 22) rfl rfl B11781 sf_k4 (by decide) (by decide) (by decide) e11802 ?_
                  refine pm_R_op pm_M75 (pc_q := 23) (st_q := [.int 1, .int z11801, .ref (lo + 3), .int z12008, .ref 34]) rfl rfl rfl ?_
                  refine sf_R_iadd pm_M75 (pc_q := 24) rfl rfl B11803 sf_k1 (by decide) (by decide) (fun z12011 e12012 B12013 => ?_)
                  have q12017 := cl_in4 (n := rc11756) (Nat.le_trans h11764 (by decide)) (Int32.not_le.mp c11777) (cl_aux7 _ _ _ e11802 e12012) B11781 (by decide) (by decide)
                  obtain ⟨z12014, ez12015⟩ : ∃ y, fr11761 (Int32.toNatClampNeg z12011) = y := ⟨_, rfl⟩
                  have B12016 : sf_B 0 5 z12014 := ez12015 ▸ q12017.2.2 ▸ (b11773 _ q12017.2.1).2.1
                  refine pm_R_iald pm_M75 (pc_q := 25) (v := z12014) rfl (T.im kq11776.2.2.1 (by decide) (by decide) eE11770) (T.al kq11776.2.2.1 (by decide)) q12017.1 ez12015 rfl ?_
                  refine sf_R_iadd pm_M75 (pc_q := 26) rfl rfl B12010 B12016 (by decide) (by decide) (fun z12018 e12019 B12020 => ?_)
                  obtain ⟨z12021, ez12022⟩ : ∃ y, f11817 (Int32.toNatClampNeg z12018) = y := ⟨_, rfl⟩
                  refine pm_R_lald pm_M75 (pc_q := 27) (v := z12021) rfl e11818 (by decide) (T.lt (by decide)) (sf_in B12020 (by decide) (by decide)) ez12022 rfl ?_
                  refine pm_R_ret pm_M75 (r := some (.long z12021)) rfl rfl ?_
                  show pm_R _ 92 85 [.ref 33, .int a0, .int a1, .int a2, .long a3, pm_no, .int 1, .long y7_11755, pm_no, .int x9_8826, .int x10_11755, .long z11814, pm_no, g13_11755, g14_11755, pm_no, pm_no, pm_no] [.long z12021] _ _
                  refine pm_R_lo pm_M92 (pc_q := 87) rfl rfl rfl ?_
                  refine pm_R_cs pm_M92 (pc_q := 90) (ra := [.long z11814, .long z12021]) (rest := []) (ls_q := [.long z12021, pm_no, .long z11814, pm_no]) rfl rfl (Or.inr rfl) pm_M77 rfl rfl (Nat.le_of_ble_eq_true rfl) rfl rfl ?_
                  refine cl_c77 (d := d + 13)  (fun r12024 => ?_)
                  show pm_R _ 92 90 [.ref 33, .int a0, .int a1, .int a2, .long a3, pm_no, .int 1, .long y7_11755, pm_no, .int x9_8826, .int x10_11755, .long z11814, pm_no, g13_11755, g14_11755, pm_no, pm_no, pm_no] [.long r12024] _ _
                  refine pm_R_br pm_M92 (pc_q := 94) rfl rfl ?_
                  refine pm_R_lo pm_M92 (pc_q := 96) (ls_q := [.ref 33, .int a0, .int a1, .int a2, .long a3, pm_no, .int 1, .long y7_11755, pm_no, .int x9_8826, .int x10_11755, .long z11814, pm_no, .long r12024, pm_no, pm_no, pm_no, pm_no]) (st_q := []) rfl rfl rfl ?_
                  refine pm_R_lo pm_M92 (pc_q := 98) rfl rfl rfl ?_
                  refine pm_R_op pm_M92 (pc_q := 99) (st_q := [.long 0, .long z11814]) rfl rfl rfl ?_
                  refine sf_R_lcmp pm_M92 (pc_q := 100) rfl rfl (fun z12031 e12032 => ?_)
                  refine pm_R_ifc pm_M92 (t := 259) (pc_q := 103) rfl rfl rfl (fun c12033 => ?_) (fun c12033 => ?_)
                  · have B12034 : sf_B 0 0 z12031 := sf_eqL c12033 sf_k0
                    have B12035 : lf_B 0 0 z11814 := lf_eqB e12032 B12034 (⟨by decide, by decide⟩ : lf_B 0 0 0)
                    refine pm_R_lo pm_M92 (pc_q := 261) (pm_q92_2 (Nat.le_of_ble_eq_true rfl)) rfl rfl ?_
                    refine pm_R_lo pm_M92 (pc_q := 263) (pm_q92_2 (Nat.le_of_ble_eq_true rfl)) rfl rfl ?_
                    refine sf_R_lany pm_M92 (pc_q := 264) (st := []) (pm_q92_2 (Nat.le_of_ble_eq_true rfl)) rfl rfl (fun z12036 => ?_)
                    refine pm_R_lo pm_M92 (pc_q := 266) (ls_q := [.ref 33, .int a0, .int a1, .int a2, .long a3, pm_no, .int 1, .long z12036, pm_no, .int x9_8826, .int x10_11755, .long z11814, pm_no, .long r12024, pm_no, pm_no, pm_no, pm_no]) (st_q := []) (pm_q92_2 (Nat.le_of_ble_eq_true rfl)) rfl rfl ?_
                    refine sf_R_iinc pm_M92 (pc_q := 269) (ls_q := fun z => [.ref 33, .int a0, .int a1, .int a2, .long a3, pm_no, .int 1, .long z12036, pm_no, .int x9_8826, .int z, .long z11814, pm_no, .long r12024, pm_no, pm_no, pm_no, pm_no]) (pm_q92_2 (Nat.le_of_ble_eq_true rfl)) B11781 rfl (by decide) (by decide) (by decide) (fun _ => rfl) rfl (fun z12037 e12038 B12039 => ?_)
                    show pm_R _ 92 269 [.ref 33, .int a0, .int a1, .int a2, .long a3, pm_no, .int 1, .long z12036, pm_no, .int x9_8826, .int z12037, .long z11814, pm_no, .long r12024, pm_no, pm_no, pm_no, pm_no] [] _ _
                    refine pm_R_br pm_M92 (pc_q := 37) (pm_q92_2 (Nat.le_of_ble_eq_true rfl)) rfl ?_
                    exact ih_11755 _ (sf_up hN_11755 e12038 B11781 (by decide) (by decide)) z12037 z12036 (.long z11814) (pm_no) (.long r12024) (pm_no) (sf_weak B12039 (by decide) (by decide)) rfl rfl rfl
                  · have k12040 := sf_lneC e12032 c12033
                    refine pm_R_lo pm_M92 (pc_q := 105) rfl rfl rfl ?_
                    refine pm_R_lo pm_M92 (pc_q := 107) rfl rfl rfl ?_
                    refine sf_R_lcmp pm_M92 (pc_q := 108) rfl rfl (fun z12041 e12042 => ?_)
                    refine pm_R_ifc pm_M92 (t := 120) (pc_q := 111) rfl rfl rfl (fun c12043 => ?_) (fun c12043 => ?_)
                    · have B12044 : sf_B (-2147483648) (-1) z12041 := sf_ltL c12043 (sf_any z12041) sf_k0
                      have k12045 := lf_lt e12042 B12044 (by decide)
                      have k12046 := sf_lneB e12042 B12044 (by decide)
                      refine pm_R_lo pm_M92 (pc_q := 122) (pm_q92_1 (Nat.le_of_ble_eq_true rfl)) rfl rfl ?_
                      refine pm_R_ldc2 pm_M92 (pc_q := 125) (pm_q92_1 (Nat.le_of_ble_eq_true rfl)) rfl rfl ?_
                      refine sf_R_lcmp pm_M92 (pc_q := 126) (pm_q92_1 (Nat.le_of_ble_eq_true rfl)) rfl (fun z12047 e12048 => ?_)
                      refine pm_R_ifc pm_M92 (t := 133) (pc_q := 129) (pm_q92_1 (Nat.le_of_ble_eq_true rfl)) rfl rfl (fun c12049 => ?_) (fun c12049 => ?_)
                      · have k12050 := sf_lneC e12048 c12049
                        refine pm_R_op pm_M92 (pc_q := 134) (st_q := [.int 0]) (pm_q92_1 (Nat.le_of_ble_eq_true rfl)) rfl rfl ?_
                        refine pm_R_lo pm_M92 (pc_q := 136) (ls_q := [.ref 33, .int a0, .int a1, .int a2, .long a3, pm_no, .int 1, .long y7_11755, pm_no, .int x9_8826, .int x10_11755, .long z11814, pm_no, .long r12024, pm_no, .int 0, pm_no, pm_no]) (st_q := []) (pm_q92_1 (Nat.le_of_ble_eq_true rfl)) rfl rfl ?_
                        refine pm_R_lo pm_M92 (pc_q := 137) (pm_q92_1 (Nat.le_of_ble_eq_true rfl)) rfl rfl ?_
                        refine pm_R_lo pm_M92 (pc_q := 138) (pm_q92_1 (Nat.le_of_ble_eq_true rfl)) rfl rfl ?_
                        refine pm_R_get pm_M92 (pc_q := 141) (v := .ref lo) (pm_q92_1 (Nat.le_of_ble_eq_true rfl)) rfl T.e33 (by decide) (T.lt (by decide)) (by show some (va_rf (o 1)) = _; rw [ol]; rfl) rfl ?_
                        refine pm_R_get pm_M92 (pc_q := 144) (v := .ref (lo + 3)) (pm_q92_1 (Nat.le_of_ble_eq_true rfl)) rfl (T.im hkl (by decide) (by decide) eE11767) (G.ge hkl (by decide)) (T.al hkl (by decide)) rfl rfl ?_
                        refine pm_R_lo pm_M92 (pc_q := 146) (pm_q92_1 (Nat.le_of_ble_eq_true rfl)) rfl rfl ?_
                        refine pm_R_op pm_M92 (pc_q := 147) (st_q := [.int 4, .int x10_11755, .ref (lo + 3), .ref 33]) (pm_q92_1 (Nat.le_of_ble_eq_true rfl)) rfl rfl ?_
                        refine sf_R_imulV pm_M92 (pc_q := 148) (pm_q92_1 (Nat.le_of_ble_eq_true rfl)) rfl B11781 sf_k4 (by decide) (by decide) (by decide) e11802 ?_
                        refine pm_R_op pm_M92 (pc_q := 149) (st_q := [.int 1, .int z11801, .ref (lo + 3), .ref 33]) (pm_q92_1 (Nat.le_of_ble_eq_true rfl)) rfl rfl ?_
                        refine sf_R_iaddV pm_M92 (pc_q := 150) (pm_q92_1 (Nat.le_of_ble_eq_true rfl)) rfl B11803 sf_k1 (by decide) (by decide) e12012 ?_
                        have q12054 := cl_in4 (n := rc11756) (Nat.le_trans h11764 (by decide)) (Int32.not_le.mp c11777) (cl_aux7 _ _ _ e11802 e12012) B11781 (by decide) (by decide)
                        refine pm_R_iald pm_M92 (pc_q := 151) (v := z12014) (pm_q92_1 (Nat.le_of_ble_eq_true rfl)) (T.im kq11776.2.2.1 (by decide) (by decide) eE11770) (T.al kq11776.2.2.1 (by decide)) q12054.1 ez12015 rfl ?_
                        refine pm_R_lo pm_M92 (pc_q := 152) (pm_q92_1 (Nat.le_of_ble_eq_true rfl)) rfl rfl ?_
                        refine pm_R_lo pm_M92 (pc_q := 154) (pm_q92_1 (Nat.le_of_ble_eq_true rfl)) rfl rfl ?_
                        refine pm_R_lo pm_M92 (pc_q := 156) (pm_q92_1 (Nat.le_of_ble_eq_true rfl)) rfl rfl ?_
                        refine pm_R_br pm_M92 (pc_q := 163) (st_q := [.int x9_8826, .int a1, .int z12014, .ref 33]) (pm_q92_1 (Nat.le_of_ble_eq_true rfl)) rfl ?_
                        refine pm_R_lo pm_M92 (pc_q := 165) (pm_q92_1 (Nat.le_of_ble_eq_true rfl)) rfl rfl ?_
                        refine pm_R_lo pm_M92 (pc_q := 167) (pm_q92_1 (Nat.le_of_ble_eq_true rfl)) rfl rfl ?_
                        refine sf_R_ldivA pm_M92 (pc_q := 168) (pm_q92_1 (Nat.le_of_ble_eq_true rfl)) rfl k12040 (fun z12055 => ?_)
                        refine pm_R_lo pm_M92 (pc_q := 170) (pm_q92_1 (Nat.le_of_ble_eq_true rfl)) rfl rfl ?_
                        refine pm_R_op pm_M92 (pc_q := 171) (st_q := [.int 1, .int 1, .long z12055, .int x9_8826, .int a1, .int z12014, .ref 33]) (pm_q92_1 (Nat.le_of_ble_eq_true rfl)) rfl rfl ?_
                        refine pm_R_op pm_M92 (pc_q := 172) (st_q := [.int 2, .long z12055, .int x9_8826, .int a1, .int z12014, .ref 33]) (pm_q92_1 (Nat.le_of_ble_eq_true rfl)) rfl rfl ?_
                        refine pm_R_cv pm_M92 (pc_q := 175) (a := 33) (ra := [.int 2, .long z12055, .int x9_8826, .int a1, .int z12014]) (rest := []) (ls_q := [.ref 33, .int z12014, .int a1, .int x9_8826, .long z12055, pm_no, .int 2, pm_no, pm_no, pm_no, pm_no, pm_no, pm_no, pm_no, pm_no, pm_no, pm_no, pm_no]) (pm_q92_1 (Nat.le_of_ble_eq_true rfl)) rfl (Or.inl rfl) pm_M92 T.e33 rfl (by decide) (T.lt (by decide)) rfl rfl (Nat.le_of_ble_eq_true rfl) rfl rfl ?_
                        refine cl_c92_2 (d := d + 0) G T B12016 (sf_weak B19 (by decide) (by decide)) (sf_weak B8829 (by decide) (by decide)) ol orr eE5 P1 (Int32.lt_iff_toInt_lt.mpr (cl_aux14 _ _ _ (Int32.lt_iff_toInt_lt.mp (Int32.not_le.mp c8827)) (Int32.lt_iff_toInt_lt.mp P2))) (fun r12056 m12058 h12059 T12060 F12061 W12062 => ?_)
                        have F12063 := (cl_F.refl (ck := ck) (A := [33, 35]) (n := 0) (s := 0) T.1).trans (N := 0) (S := 0) F12061 (by decide) (by decide) (by decide)
                        have W12064 : rf_W [14, 15] m m12058 := (rf_W.refl [14, 15] m).trans W12062 (by decide)
                        show pm_R _ 92 175 [.ref 33, .int a0, .int a1, .int a2, .long a3, pm_no, .int 1, .long y7_11755, pm_no, .int x9_8826, .int x10_11755, .long z11814, pm_no, .long r12024, pm_no, .int 0, pm_no, pm_no] [.int r12056] _ _
                        refine pm_R_lo pm_M92 (pc_q := 177) (ls_q := [.ref 33, .int a0, .int a1, .int a2, .long a3, pm_no, .int 1, .long y7_11755, pm_no, .int x9_8826, .int x10_11755, .long z11814, pm_no, .long r12024, pm_no, .int 0, .int r12056, pm_no]) (st_q := []) (pm_q92_1 (Nat.le_of_ble_eq_true rfl)) rfl rfl ?_
                        refine pm_R_lo pm_M92 (pc_q := 178) (pm_q92_1 (Nat.le_of_ble_eq_true rfl)) rfl rfl ?_
                        refine pm_R_lo pm_M92 (pc_q := 179) (pm_q92_1 (Nat.le_of_ble_eq_true rfl)) rfl rfl ?_
                        refine pm_R_get pm_M92 (pc_q := 182) (v := .ref lo) (pm_q92_1 (Nat.le_of_ble_eq_true rfl)) rfl T12060.e33 (by decide) (T12060.lt (by decide)) (by show some (va_rf (o 1)) = _; rw [ol]; rfl) rfl ?_
                        refine pm_R_get pm_M92 (pc_q := 185) (v := .ref (lo + 3)) (pm_q92_1 (Nat.le_of_ble_eq_true rfl)) rfl (T12060.im hkl (by decide) (by decide) eE11767) (G.ge hkl (by decide)) (T12060.al hkl (by decide)) rfl rfl ?_
                        refine pm_R_lo pm_M92 (pc_q := 187) (pm_q92_1 (Nat.le_of_ble_eq_true rfl)) rfl rfl ?_
                        refine pm_R_op pm_M92 (pc_q := 188) (st_q := [.int 4, .int x10_11755, .ref (lo + 3), .ref 33]) (pm_q92_1 (Nat.le_of_ble_eq_true rfl)) rfl rfl ?_
                        refine sf_R_imulV pm_M92 (pc_q := 189) (pm_q92_1 (Nat.le_of_ble_eq_true rfl)) rfl B11781 sf_k4 (by decide) (by decide) (by decide) e11802 ?_
                        refine pm_R_op pm_M92 (pc_q := 190) (st_q := [.int 2, .int z11801, .ref (lo + 3), .ref 33]) (pm_q92_1 (Nat.le_of_ble_eq_true rfl)) rfl rfl ?_
                        refine sf_R_iaddV pm_M92 (pc_q := 191) (pm_q92_1 (Nat.le_of_ble_eq_true rfl)) rfl B11803 sf_k2 (by decide) (by decide) e11805 ?_
                        have q12068 := cl_in4 (n := rc11756) (Nat.le_trans h11764 (by decide)) (Int32.not_le.mp c11777) (cl_aux6 _ _ _ e11802 e11805) B11781 (by decide) (by decide)
                        refine pm_R_iald pm_M92 (pc_q := 192) (v := z11807) (pm_q92_1 (Nat.le_of_ble_eq_true rfl)) (T12060.im kq11776.2.2.1 (by decide) (by decide) eE11770) (T12060.al kq11776.2.2.1 (by decide)) q12068.1 ez11808 rfl ?_
                        refine pm_R_lo pm_M92 (pc_q := 194) (pm_q92_1 (Nat.le_of_ble_eq_true rfl)) rfl rfl ?_
                        refine pm_R_op pm_M92 (pc_q := 195) (st_q := [.int 1, .int x9_8826, .int z11807, .ref 33]) (pm_q92_1 (Nat.le_of_ble_eq_true rfl)) rfl rfl ?_
                        refine sf_R_iaddV pm_M92 (pc_q := 196) (pm_q92_1 (Nat.le_of_ble_eq_true rfl)) rfl B8829 sf_k1 (by decide) (by decide) e11784 ?_
                        refine pm_R_lo pm_M92 (pc_q := 197) (pm_q92_1 (Nat.le_of_ble_eq_true rfl)) rfl rfl ?_
                        refine pm_R_lo pm_M92 (pc_q := 199) (pm_q92_1 (Nat.le_of_ble_eq_true rfl)) rfl rfl ?_
                        refine pm_R_br pm_M92 (pc_q := 207) (st_q := [.int a2, .int z11783, .int z11807, .ref 33]) (pm_q92_1 (Nat.le_of_ble_eq_true rfl)) rfl ?_
                        refine pm_R_lo pm_M92 (pc_q := 209) (pm_q92_1 (Nat.le_of_ble_eq_true rfl)) rfl rfl ?_
                        refine pm_R_lo pm_M92 (pc_q := 211) (pm_q92_1 (Nat.le_of_ble_eq_true rfl)) rfl rfl ?_
                        refine sf_R_lremA pm_M92 (pc_q := 212) (pm_q92_1 (Nat.le_of_ble_eq_true rfl)) rfl k12040 (fun z12069 => ?_)
                        refine pm_R_lo pm_M92 (pc_q := 214) (pm_q92_1 (Nat.le_of_ble_eq_true rfl)) rfl rfl ?_
                        refine pm_R_op pm_M92 (pc_q := 215) (st_q := [.int 1, .int 1, .long z12069, .int a2, .int z11783, .int z11807, .ref 33]) (pm_q92_1 (Nat.le_of_ble_eq_true rfl)) rfl rfl ?_
                        refine pm_R_op pm_M92 (pc_q := 216) (st_q := [.int 2, .long z12069, .int a2, .int z11783, .int z11807, .ref 33]) (pm_q92_1 (Nat.le_of_ble_eq_true rfl)) rfl rfl ?_
                        refine pm_R_cv pm_M92 (pc_q := 219) (a := 33) (ra := [.int 2, .long z12069, .int a2, .int z11783, .int z11807]) (rest := []) (ls_q := [.ref 33, .int z11807, .int z11783, .int a2, .long z12069, pm_no, .int 2, pm_no, pm_no, pm_no, pm_no, pm_no, pm_no, pm_no, pm_no, pm_no, pm_no, pm_no]) (pm_q92_1 (Nat.le_of_ble_eq_true rfl)) rfl (Or.inl rfl) pm_M92 T12060.e33 rfl (by decide) (T12060.lt (by decide)) rfl rfl (Nat.le_of_ble_eq_true rfl) rfl rfl ?_
                        refine cl_c92_2 (d := d + 0) G T12060 B11809 (sf_weak B11785 (by decide) (by decide)) (sf_weak B20 (by decide) (by decide)) ol orr eE5 (Int32.lt_iff_toInt_lt.mpr (cl_aux15 _ _ _ _ e11784 (Int32.lt_iff_toInt_lt.mp (Int32.not_le.mp c8827)) (Int32.lt_iff_toInt_lt.mp P2))) P2 (fun r12070 m12072 h12073 T12074 F12075 W12076 => ?_)
                        have F12077 := F12063.trans (N := 0) (S := 0) F12075 (by decide) (by decide) (by decide)
                        have W12078 : rf_W [14, 15] m m12072 := W12064.trans W12076 (by decide)
                        show pm_R _ 92 219 [.ref 33, .int a0, .int a1, .int a2, .long a3, pm_no, .int 1, .long y7_11755, pm_no, .int x9_8826, .int x10_11755, .long z11814, pm_no, .long r12024, pm_no, .int 0, .int r12056, pm_no] [.int r12070] _ _
                        refine pm_R_lo pm_M92 (pc_q := 221) (ls_q := [.ref 33, .int a0, .int a1, .int a2, .long a3, pm_no, .int 1, .long y7_11755, pm_no, .int x9_8826, .int x10_11755, .long z11814, pm_no, .long r12024, pm_no, .int 0, .int r12056, .int r12070]) (st_q := []) (pm_q92_2 (Nat.le_of_ble_eq_true rfl)) rfl rfl ?_
                        refine pm_R_lo pm_M92 (pc_q := 222) (pm_q92_2 (Nat.le_of_ble_eq_true rfl)) rfl rfl ?_
                        refine pm_R_lo pm_M92 (pc_q := 224) (pm_q92_2 (Nat.le_of_ble_eq_true rfl)) rfl rfl ?_
                        refine cl_R_put33 G pm_M92 T12074 (k := 14) (pc_q := 227) (pm_q92_2 (Nat.le_of_ble_eq_true rfl)) rfl rfl (by decide) rfl rfl (sf_any _) rfl rfl rfl rfl rfl (fun h12079 m12082 em12083 T12080 F12081 => ?_)
                        have F12084 := F12081.cl (ck := ck) T12074.1
                        have F12085 := F12077.trans (N := 0) (S := 0) F12084 (by decide) (by decide) (by decide)
                        have B12086 : sf_B 0 9 (m12082 14) := by rw [em12083]; exact B11781
                        have ek12087 : (m12082 14).toInt = (x10_11755).toInt := by rw [em12083]; rfl
                        have W12088 : rf_W [14, 15] m m12082 := by rw [em12083]; exact W12078.put (by decide)
                        refine pm_R_lo pm_M92 (pc_q := 228) (pm_q92_2 (Nat.le_of_ble_eq_true rfl)) rfl rfl ?_
                        refine pm_R_lo pm_M92 (pc_q := 230) (pm_q92_2 (Nat.le_of_ble_eq_true rfl)) rfl rfl ?_
                        refine pm_R_op pm_M92 (pc_q := 231) (st_q := [.int 1, .int x9_8826, .ref 33]) (pm_q92_2 (Nat.le_of_ble_eq_true rfl)) rfl rfl ?_
                        refine sf_R_iaddV pm_M92 (pc_q := 232) (pm_q92_2 (Nat.le_of_ble_eq_true rfl)) rfl B8829 sf_k1 (by decide) (by decide) e11784 ?_
                        refine pm_R_lo pm_M92 (pc_q := 233) (pm_q92_2 (Nat.le_of_ble_eq_true rfl)) rfl rfl ?_
                        refine sf_R_isub pm_M92 (pc_q := 234) (pm_q92_2 (Nat.le_of_ble_eq_true rfl)) rfl B11785 B19 (by decide) (by decide) (fun z12089 e12090 B12091 => ?_)
                        refine cl_R_put33 G pm_M92 T12080 (k := 15) (pc_q := 237) (pm_q92_2 (Nat.le_of_ble_eq_true rfl)) rfl rfl (by decide) rfl rfl (sf_any _) rfl rfl rfl rfl rfl (fun h12092 m12095 em12096 T12093 F12094 => ?_)
                        have F12097 := F12094.cl (ck := ck) T12080.1
                        have F12098 := F12085.trans (N := 0) (S := 0) F12097 (by decide) (by decide) (by decide)
                        have B12099 : sf_B 0 9 (m12095 14) := by rw [em12096]; exact B12086
                        have ek12100 : (m12095 14).toInt = (x10_11755).toInt := by rw [em12096]; exact ek12087
                        have B12101 : sf_B (-9) 11 (m12095 15) := by rw [em12096]; exact B12091
                        have ek12102 : (m12095 15).toInt = (z12089).toInt := by rw [em12096]; rfl
                        have W12103 : rf_W [14, 15] m m12095 := by rw [em12096]; exact W12088.put (by decide)
                        refine pm_R_lo pm_M92 (pc_q := 238) (pm_q92_2 (Nat.le_of_ble_eq_true rfl)) rfl rfl ?_
                        refine pm_R_get pm_M92 (pc_q := 241) (v := .ref lo) (pm_q92_2 (Nat.le_of_ble_eq_true rfl)) rfl T12093.e33 (by decide) (T12093.lt (by decide)) (by show some (va_rf (o 1)) = _; rw [ol]; rfl) rfl ?_
                        refine pm_R_get pm_M92 (pc_q := 244) (v := .ref (lo + 3)) (pm_q92_2 (Nat.le_of_ble_eq_true rfl)) rfl (T12093.im hkl (by decide) (by decide) eE11767) (G.ge hkl (by decide)) (T12093.al hkl (by decide)) rfl rfl ?_
                        refine pm_R_lo pm_M92 (pc_q := 246) (pm_q92_2 (Nat.le_of_ble_eq_true rfl)) rfl rfl ?_
                        refine pm_R_op pm_M92 (pc_q := 247) (st_q := [.int 4, .int x10_11755, .ref (lo + 3)]) (pm_q92_2 (Nat.le_of_ble_eq_true rfl)) rfl rfl ?_
                        refine sf_R_imulV pm_M92 (pc_q := 248) (pm_q92_2 (Nat.le_of_ble_eq_true rfl)) rfl B11781 sf_k4 (by decide) (by decide) (by decide) e11802 ?_
                        refine pm_R_op pm_M92 (pc_q := 249) (st_q := [.int 3, .int z11801, .ref (lo + 3)]) (pm_q92_2 (Nat.le_of_ble_eq_true rfl)) rfl rfl ?_
                        refine sf_R_iadd pm_M92 (pc_q := 250) (pm_q92_2 (Nat.le_of_ble_eq_true rfl)) rfl B11803 sf_k3 (by decide) (by decide) (fun z12104 e12105 B12106 => ?_)
                        have q12110 := cl_in4 (n := rc11756) (Nat.le_trans h11764 (by decide)) (Int32.not_le.mp c11777) (cl_aux9 _ _ _ e11802 e12105) B11781 (by decide) (by decide)
                        obtain ⟨z12107, ez12108⟩ : ∃ y, fr11761 (Int32.toNatClampNeg z12104) = y := ⟨_, rfl⟩
                        refine pm_R_iald pm_M92 (pc_q := 251) (v := z12107) (pm_q92_2 (Nat.le_of_ble_eq_true rfl)) (T12093.im kq11776.2.2.1 (by decide) (by decide) eE11770) (T12093.al kq11776.2.2.1 (by decide)) q12110.1 ez12108 rfl ?_
                        refine pm_R_lo pm_M92 (pc_q := 253) (pm_q92_2 (Nat.le_of_ble_eq_true rfl)) rfl rfl ?_
                        refine pm_R_lo pm_M92 (pc_q := 255) (pm_q92_2 (Nat.le_of_ble_eq_true rfl)) rfl rfl ?_
                        refine pm_R_cs pm_M92 (pc_q := 258) (ra := [.int r12070, .int r12056, .int z12107]) (rest := []) (ls_q := [.int z12107, .int r12056, .int r12070]) (pm_q92_2 (Nat.le_of_ble_eq_true rfl)) rfl (Or.inr rfl) pm_M88 rfl rfl (Nat.le_of_ble_eq_true rfl) rfl rfl ?_
                        refine cl_c88_u (d := d + 13)  (fun r12111 => ?_)
                        show pm_R _ 92 258 [.ref 33, .int a0, .int a1, .int a2, .long a3, pm_no, .int 1, .long y7_11755, pm_no, .int x9_8826, .int x10_11755, .long z11814, pm_no, .long r12024, pm_no, .int 0, .int r12056, .int r12070] [.int r12111] _ _
                        exact pm_R_ret pm_M92 (r := some (.int r12111)) (pm_q92_2 (Nat.le_of_ble_eq_true rfl)) (pm_ret_i _) (K r12111 m12095 h12092 T12093 F12098 W12103)
                      · have B12118 : sf_B 0 0 z12047 := sf_eqL (Classical.not_not.mp c12049) sf_k0
                        have B12119 : lf_B (-1) (-1) z11814 := lf_eqB e12048 B12118 (⟨by decide, by decide⟩ : lf_B (-1) (-1) (-1))
                        refine pm_R_op pm_M92 (pc_q := 130) (st_q := [.int 1]) (pm_q92_1 (Nat.le_of_ble_eq_true rfl)) rfl rfl ?_
                        refine pm_R_br pm_M92 (pc_q := 134) (pm_q92_1 (Nat.le_of_ble_eq_true rfl)) rfl ?_
                        refine pm_R_lo pm_M92 (pc_q := 136) (ls_q := [.ref 33, .int a0, .int a1, .int a2, .long a3, pm_no, .int 1, .long y7_11755, pm_no, .int x9_8826, .int x10_11755, .long z11814, pm_no, .long r12024, pm_no, .int 1, pm_no, pm_no]) (st_q := []) (pm_q92_1 (Nat.le_of_ble_eq_true rfl)) rfl rfl ?_
                        refine pm_R_lo pm_M92 (pc_q := 137) (pm_q92_1 (Nat.le_of_ble_eq_true rfl)) rfl rfl ?_
                        refine pm_R_lo pm_M92 (pc_q := 138) (pm_q92_1 (Nat.le_of_ble_eq_true rfl)) rfl rfl ?_
                        refine pm_R_get pm_M92 (pc_q := 141) (v := .ref lo) (pm_q92_1 (Nat.le_of_ble_eq_true rfl)) rfl T.e33 (by decide) (T.lt (by decide)) (by show some (va_rf (o 1)) = _; rw [ol]; rfl) rfl ?_
                        refine pm_R_get pm_M92 (pc_q := 144) (v := .ref (lo + 3)) (pm_q92_1 (Nat.le_of_ble_eq_true rfl)) rfl (T.im hkl (by decide) (by decide) eE11767) (G.ge hkl (by decide)) (T.al hkl (by decide)) rfl rfl ?_
                        refine pm_R_lo pm_M92 (pc_q := 146) (pm_q92_1 (Nat.le_of_ble_eq_true rfl)) rfl rfl ?_
                        refine pm_R_op pm_M92 (pc_q := 147) (st_q := [.int 4, .int x10_11755, .ref (lo + 3), .ref 33]) (pm_q92_1 (Nat.le_of_ble_eq_true rfl)) rfl rfl ?_
                        refine sf_R_imulV pm_M92 (pc_q := 148) (pm_q92_1 (Nat.le_of_ble_eq_true rfl)) rfl B11781 sf_k4 (by decide) (by decide) (by decide) e11802 ?_
                        refine pm_R_op pm_M92 (pc_q := 149) (st_q := [.int 1, .int z11801, .ref (lo + 3), .ref 33]) (pm_q92_1 (Nat.le_of_ble_eq_true rfl)) rfl rfl ?_
                        refine sf_R_iaddV pm_M92 (pc_q := 150) (pm_q92_1 (Nat.le_of_ble_eq_true rfl)) rfl B11803 sf_k1 (by decide) (by decide) e12012 ?_
                        have q12123 := cl_in4 (n := rc11756) (Nat.le_trans h11764 (by decide)) (Int32.not_le.mp c11777) (cl_aux7 _ _ _ e11802 e12012) B11781 (by decide) (by decide)
                        refine pm_R_iald pm_M92 (pc_q := 151) (v := z12014) (pm_q92_1 (Nat.le_of_ble_eq_true rfl)) (T.im kq11776.2.2.1 (by decide) (by decide) eE11770) (T.al kq11776.2.2.1 (by decide)) q12123.1 ez12015 rfl ?_
                        refine pm_R_lo pm_M92 (pc_q := 152) (pm_q92_1 (Nat.le_of_ble_eq_true rfl)) rfl rfl ?_
                        refine pm_R_lo pm_M92 (pc_q := 154) (pm_q92_1 (Nat.le_of_ble_eq_true rfl)) rfl rfl ?_
                        refine pm_R_lo pm_M92 (pc_q := 156) (pm_q92_1 (Nat.le_of_ble_eq_true rfl)) rfl rfl ?_
                        refine pm_R_br pm_M92 (pc_q := 159) (st_q := [.int x9_8826, .int a1, .int z12014, .ref 33]) (pm_q92_1 (Nat.le_of_ble_eq_true rfl)) rfl ?_
                        refine pm_R_op pm_M92 (pc_q := 160) (st_q := [.long 0, .int x9_8826, .int a1, .int z12014, .ref 33]) (pm_q92_1 (Nat.le_of_ble_eq_true rfl)) rfl rfl ?_
                        refine pm_R_br pm_M92 (pc_q := 168) (pm_q92_1 (Nat.le_of_ble_eq_true rfl)) rfl ?_
                        refine pm_R_lo pm_M92 (pc_q := 170) (pm_q92_1 (Nat.le_of_ble_eq_true rfl)) rfl rfl ?_
                        refine pm_R_op pm_M92 (pc_q := 171) (st_q := [.int 1, .int 1, .long 0, .int x9_8826, .int a1, .int z12014, .ref 33]) (pm_q92_1 (Nat.le_of_ble_eq_true rfl)) rfl rfl ?_
                        refine pm_R_op pm_M92 (pc_q := 172) (st_q := [.int 2, .long 0, .int x9_8826, .int a1, .int z12014, .ref 33]) (pm_q92_1 (Nat.le_of_ble_eq_true rfl)) rfl rfl ?_
                        refine pm_R_cv pm_M92 (pc_q := 175) (a := 33) (ra := [.int 2, .long 0, .int x9_8826, .int a1, .int z12014]) (rest := []) (ls_q := [.ref 33, .int z12014, .int a1, .int x9_8826, .long 0, pm_no, .int 2, pm_no, pm_no, pm_no, pm_no, pm_no, pm_no, pm_no, pm_no, pm_no, pm_no, pm_no]) (pm_q92_1 (Nat.le_of_ble_eq_true rfl)) rfl (Or.inl rfl) pm_M92 T.e33 rfl (by decide) (T.lt (by decide)) rfl rfl (Nat.le_of_ble_eq_true rfl) rfl rfl ?_
                        refine cl_c92_2 (d := d + 0) G T B12016 (sf_weak B19 (by decide) (by decide)) (sf_weak B8829 (by decide) (by decide)) ol orr eE5 P1 (Int32.lt_iff_toInt_lt.mpr (cl_aux14 _ _ _ (Int32.lt_iff_toInt_lt.mp (Int32.not_le.mp c8827)) (Int32.lt_iff_toInt_lt.mp P2))) (fun r12124 m12126 h12127 T12128 F12129 W12130 => ?_)
                        have F12131 := (cl_F.refl (ck := ck) (A := [33, 35]) (n := 0) (s := 0) T.1).trans (N := 0) (S := 0) F12129 (by decide) (by decide) (by decide)
                        have W12132 : rf_W [14, 15] m m12126 := (rf_W.refl [14, 15] m).trans W12130 (by decide)
                        show pm_R _ 92 175 [.ref 33, .int a0, .int a1, .int a2, .long a3, pm_no, .int 1, .long y7_11755, pm_no, .int x9_8826, .int x10_11755, .long z11814, pm_no, .long r12024, pm_no, .int 1, pm_no, pm_no] [.int r12124] _ _
                        refine pm_R_lo pm_M92 (pc_q := 177) (ls_q := [.ref 33, .int a0, .int a1, .int a2, .long a3, pm_no, .int 1, .long y7_11755, pm_no, .int x9_8826, .int x10_11755, .long z11814, pm_no, .long r12024, pm_no, .int 1, .int r12124, pm_no]) (st_q := []) (pm_q92_1 (Nat.le_of_ble_eq_true rfl)) rfl rfl ?_
                        refine pm_R_lo pm_M92 (pc_q := 178) (pm_q92_1 (Nat.le_of_ble_eq_true rfl)) rfl rfl ?_
                        refine pm_R_lo pm_M92 (pc_q := 179) (pm_q92_1 (Nat.le_of_ble_eq_true rfl)) rfl rfl ?_
                        refine pm_R_get pm_M92 (pc_q := 182) (v := .ref lo) (pm_q92_1 (Nat.le_of_ble_eq_true rfl)) rfl T12128.e33 (by decide) (T12128.lt (by decide)) (by show some (va_rf (o 1)) = _; rw [ol]; rfl) rfl ?_
                        refine pm_R_get pm_M92 (pc_q := 185) (v := .ref (lo + 3)) (pm_q92_1 (Nat.le_of_ble_eq_true rfl)) rfl (T12128.im hkl (by decide) (by decide) eE11767) (G.ge hkl (by decide)) (T12128.al hkl (by decide)) rfl rfl ?_
                        refine pm_R_lo pm_M92 (pc_q := 187) (pm_q92_1 (Nat.le_of_ble_eq_true rfl)) rfl rfl ?_
                        refine pm_R_op pm_M92 (pc_q := 188) (st_q := [.int 4, .int x10_11755, .ref (lo + 3), .ref 33]) (pm_q92_1 (Nat.le_of_ble_eq_true rfl)) rfl rfl ?_
                        refine sf_R_imulV pm_M92 (pc_q := 189) (pm_q92_1 (Nat.le_of_ble_eq_true rfl)) rfl B11781 sf_k4 (by decide) (by decide) (by decide) e11802 ?_
                        refine pm_R_op pm_M92 (pc_q := 190) (st_q := [.int 2, .int z11801, .ref (lo + 3), .ref 33]) (pm_q92_1 (Nat.le_of_ble_eq_true rfl)) rfl rfl ?_
                        refine sf_R_iaddV pm_M92 (pc_q := 191) (pm_q92_1 (Nat.le_of_ble_eq_true rfl)) rfl B11803 sf_k2 (by decide) (by decide) e11805 ?_
                        have q12136 := cl_in4 (n := rc11756) (Nat.le_trans h11764 (by decide)) (Int32.not_le.mp c11777) (cl_aux6 _ _ _ e11802 e11805) B11781 (by decide) (by decide)
                        refine pm_R_iald pm_M92 (pc_q := 192) (v := z11807) (pm_q92_1 (Nat.le_of_ble_eq_true rfl)) (T12128.im kq11776.2.2.1 (by decide) (by decide) eE11770) (T12128.al kq11776.2.2.1 (by decide)) q12136.1 ez11808 rfl ?_
                        refine pm_R_lo pm_M92 (pc_q := 194) (pm_q92_1 (Nat.le_of_ble_eq_true rfl)) rfl rfl ?_
                        refine pm_R_op pm_M92 (pc_q := 195) (st_q := [.int 1, .int x9_8826, .int z11807, .ref 33]) (pm_q92_1 (Nat.le_of_ble_eq_true rfl)) rfl rfl ?_
                        refine sf_R_iaddV pm_M92 (pc_q := 196) (pm_q92_1 (Nat.le_of_ble_eq_true rfl)) rfl B8829 sf_k1 (by decide) (by decide) e11784 ?_
                        refine pm_R_lo pm_M92 (pc_q := 197) (pm_q92_1 (Nat.le_of_ble_eq_true rfl)) rfl rfl ?_
                        refine pm_R_lo pm_M92 (pc_q := 199) (pm_q92_1 (Nat.le_of_ble_eq_true rfl)) rfl rfl ?_
                        refine pm_R_br pm_M92 (pc_q := 202) (st_q := [.int a2, .int z11783, .int z11807, .ref 33]) (pm_q92_1 (Nat.le_of_ble_eq_true rfl)) rfl ?_
                        refine pm_R_lo pm_M92 (pc_q := 204) (pm_q92_1 (Nat.le_of_ble_eq_true rfl)) rfl rfl ?_
                        refine pm_R_br pm_M92 (pc_q := 212) (pm_q92_1 (Nat.le_of_ble_eq_true rfl)) rfl ?_
                        refine pm_R_lo pm_M92 (pc_q := 214) (pm_q92_1 (Nat.le_of_ble_eq_true rfl)) rfl rfl ?_
                        refine pm_R_op pm_M92 (pc_q := 215) (st_q := [.int 1, .int 1, .long y7_11755, .int a2, .int z11783, .int z11807, .ref 33]) (pm_q92_1 (Nat.le_of_ble_eq_true rfl)) rfl rfl ?_
                        refine pm_R_op pm_M92 (pc_q := 216) (st_q := [.int 2, .long y7_11755, .int a2, .int z11783, .int z11807, .ref 33]) (pm_q92_1 (Nat.le_of_ble_eq_true rfl)) rfl rfl ?_
                        refine pm_R_cv pm_M92 (pc_q := 219) (a := 33) (ra := [.int 2, .long y7_11755, .int a2, .int z11783, .int z11807]) (rest := []) (ls_q := [.ref 33, .int z11807, .int z11783, .int a2, .long y7_11755, pm_no, .int 2, pm_no, pm_no, pm_no, pm_no, pm_no, pm_no, pm_no, pm_no, pm_no, pm_no, pm_no]) (pm_q92_1 (Nat.le_of_ble_eq_true rfl)) rfl (Or.inl rfl) pm_M92 T12128.e33 rfl (by decide) (T12128.lt (by decide)) rfl rfl (Nat.le_of_ble_eq_true rfl) rfl rfl ?_
                        refine cl_c92_2 (d := d + 0) G T12128 B11809 (sf_weak B11785 (by decide) (by decide)) (sf_weak B20 (by decide) (by decide)) ol orr eE5 (Int32.lt_iff_toInt_lt.mpr (cl_aux15 _ _ _ _ e11784 (Int32.lt_iff_toInt_lt.mp (Int32.not_le.mp c8827)) (Int32.lt_iff_toInt_lt.mp P2))) P2 (fun r12137 m12139 h12140 T12141 F12142 W12143 => ?_)
                        have F12144 := F12131.trans (N := 0) (S := 0) F12142 (by decide) (by decide) (by decide)
                        have W12145 : rf_W [14, 15] m m12139 := W12132.trans W12143 (by decide)
                        show pm_R _ 92 219 [.ref 33, .int a0, .int a1, .int a2, .long a3, pm_no, .int 1, .long y7_11755, pm_no, .int x9_8826, .int x10_11755, .long z11814, pm_no, .long r12024, pm_no, .int 1, .int r12124, pm_no] [.int r12137] _ _
                        refine pm_R_lo pm_M92 (pc_q := 221) (ls_q := [.ref 33, .int a0, .int a1, .int a2, .long a3, pm_no, .int 1, .long y7_11755, pm_no, .int x9_8826, .int x10_11755, .long z11814, pm_no, .long r12024, pm_no, .int 1, .int r12124, .int r12137]) (st_q := []) (pm_q92_2 (Nat.le_of_ble_eq_true rfl)) rfl rfl ?_
                        refine pm_R_lo pm_M92 (pc_q := 222) (pm_q92_2 (Nat.le_of_ble_eq_true rfl)) rfl rfl ?_
                        refine pm_R_lo pm_M92 (pc_q := 224) (pm_q92_2 (Nat.le_of_ble_eq_true rfl)) rfl rfl ?_
                        refine cl_R_put33 G pm_M92 T12141 (k := 14) (pc_q := 227) (pm_q92_2 (Nat.le_of_ble_eq_true rfl)) rfl rfl (by decide) rfl rfl (sf_any _) rfl rfl rfl rfl rfl (fun h12146 m12149 em12150 T12147 F12148 => ?_)
                        have F12151 := F12148.cl (ck := ck) T12141.1
                        have F12152 := F12144.trans (N := 0) (S := 0) F12151 (by decide) (by decide) (by decide)
                        have B12153 : sf_B 0 9 (m12149 14) := by rw [em12150]; exact B11781
                        have ek12154 : (m12149 14).toInt = (x10_11755).toInt := by rw [em12150]; rfl
                        have W12155 : rf_W [14, 15] m m12149 := by rw [em12150]; exact W12145.put (by decide)
                        refine pm_R_lo pm_M92 (pc_q := 228) (pm_q92_2 (Nat.le_of_ble_eq_true rfl)) rfl rfl ?_
                        refine pm_R_lo pm_M92 (pc_q := 230) (pm_q92_2 (Nat.le_of_ble_eq_true rfl)) rfl rfl ?_
                        refine pm_R_op pm_M92 (pc_q := 231) (st_q := [.int 1, .int x9_8826, .ref 33]) (pm_q92_2 (Nat.le_of_ble_eq_true rfl)) rfl rfl ?_
                        refine sf_R_iaddV pm_M92 (pc_q := 232) (pm_q92_2 (Nat.le_of_ble_eq_true rfl)) rfl B8829 sf_k1 (by decide) (by decide) e11784 ?_
                        refine pm_R_lo pm_M92 (pc_q := 233) (pm_q92_2 (Nat.le_of_ble_eq_true rfl)) rfl rfl ?_
                        refine sf_R_isub pm_M92 (pc_q := 234) (pm_q92_2 (Nat.le_of_ble_eq_true rfl)) rfl B11785 B19 (by decide) (by decide) (fun z12156 e12157 B12158 => ?_)
                        refine cl_R_put33 G pm_M92 T12147 (k := 15) (pc_q := 237) (pm_q92_2 (Nat.le_of_ble_eq_true rfl)) rfl rfl (by decide) rfl rfl (sf_any _) rfl rfl rfl rfl rfl (fun h12159 m12162 em12163 T12160 F12161 => ?_)
                        have F12164 := F12161.cl (ck := ck) T12147.1
                        have F12165 := F12152.trans (N := 0) (S := 0) F12164 (by decide) (by decide) (by decide)
                        have B12166 : sf_B 0 9 (m12162 14) := by rw [em12163]; exact B12153
                        have ek12167 : (m12162 14).toInt = (x10_11755).toInt := by rw [em12163]; exact ek12154
                        have B12168 : sf_B (-9) 11 (m12162 15) := by rw [em12163]; exact B12158
                        have ek12169 : (m12162 15).toInt = (z12156).toInt := by rw [em12163]; rfl
                        have W12170 : rf_W [14, 15] m m12162 := by rw [em12163]; exact W12155.put (by decide)
                        refine pm_R_lo pm_M92 (pc_q := 238) (pm_q92_2 (Nat.le_of_ble_eq_true rfl)) rfl rfl ?_
                        refine pm_R_get pm_M92 (pc_q := 241) (v := .ref lo) (pm_q92_2 (Nat.le_of_ble_eq_true rfl)) rfl T12160.e33 (by decide) (T12160.lt (by decide)) (by show some (va_rf (o 1)) = _; rw [ol]; rfl) rfl ?_
                        refine pm_R_get pm_M92 (pc_q := 244) (v := .ref (lo + 3)) (pm_q92_2 (Nat.le_of_ble_eq_true rfl)) rfl (T12160.im hkl (by decide) (by decide) eE11767) (G.ge hkl (by decide)) (T12160.al hkl (by decide)) rfl rfl ?_
                        refine pm_R_lo pm_M92 (pc_q := 246) (pm_q92_2 (Nat.le_of_ble_eq_true rfl)) rfl rfl ?_
                        refine pm_R_op pm_M92 (pc_q := 247) (st_q := [.int 4, .int x10_11755, .ref (lo + 3)]) (pm_q92_2 (Nat.le_of_ble_eq_true rfl)) rfl rfl ?_
                        refine sf_R_imulV pm_M92 (pc_q := 248) (pm_q92_2 (Nat.le_of_ble_eq_true rfl)) rfl B11781 sf_k4 (by decide) (by decide) (by decide) e11802 ?_
                        refine pm_R_op pm_M92 (pc_q := 249) (st_q := [.int 3, .int z11801, .ref (lo + 3)]) (pm_q92_2 (Nat.le_of_ble_eq_true rfl)) rfl rfl ?_
                        refine sf_R_iadd pm_M92 (pc_q := 250) (pm_q92_2 (Nat.le_of_ble_eq_true rfl)) rfl B11803 sf_k3 (by decide) (by decide) (fun z12171 e12172 B12173 => ?_)
                        have q12177 := cl_in4 (n := rc11756) (Nat.le_trans h11764 (by decide)) (Int32.not_le.mp c11777) (cl_aux9 _ _ _ e11802 e12172) B11781 (by decide) (by decide)
                        obtain ⟨z12174, ez12175⟩ : ∃ y, fr11761 (Int32.toNatClampNeg z12171) = y := ⟨_, rfl⟩
                        refine pm_R_iald pm_M92 (pc_q := 251) (v := z12174) (pm_q92_2 (Nat.le_of_ble_eq_true rfl)) (T12160.im kq11776.2.2.1 (by decide) (by decide) eE11770) (T12160.al kq11776.2.2.1 (by decide)) q12177.1 ez12175 rfl ?_
                        refine pm_R_lo pm_M92 (pc_q := 253) (pm_q92_2 (Nat.le_of_ble_eq_true rfl)) rfl rfl ?_
                        refine pm_R_lo pm_M92 (pc_q := 255) (pm_q92_2 (Nat.le_of_ble_eq_true rfl)) rfl rfl ?_
                        refine pm_R_cs pm_M92 (pc_q := 258) (ra := [.int r12137, .int r12124, .int z12174]) (rest := []) (ls_q := [.int z12174, .int r12124, .int r12137]) (pm_q92_2 (Nat.le_of_ble_eq_true rfl)) rfl (Or.inr rfl) pm_M88 rfl rfl (Nat.le_of_ble_eq_true rfl) rfl rfl ?_
                        refine cl_c88_u (d := d + 13)  (fun r12178 => ?_)
                        show pm_R _ 92 258 [.ref 33, .int a0, .int a1, .int a2, .long a3, pm_no, .int 1, .long y7_11755, pm_no, .int x9_8826, .int x10_11755, .long z11814, pm_no, .long r12024, pm_no, .int 1, .int r12124, .int r12137] [.int r12178] _ _
                        exact pm_R_ret pm_M92 (r := some (.int r12178)) (pm_q92_2 (Nat.le_of_ble_eq_true rfl)) (pm_ret_i _) (K r12178 m12162 h12159 T12160 F12165 W12170)
                    · have B12185 : sf_B 0 2147483647 z12041 := sf_leR (Int32.not_lt.mp c12043) sf_k0 (sf_any z12041)
                      have k12186 := lf_ge e12042 B12185 (by decide)
                      refine pm_R_lo pm_M92 (pc_q := 113) rfl rfl rfl ?_
                      refine pm_R_ldc2 pm_M92 (pc_q := 116) (pm_q92_1 (Nat.le_of_ble_eq_true rfl)) rfl rfl ?_
                      refine sf_R_lcmp pm_M92 (pc_q := 117) (pm_q92_1 (Nat.le_of_ble_eq_true rfl)) rfl (fun z12187 e12188 => ?_)
                      refine pm_R_ifc pm_M92 (t := 259) (pc_q := 120) (pm_q92_1 (Nat.le_of_ble_eq_true rfl)) rfl rfl (fun c12189 => ?_) (fun c12189 => ?_)
                      · have k12190 := sf_lneC e12188 c12189
                        refine pm_R_lo pm_M92 (pc_q := 261) (pm_q92_2 (Nat.le_of_ble_eq_true rfl)) rfl rfl ?_
                        refine pm_R_lo pm_M92 (pc_q := 263) (pm_q92_2 (Nat.le_of_ble_eq_true rfl)) rfl rfl ?_
                        refine sf_R_lany pm_M92 (pc_q := 264) (st := []) (pm_q92_2 (Nat.le_of_ble_eq_true rfl)) rfl rfl (fun z12191 => ?_)
                        refine pm_R_lo pm_M92 (pc_q := 266) (ls_q := [.ref 33, .int a0, .int a1, .int a2, .long a3, pm_no, .int 1, .long z12191, pm_no, .int x9_8826, .int x10_11755, .long z11814, pm_no, .long r12024, pm_no, pm_no, pm_no, pm_no]) (st_q := []) (pm_q92_2 (Nat.le_of_ble_eq_true rfl)) rfl rfl ?_
                        refine sf_R_iinc pm_M92 (pc_q := 269) (ls_q := fun z => [.ref 33, .int a0, .int a1, .int a2, .long a3, pm_no, .int 1, .long z12191, pm_no, .int x9_8826, .int z, .long z11814, pm_no, .long r12024, pm_no, pm_no, pm_no, pm_no]) (pm_q92_2 (Nat.le_of_ble_eq_true rfl)) B11781 rfl (by decide) (by decide) (by decide) (fun _ => rfl) rfl (fun z12192 e12193 B12194 => ?_)
                        show pm_R _ 92 269 [.ref 33, .int a0, .int a1, .int a2, .long a3, pm_no, .int 1, .long z12191, pm_no, .int x9_8826, .int z12192, .long z11814, pm_no, .long r12024, pm_no, pm_no, pm_no, pm_no] [] _ _
                        refine pm_R_br pm_M92 (pc_q := 37) (pm_q92_2 (Nat.le_of_ble_eq_true rfl)) rfl ?_
                        exact ih_11755 _ (sf_up hN_11755 e12193 B11781 (by decide) (by decide)) z12192 z12191 (.long z11814) (pm_no) (.long r12024) (pm_no) (sf_weak B12194 (by decide) (by decide)) rfl rfl rfl
                      · have B12195 : sf_B 0 0 z12187 := sf_eqL (Classical.not_not.mp c12189) sf_k0
                        have B12196 : lf_B (-1) (-1) r12024 := lf_eqB e12188 B12195 (⟨by decide, by decide⟩ : lf_B (-1) (-1) (-1))
                        refine pm_R_lo pm_M92 (pc_q := 122) (pm_q92_1 (Nat.le_of_ble_eq_true rfl)) rfl rfl ?_
                        refine pm_R_ldc2 pm_M92 (pc_q := 125) (pm_q92_1 (Nat.le_of_ble_eq_true rfl)) rfl rfl ?_
                        refine sf_R_lcmp pm_M92 (pc_q := 126) (pm_q92_1 (Nat.le_of_ble_eq_true rfl)) rfl (fun z12197 e12198 => ?_)
                        refine pm_R_ifc pm_M92 (t := 133) (pc_q := 129) (pm_q92_1 (Nat.le_of_ble_eq_true rfl)) rfl rfl (fun c12199 => ?_) (fun c12199 => ?_)
                        · have k12200 := sf_lneC e12198 c12199
                          refine pm_R_op pm_M92 (pc_q := 134) (st_q := [.int 0]) (pm_q92_1 (Nat.le_of_ble_eq_true rfl)) rfl rfl ?_
                          refine pm_R_lo pm_M92 (pc_q := 136) (ls_q := [.ref 33, .int a0, .int a1, .int a2, .long a3, pm_no, .int 1, .long y7_11755, pm_no, .int x9_8826, .int x10_11755, .long z11814, pm_no, .long r12024, pm_no, .int 0, pm_no, pm_no]) (st_q := []) (pm_q92_1 (Nat.le_of_ble_eq_true rfl)) rfl rfl ?_
                          refine pm_R_lo pm_M92 (pc_q := 137) (pm_q92_1 (Nat.le_of_ble_eq_true rfl)) rfl rfl ?_
                          refine pm_R_lo pm_M92 (pc_q := 138) (pm_q92_1 (Nat.le_of_ble_eq_true rfl)) rfl rfl ?_
                          refine pm_R_get pm_M92 (pc_q := 141) (v := .ref lo) (pm_q92_1 (Nat.le_of_ble_eq_true rfl)) rfl T.e33 (by decide) (T.lt (by decide)) (by show some (va_rf (o 1)) = _; rw [ol]; rfl) rfl ?_
                          refine pm_R_get pm_M92 (pc_q := 144) (v := .ref (lo + 3)) (pm_q92_1 (Nat.le_of_ble_eq_true rfl)) rfl (T.im hkl (by decide) (by decide) eE11767) (G.ge hkl (by decide)) (T.al hkl (by decide)) rfl rfl ?_
                          refine pm_R_lo pm_M92 (pc_q := 146) (pm_q92_1 (Nat.le_of_ble_eq_true rfl)) rfl rfl ?_
                          refine pm_R_op pm_M92 (pc_q := 147) (st_q := [.int 4, .int x10_11755, .ref (lo + 3), .ref 33]) (pm_q92_1 (Nat.le_of_ble_eq_true rfl)) rfl rfl ?_
                          refine sf_R_imulV pm_M92 (pc_q := 148) (pm_q92_1 (Nat.le_of_ble_eq_true rfl)) rfl B11781 sf_k4 (by decide) (by decide) (by decide) e11802 ?_
                          refine pm_R_op pm_M92 (pc_q := 149) (st_q := [.int 1, .int z11801, .ref (lo + 3), .ref 33]) (pm_q92_1 (Nat.le_of_ble_eq_true rfl)) rfl rfl ?_
                          refine sf_R_iaddV pm_M92 (pc_q := 150) (pm_q92_1 (Nat.le_of_ble_eq_true rfl)) rfl B11803 sf_k1 (by decide) (by decide) e12012 ?_
                          have q12204 := cl_in4 (n := rc11756) (Nat.le_trans h11764 (by decide)) (Int32.not_le.mp c11777) (cl_aux7 _ _ _ e11802 e12012) B11781 (by decide) (by decide)
                          refine pm_R_iald pm_M92 (pc_q := 151) (v := z12014) (pm_q92_1 (Nat.le_of_ble_eq_true rfl)) (T.im kq11776.2.2.1 (by decide) (by decide) eE11770) (T.al kq11776.2.2.1 (by decide)) q12204.1 ez12015 rfl ?_
                          refine pm_R_lo pm_M92 (pc_q := 152) (pm_q92_1 (Nat.le_of_ble_eq_true rfl)) rfl rfl ?_
                          refine pm_R_lo pm_M92 (pc_q := 154) (pm_q92_1 (Nat.le_of_ble_eq_true rfl)) rfl rfl ?_
                          refine pm_R_lo pm_M92 (pc_q := 156) (pm_q92_1 (Nat.le_of_ble_eq_true rfl)) rfl rfl ?_
                          refine pm_R_br pm_M92 (pc_q := 163) (st_q := [.int x9_8826, .int a1, .int z12014, .ref 33]) (pm_q92_1 (Nat.le_of_ble_eq_true rfl)) rfl ?_
                          refine pm_R_lo pm_M92 (pc_q := 165) (pm_q92_1 (Nat.le_of_ble_eq_true rfl)) rfl rfl ?_
                          refine pm_R_lo pm_M92 (pc_q := 167) (pm_q92_1 (Nat.le_of_ble_eq_true rfl)) rfl rfl ?_
                          refine sf_R_ldivA pm_M92 (pc_q := 168) (pm_q92_1 (Nat.le_of_ble_eq_true rfl)) rfl k12040 (fun z12205 => ?_)
                          refine pm_R_lo pm_M92 (pc_q := 170) (pm_q92_1 (Nat.le_of_ble_eq_true rfl)) rfl rfl ?_
                          refine pm_R_op pm_M92 (pc_q := 171) (st_q := [.int 1, .int 1, .long z12205, .int x9_8826, .int a1, .int z12014, .ref 33]) (pm_q92_1 (Nat.le_of_ble_eq_true rfl)) rfl rfl ?_
                          refine pm_R_op pm_M92 (pc_q := 172) (st_q := [.int 2, .long z12205, .int x9_8826, .int a1, .int z12014, .ref 33]) (pm_q92_1 (Nat.le_of_ble_eq_true rfl)) rfl rfl ?_
                          refine pm_R_cv pm_M92 (pc_q := 175) (a := 33) (ra := [.int 2, .long z12205, .int x9_8826, .int a1, .int z12014]) (rest := []) (ls_q := [.ref 33, .int z12014, .int a1, .int x9_8826, .long z12205, pm_no, .int 2, pm_no, pm_no, pm_no, pm_no, pm_no, pm_no, pm_no, pm_no, pm_no, pm_no, pm_no]) (pm_q92_1 (Nat.le_of_ble_eq_true rfl)) rfl (Or.inl rfl) pm_M92 T.e33 rfl (by decide) (T.lt (by decide)) rfl rfl (Nat.le_of_ble_eq_true rfl) rfl rfl ?_
                          refine cl_c92_2 (d := d + 0) G T B12016 (sf_weak B19 (by decide) (by decide)) (sf_weak B8829 (by decide) (by decide)) ol orr eE5 P1 (Int32.lt_iff_toInt_lt.mpr (cl_aux14 _ _ _ (Int32.lt_iff_toInt_lt.mp (Int32.not_le.mp c8827)) (Int32.lt_iff_toInt_lt.mp P2))) (fun r12206 m12208 h12209 T12210 F12211 W12212 => ?_)
                          have F12213 := (cl_F.refl (ck := ck) (A := [33, 35]) (n := 0) (s := 0) T.1).trans (N := 0) (S := 0) F12211 (by decide) (by decide) (by decide)
                          have W12214 : rf_W [14, 15] m m12208 := (rf_W.refl [14, 15] m).trans W12212 (by decide)
                          show pm_R _ 92 175 [.ref 33, .int a0, .int a1, .int a2, .long a3, pm_no, .int 1, .long y7_11755, pm_no, .int x9_8826, .int x10_11755, .long z11814, pm_no, .long r12024, pm_no, .int 0, pm_no, pm_no] [.int r12206] _ _
                          refine pm_R_lo pm_M92 (pc_q := 177) (ls_q := [.ref 33, .int a0, .int a1, .int a2, .long a3, pm_no, .int 1, .long y7_11755, pm_no, .int x9_8826, .int x10_11755, .long z11814, pm_no, .long r12024, pm_no, .int 0, .int r12206, pm_no]) (st_q := []) (pm_q92_1 (Nat.le_of_ble_eq_true rfl)) rfl rfl ?_
                          refine pm_R_lo pm_M92 (pc_q := 178) (pm_q92_1 (Nat.le_of_ble_eq_true rfl)) rfl rfl ?_
                          refine pm_R_lo pm_M92 (pc_q := 179) (pm_q92_1 (Nat.le_of_ble_eq_true rfl)) rfl rfl ?_
                          refine pm_R_get pm_M92 (pc_q := 182) (v := .ref lo) (pm_q92_1 (Nat.le_of_ble_eq_true rfl)) rfl T12210.e33 (by decide) (T12210.lt (by decide)) (by show some (va_rf (o 1)) = _; rw [ol]; rfl) rfl ?_
                          refine pm_R_get pm_M92 (pc_q := 185) (v := .ref (lo + 3)) (pm_q92_1 (Nat.le_of_ble_eq_true rfl)) rfl (T12210.im hkl (by decide) (by decide) eE11767) (G.ge hkl (by decide)) (T12210.al hkl (by decide)) rfl rfl ?_
                          refine pm_R_lo pm_M92 (pc_q := 187) (pm_q92_1 (Nat.le_of_ble_eq_true rfl)) rfl rfl ?_
                          refine pm_R_op pm_M92 (pc_q := 188) (st_q := [.int 4, .int x10_11755, .ref (lo + 3), .ref 33]) (pm_q92_1 (Nat.le_of_ble_eq_true rfl)) rfl rfl ?_
                          refine sf_R_imulV pm_M92 (pc_q := 189) (pm_q92_1 (Nat.le_of_ble_eq_true rfl)) rfl B11781 sf_k4 (by decide) (by decide) (by decide) e11802 ?_
                          refine pm_R_op pm_M92 (pc_q := 190) (st_q := [.int 2, .int z11801, .ref (lo + 3), .ref 33]) (pm_q92_1 (Nat.le_of_ble_eq_true rfl)) rfl rfl ?_
                          refine sf_R_iaddV pm_M92 (pc_q := 191) (pm_q92_1 (Nat.le_of_ble_eq_true rfl)) rfl B11803 sf_k2 (by decide) (by decide) e11805 ?_
                          have q12218 := cl_in4 (n := rc11756) (Nat.le_trans h11764 (by decide)) (Int32.not_le.mp c11777) (cl_aux6 _ _ _ e11802 e11805) B11781 (by decide) (by decide)
                          refine pm_R_iald pm_M92 (pc_q := 192) (v := z11807) (pm_q92_1 (Nat.le_of_ble_eq_true rfl)) (T12210.im kq11776.2.2.1 (by decide) (by decide) eE11770) (T12210.al kq11776.2.2.1 (by decide)) q12218.1 ez11808 rfl ?_
                          refine pm_R_lo pm_M92 (pc_q := 194) (pm_q92_1 (Nat.le_of_ble_eq_true rfl)) rfl rfl ?_
                          refine pm_R_op pm_M92 (pc_q := 195) (st_q := [.int 1, .int x9_8826, .int z11807, .ref 33]) (pm_q92_1 (Nat.le_of_ble_eq_true rfl)) rfl rfl ?_
                          refine sf_R_iaddV pm_M92 (pc_q := 196) (pm_q92_1 (Nat.le_of_ble_eq_true rfl)) rfl B8829 sf_k1 (by decide) (by decide) e11784 ?_
                          refine pm_R_lo pm_M92 (pc_q := 197) (pm_q92_1 (Nat.le_of_ble_eq_true rfl)) rfl rfl ?_
                          refine pm_R_lo pm_M92 (pc_q := 199) (pm_q92_1 (Nat.le_of_ble_eq_true rfl)) rfl rfl ?_
                          refine pm_R_br pm_M92 (pc_q := 207) (st_q := [.int a2, .int z11783, .int z11807, .ref 33]) (pm_q92_1 (Nat.le_of_ble_eq_true rfl)) rfl ?_
                          refine pm_R_lo pm_M92 (pc_q := 209) (pm_q92_1 (Nat.le_of_ble_eq_true rfl)) rfl rfl ?_
                          refine pm_R_lo pm_M92 (pc_q := 211) (pm_q92_1 (Nat.le_of_ble_eq_true rfl)) rfl rfl ?_
                          refine sf_R_lremA pm_M92 (pc_q := 212) (pm_q92_1 (Nat.le_of_ble_eq_true rfl)) rfl k12040 (fun z12219 => ?_)
                          refine pm_R_lo pm_M92 (pc_q := 214) (pm_q92_1 (Nat.le_of_ble_eq_true rfl)) rfl rfl ?_
                          refine pm_R_op pm_M92 (pc_q := 215) (st_q := [.int 1, .int 1, .long z12219, .int a2, .int z11783, .int z11807, .ref 33]) (pm_q92_1 (Nat.le_of_ble_eq_true rfl)) rfl rfl ?_
                          refine pm_R_op pm_M92 (pc_q := 216) (st_q := [.int 2, .long z12219, .int a2, .int z11783, .int z11807, .ref 33]) (pm_q92_1 (Nat.le_of_ble_eq_true rfl)) rfl rfl ?_
                          refine pm_R_cv pm_M92 (pc_q := 219) (a := 33) (ra := [.int 2, .long z12219, .int a2, .int z11783, .int z11807]) (rest := []) (ls_q := [.ref 33, .int z11807, .int z11783, .int a2, .long z12219, pm_no, .int 2, pm_no, pm_no, pm_no, pm_no, pm_no, pm_no, pm_no, pm_no, pm_no, pm_no, pm_no]) (pm_q92_1 (Nat.le_of_ble_eq_true rfl)) rfl (Or.inl rfl) pm_M92 T12210.e33 rfl (by decide) (T12210.lt (by decide)) rfl rfl (Nat.le_of_ble_eq_true rfl) rfl rfl ?_
                          refine cl_c92_2 (d := d + 0) G T12210 B11809 (sf_weak B11785 (by decide) (by decide)) (sf_weak B20 (by decide) (by decide)) ol orr eE5 (Int32.lt_iff_toInt_lt.mpr (cl_aux15 _ _ _ _ e11784 (Int32.lt_iff_toInt_lt.mp (Int32.not_le.mp c8827)) (Int32.lt_iff_toInt_lt.mp P2))) P2 (fun r12220 m12222 h12223 T12224 F12225 W12226 => ?_)
                          have F12227 := F12213.trans (N := 0) (S := 0) F12225 (by decide) (by decide) (by decide)
                          have W12228 : rf_W [14, 15] m m12222 := W12214.trans W12226 (by decide)
                          show pm_R _ 92 219 [.ref 33, .int a0, .int a1, .int a2, .long a3, pm_no, .int 1, .long y7_11755, pm_no, .int x9_8826, .int x10_11755, .long z11814, pm_no, .long r12024, pm_no, .int 0, .int r12206, pm_no] [.int r12220] _ _
                          refine pm_R_lo pm_M92 (pc_q := 221) (ls_q := [.ref 33, .int a0, .int a1, .int a2, .long a3, pm_no, .int 1, .long y7_11755, pm_no, .int x9_8826, .int x10_11755, .long z11814, pm_no, .long r12024, pm_no, .int 0, .int r12206, .int r12220]) (st_q := []) (pm_q92_2 (Nat.le_of_ble_eq_true rfl)) rfl rfl ?_
                          refine pm_R_lo pm_M92 (pc_q := 222) (pm_q92_2 (Nat.le_of_ble_eq_true rfl)) rfl rfl ?_
                          refine pm_R_lo pm_M92 (pc_q := 224) (pm_q92_2 (Nat.le_of_ble_eq_true rfl)) rfl rfl ?_
                          refine cl_R_put33 G pm_M92 T12224 (k := 14) (pc_q := 227) (pm_q92_2 (Nat.le_of_ble_eq_true rfl)) rfl rfl (by decide) rfl rfl (sf_any _) rfl rfl rfl rfl rfl (fun h12229 m12232 em12233 T12230 F12231 => ?_)
                          have F12234 := F12231.cl (ck := ck) T12224.1
                          have F12235 := F12227.trans (N := 0) (S := 0) F12234 (by decide) (by decide) (by decide)
                          have B12236 : sf_B 0 9 (m12232 14) := by rw [em12233]; exact B11781
                          have ek12237 : (m12232 14).toInt = (x10_11755).toInt := by rw [em12233]; rfl
                          have W12238 : rf_W [14, 15] m m12232 := by rw [em12233]; exact W12228.put (by decide)
                          refine pm_R_lo pm_M92 (pc_q := 228) (pm_q92_2 (Nat.le_of_ble_eq_true rfl)) rfl rfl ?_
                          refine pm_R_lo pm_M92 (pc_q := 230) (pm_q92_2 (Nat.le_of_ble_eq_true rfl)) rfl rfl ?_
                          refine pm_R_op pm_M92 (pc_q := 231) (st_q := [.int 1, .int x9_8826, .ref 33]) (pm_q92_2 (Nat.le_of_ble_eq_true rfl)) rfl rfl ?_
                          refine sf_R_iaddV pm_M92 (pc_q := 232) (pm_q92_2 (Nat.le_of_ble_eq_true rfl)) rfl B8829 sf_k1 (by decide) (by decide) e11784 ?_
                          refine pm_R_lo pm_M92 (pc_q := 233) (pm_q92_2 (Nat.le_of_ble_eq_true rfl)) rfl rfl ?_
                          refine sf_R_isub pm_M92 (pc_q := 234) (pm_q92_2 (Nat.le_of_ble_eq_true rfl)) rfl B11785 B19 (by decide) (by decide) (fun z12239 e12240 B12241 => ?_)
                          refine cl_R_put33 G pm_M92 T12230 (k := 15) (pc_q := 237) (pm_q92_2 (Nat.le_of_ble_eq_true rfl)) rfl rfl (by decide) rfl rfl (sf_any _) rfl rfl rfl rfl rfl (fun h12242 m12245 em12246 T12243 F12244 => ?_)
                          have F12247 := F12244.cl (ck := ck) T12230.1
                          have F12248 := F12235.trans (N := 0) (S := 0) F12247 (by decide) (by decide) (by decide)
                          have B12249 : sf_B 0 9 (m12245 14) := by rw [em12246]; exact B12236
                          have ek12250 : (m12245 14).toInt = (x10_11755).toInt := by rw [em12246]; exact ek12237
                          have B12251 : sf_B (-9) 11 (m12245 15) := by rw [em12246]; exact B12241
                          have ek12252 : (m12245 15).toInt = (z12239).toInt := by rw [em12246]; rfl
                          have W12253 : rf_W [14, 15] m m12245 := by rw [em12246]; exact W12238.put (by decide)
                          refine pm_R_lo pm_M92 (pc_q := 238) (pm_q92_2 (Nat.le_of_ble_eq_true rfl)) rfl rfl ?_
                          refine pm_R_get pm_M92 (pc_q := 241) (v := .ref lo) (pm_q92_2 (Nat.le_of_ble_eq_true rfl)) rfl T12243.e33 (by decide) (T12243.lt (by decide)) (by show some (va_rf (o 1)) = _; rw [ol]; rfl) rfl ?_
                          refine pm_R_get pm_M92 (pc_q := 244) (v := .ref (lo + 3)) (pm_q92_2 (Nat.le_of_ble_eq_true rfl)) rfl (T12243.im hkl (by decide) (by decide) eE11767) (G.ge hkl (by decide)) (T12243.al hkl (by decide)) rfl rfl ?_
                          refine pm_R_lo pm_M92 (pc_q := 246) (pm_q92_2 (Nat.le_of_ble_eq_true rfl)) rfl rfl ?_
                          refine pm_R_op pm_M92 (pc_q := 247) (st_q := [.int 4, .int x10_11755, .ref (lo + 3)]) (pm_q92_2 (Nat.le_of_ble_eq_true rfl)) rfl rfl ?_
                          refine sf_R_imulV pm_M92 (pc_q := 248) (pm_q92_2 (Nat.le_of_ble_eq_true rfl)) rfl B11781 sf_k4 (by decide) (by decide) (by decide) e11802 ?_
                          refine pm_R_op pm_M92 (pc_q := 249) (st_q := [.int 3, .int z11801, .ref (lo + 3)]) (pm_q92_2 (Nat.le_of_ble_eq_true rfl)) rfl rfl ?_
                          refine sf_R_iadd pm_M92 (pc_q := 250) (pm_q92_2 (Nat.le_of_ble_eq_true rfl)) rfl B11803 sf_k3 (by decide) (by decide) (fun z12254 e12255 B12256 => ?_)
                          have q12260 := cl_in4 (n := rc11756) (Nat.le_trans h11764 (by decide)) (Int32.not_le.mp c11777) (cl_aux9 _ _ _ e11802 e12255) B11781 (by decide) (by decide)
                          obtain ⟨z12257, ez12258⟩ : ∃ y, fr11761 (Int32.toNatClampNeg z12254) = y := ⟨_, rfl⟩
                          refine pm_R_iald pm_M92 (pc_q := 251) (v := z12257) (pm_q92_2 (Nat.le_of_ble_eq_true rfl)) (T12243.im kq11776.2.2.1 (by decide) (by decide) eE11770) (T12243.al kq11776.2.2.1 (by decide)) q12260.1 ez12258 rfl ?_
                          refine pm_R_lo pm_M92 (pc_q := 253) (pm_q92_2 (Nat.le_of_ble_eq_true rfl)) rfl rfl ?_
                          refine pm_R_lo pm_M92 (pc_q := 255) (pm_q92_2 (Nat.le_of_ble_eq_true rfl)) rfl rfl ?_
                          refine pm_R_cs pm_M92 (pc_q := 258) (ra := [.int r12220, .int r12206, .int z12257]) (rest := []) (ls_q := [.int z12257, .int r12206, .int r12220]) (pm_q92_2 (Nat.le_of_ble_eq_true rfl)) rfl (Or.inr rfl) pm_M88 rfl rfl (Nat.le_of_ble_eq_true rfl) rfl rfl ?_
                          refine cl_c88_u (d := d + 13)  (fun r12261 => ?_)
                          show pm_R _ 92 258 [.ref 33, .int a0, .int a1, .int a2, .long a3, pm_no, .int 1, .long y7_11755, pm_no, .int x9_8826, .int x10_11755, .long z11814, pm_no, .long r12024, pm_no, .int 0, .int r12206, .int r12220] [.int r12261] _ _
                          exact pm_R_ret pm_M92 (r := some (.int r12261)) (pm_q92_2 (Nat.le_of_ble_eq_true rfl)) (pm_ret_i _) (K r12261 m12245 h12242 T12243 F12248 W12253)
                        · have B12268 : sf_B 0 0 z12197 := sf_eqL (Classical.not_not.mp c12199) sf_k0
                          have B12269 : lf_B (-1) (-1) z11814 := lf_eqB e12198 B12268 (⟨by decide, by decide⟩ : lf_B (-1) (-1) (-1))
                          refine pm_R_op pm_M92 (pc_q := 130) (st_q := [.int 1]) (pm_q92_1 (Nat.le_of_ble_eq_true rfl)) rfl rfl ?_
                          refine pm_R_br pm_M92 (pc_q := 134) (pm_q92_1 (Nat.le_of_ble_eq_true rfl)) rfl ?_
                          refine pm_R_lo pm_M92 (pc_q := 136) (ls_q := [.ref 33, .int a0, .int a1, .int a2, .long a3, pm_no, .int 1, .long y7_11755, pm_no, .int x9_8826, .int x10_11755, .long z11814, pm_no, .long r12024, pm_no, .int 1, pm_no, pm_no]) (st_q := []) (pm_q92_1 (Nat.le_of_ble_eq_true rfl)) rfl rfl ?_
                          refine pm_R_lo pm_M92 (pc_q := 137) (pm_q92_1 (Nat.le_of_ble_eq_true rfl)) rfl rfl ?_
                          refine pm_R_lo pm_M92 (pc_q := 138) (pm_q92_1 (Nat.le_of_ble_eq_true rfl)) rfl rfl ?_
                          refine pm_R_get pm_M92 (pc_q := 141) (v := .ref lo) (pm_q92_1 (Nat.le_of_ble_eq_true rfl)) rfl T.e33 (by decide) (T.lt (by decide)) (by show some (va_rf (o 1)) = _; rw [ol]; rfl) rfl ?_
                          refine pm_R_get pm_M92 (pc_q := 144) (v := .ref (lo + 3)) (pm_q92_1 (Nat.le_of_ble_eq_true rfl)) rfl (T.im hkl (by decide) (by decide) eE11767) (G.ge hkl (by decide)) (T.al hkl (by decide)) rfl rfl ?_
                          refine pm_R_lo pm_M92 (pc_q := 146) (pm_q92_1 (Nat.le_of_ble_eq_true rfl)) rfl rfl ?_
                          refine pm_R_op pm_M92 (pc_q := 147) (st_q := [.int 4, .int x10_11755, .ref (lo + 3), .ref 33]) (pm_q92_1 (Nat.le_of_ble_eq_true rfl)) rfl rfl ?_
                          refine sf_R_imulV pm_M92 (pc_q := 148) (pm_q92_1 (Nat.le_of_ble_eq_true rfl)) rfl B11781 sf_k4 (by decide) (by decide) (by decide) e11802 ?_
                          refine pm_R_op pm_M92 (pc_q := 149) (st_q := [.int 1, .int z11801, .ref (lo + 3), .ref 33]) (pm_q92_1 (Nat.le_of_ble_eq_true rfl)) rfl rfl ?_
                          refine sf_R_iaddV pm_M92 (pc_q := 150) (pm_q92_1 (Nat.le_of_ble_eq_true rfl)) rfl B11803 sf_k1 (by decide) (by decide) e12012 ?_
                          have q12273 := cl_in4 (n := rc11756) (Nat.le_trans h11764 (by decide)) (Int32.not_le.mp c11777) (cl_aux7 _ _ _ e11802 e12012) B11781 (by decide) (by decide)
                          refine pm_R_iald pm_M92 (pc_q := 151) (v := z12014) (pm_q92_1 (Nat.le_of_ble_eq_true rfl)) (T.im kq11776.2.2.1 (by decide) (by decide) eE11770) (T.al kq11776.2.2.1 (by decide)) q12273.1 ez12015 rfl ?_
                          refine pm_R_lo pm_M92 (pc_q := 152) (pm_q92_1 (Nat.le_of_ble_eq_true rfl)) rfl rfl ?_
                          refine pm_R_lo pm_M92 (pc_q := 154) (pm_q92_1 (Nat.le_of_ble_eq_true rfl)) rfl rfl ?_
                          refine pm_R_lo pm_M92 (pc_q := 156) (pm_q92_1 (Nat.le_of_ble_eq_true rfl)) rfl rfl ?_
                          refine pm_R_br pm_M92 (pc_q := 159) (st_q := [.int x9_8826, .int a1, .int z12014, .ref 33]) (pm_q92_1 (Nat.le_of_ble_eq_true rfl)) rfl ?_
                          refine pm_R_op pm_M92 (pc_q := 160) (st_q := [.long 0, .int x9_8826, .int a1, .int z12014, .ref 33]) (pm_q92_1 (Nat.le_of_ble_eq_true rfl)) rfl rfl ?_
                          refine pm_R_br pm_M92 (pc_q := 168) (pm_q92_1 (Nat.le_of_ble_eq_true rfl)) rfl ?_
                          refine pm_R_lo pm_M92 (pc_q := 170) (pm_q92_1 (Nat.le_of_ble_eq_true rfl)) rfl rfl ?_
                          refine pm_R_op pm_M92 (pc_q := 171) (st_q := [.int 1, .int 1, .long 0, .int x9_8826, .int a1, .int z12014, .ref 33]) (pm_q92_1 (Nat.le_of_ble_eq_true rfl)) rfl rfl ?_
                          refine pm_R_op pm_M92 (pc_q := 172) (st_q := [.int 2, .long 0, .int x9_8826, .int a1, .int z12014, .ref 33]) (pm_q92_1 (Nat.le_of_ble_eq_true rfl)) rfl rfl ?_
                          refine pm_R_cv pm_M92 (pc_q := 175) (a := 33) (ra := [.int 2, .long 0, .int x9_8826, .int a1, .int z12014]) (rest := []) (ls_q := [.ref 33, .int z12014, .int a1, .int x9_8826, .long 0, pm_no, .int 2, pm_no, pm_no, pm_no, pm_no, pm_no, pm_no, pm_no, pm_no, pm_no, pm_no, pm_no]) (pm_q92_1 (Nat.le_of_ble_eq_true rfl)) rfl (Or.inl rfl) pm_M92 T.e33 rfl (by decide) (T.lt (by decide)) rfl rfl (Nat.le_of_ble_eq_true rfl) rfl rfl ?_
                          refine cl_c92_2 (d := d + 0) G T B12016 (sf_weak B19 (by decide) (by decide)) (sf_weak B8829 (by decide) (by decide)) ol orr eE5 P1 (Int32.lt_iff_toInt_lt.mpr (cl_aux14 _ _ _ (Int32.lt_iff_toInt_lt.mp (Int32.not_le.mp c8827)) (Int32.lt_iff_toInt_lt.mp P2))) (fun r12274 m12276 h12277 T12278 F12279 W12280 => ?_)
                          have F12281 := (cl_F.refl (ck := ck) (A := [33, 35]) (n := 0) (s := 0) T.1).trans (N := 0) (S := 0) F12279 (by decide) (by decide) (by decide)
                          have W12282 : rf_W [14, 15] m m12276 := (rf_W.refl [14, 15] m).trans W12280 (by decide)
                          show pm_R _ 92 175 [.ref 33, .int a0, .int a1, .int a2, .long a3, pm_no, .int 1, .long y7_11755, pm_no, .int x9_8826, .int x10_11755, .long z11814, pm_no, .long r12024, pm_no, .int 1, pm_no, pm_no] [.int r12274] _ _
                          refine pm_R_lo pm_M92 (pc_q := 177) (ls_q := [.ref 33, .int a0, .int a1, .int a2, .long a3, pm_no, .int 1, .long y7_11755, pm_no, .int x9_8826, .int x10_11755, .long z11814, pm_no, .long r12024, pm_no, .int 1, .int r12274, pm_no]) (st_q := []) (pm_q92_1 (Nat.le_of_ble_eq_true rfl)) rfl rfl ?_
                          refine pm_R_lo pm_M92 (pc_q := 178) (pm_q92_1 (Nat.le_of_ble_eq_true rfl)) rfl rfl ?_
                          refine pm_R_lo pm_M92 (pc_q := 179) (pm_q92_1 (Nat.le_of_ble_eq_true rfl)) rfl rfl ?_
                          refine pm_R_get pm_M92 (pc_q := 182) (v := .ref lo) (pm_q92_1 (Nat.le_of_ble_eq_true rfl)) rfl T12278.e33 (by decide) (T12278.lt (by decide)) (by show some (va_rf (o 1)) = _; rw [ol]; rfl) rfl ?_
                          refine pm_R_get pm_M92 (pc_q := 185) (v := .ref (lo + 3)) (pm_q92_1 (Nat.le_of_ble_eq_true rfl)) rfl (T12278.im hkl (by decide) (by decide) eE11767) (G.ge hkl (by decide)) (T12278.al hkl (by decide)) rfl rfl ?_
                          refine pm_R_lo pm_M92 (pc_q := 187) (pm_q92_1 (Nat.le_of_ble_eq_true rfl)) rfl rfl ?_
                          refine pm_R_op pm_M92 (pc_q := 188) (st_q := [.int 4, .int x10_11755, .ref (lo + 3), .ref 33]) (pm_q92_1 (Nat.le_of_ble_eq_true rfl)) rfl rfl ?_
                          refine sf_R_imulV pm_M92 (pc_q := 189) (pm_q92_1 (Nat.le_of_ble_eq_true rfl)) rfl B11781 sf_k4 (by decide) (by decide) (by decide) e11802 ?_
                          refine pm_R_op pm_M92 (pc_q := 190) (st_q := [.int 2, .int z11801, .ref (lo + 3), .ref 33]) (pm_q92_1 (Nat.le_of_ble_eq_true rfl)) rfl rfl ?_
                          refine sf_R_iaddV pm_M92 (pc_q := 191) (pm_q92_1 (Nat.le_of_ble_eq_true rfl)) rfl B11803 sf_k2 (by decide) (by decide) e11805 ?_
                          have q12286 := cl_in4 (n := rc11756) (Nat.le_trans h11764 (by decide)) (Int32.not_le.mp c11777) (cl_aux6 _ _ _ e11802 e11805) B11781 (by decide) (by decide)
                          refine pm_R_iald pm_M92 (pc_q := 192) (v := z11807) (pm_q92_1 (Nat.le_of_ble_eq_true rfl)) (T12278.im kq11776.2.2.1 (by decide) (by decide) eE11770) (T12278.al kq11776.2.2.1 (by decide)) q12286.1 ez11808 rfl ?_
                          refine pm_R_lo pm_M92 (pc_q := 194) (pm_q92_1 (Nat.le_of_ble_eq_true rfl)) rfl rfl ?_
                          refine pm_R_op pm_M92 (pc_q := 195) (st_q := [.int 1, .int x9_8826, .int z11807, .ref 33]) (pm_q92_1 (Nat.le_of_ble_eq_true rfl)) rfl rfl ?_
                          refine sf_R_iaddV pm_M92 (pc_q := 196) (pm_q92_1 (Nat.le_of_ble_eq_true rfl)) rfl B8829 sf_k1 (by decide) (by decide) e11784 ?_
                          refine pm_R_lo pm_M92 (pc_q := 197) (pm_q92_1 (Nat.le_of_ble_eq_true rfl)) rfl rfl ?_
                          refine pm_R_lo pm_M92 (pc_q := 199) (pm_q92_1 (Nat.le_of_ble_eq_true rfl)) rfl rfl ?_
                          refine pm_R_br pm_M92 (pc_q := 202) (st_q := [.int a2, .int z11783, .int z11807, .ref 33]) (pm_q92_1 (Nat.le_of_ble_eq_true rfl)) rfl ?_
                          refine pm_R_lo pm_M92 (pc_q := 204) (pm_q92_1 (Nat.le_of_ble_eq_true rfl)) rfl rfl ?_
                          refine pm_R_br pm_M92 (pc_q := 212) (pm_q92_1 (Nat.le_of_ble_eq_true rfl)) rfl ?_
                          refine pm_R_lo pm_M92 (pc_q := 214) (pm_q92_1 (Nat.le_of_ble_eq_true rfl)) rfl rfl ?_
                          refine pm_R_op pm_M92 (pc_q := 215) (st_q := [.int 1, .int 1, .long y7_11755, .int a2, .int z11783, .int z11807, .ref 33]) (pm_q92_1 (Nat.le_of_ble_eq_true rfl)) rfl rfl ?_
                          refine pm_R_op pm_M92 (pc_q := 216) (st_q := [.int 2, .long y7_11755, .int a2, .int z11783, .int z11807, .ref 33]) (pm_q92_1 (Nat.le_of_ble_eq_true rfl)) rfl rfl ?_
                          refine pm_R_cv pm_M92 (pc_q := 219) (a := 33) (ra := [.int 2, .long y7_11755, .int a2, .int z11783, .int z11807]) (rest := []) (ls_q := [.ref 33, .int z11807, .int z11783, .int a2, .long y7_11755, pm_no, .int 2, pm_no, pm_no, pm_no, pm_no, pm_no, pm_no, pm_no, pm_no, pm_no, pm_no, pm_no]) (pm_q92_1 (Nat.le_of_ble_eq_true rfl)) rfl (Or.inl rfl) pm_M92 T12278.e33 rfl (by decide) (T12278.lt (by decide)) rfl rfl (Nat.le_of_ble_eq_true rfl) rfl rfl ?_
                          refine cl_c92_2 (d := d + 0) G T12278 B11809 (sf_weak B11785 (by decide) (by decide)) (sf_weak B20 (by decide) (by decide)) ol orr eE5 (Int32.lt_iff_toInt_lt.mpr (cl_aux15 _ _ _ _ e11784 (Int32.lt_iff_toInt_lt.mp (Int32.not_le.mp c8827)) (Int32.lt_iff_toInt_lt.mp P2))) P2 (fun r12287 m12289 h12290 T12291 F12292 W12293 => ?_)
                          have F12294 := F12281.trans (N := 0) (S := 0) F12292 (by decide) (by decide) (by decide)
                          have W12295 : rf_W [14, 15] m m12289 := W12282.trans W12293 (by decide)
                          show pm_R _ 92 219 [.ref 33, .int a0, .int a1, .int a2, .long a3, pm_no, .int 1, .long y7_11755, pm_no, .int x9_8826, .int x10_11755, .long z11814, pm_no, .long r12024, pm_no, .int 1, .int r12274, pm_no] [.int r12287] _ _
                          refine pm_R_lo pm_M92 (pc_q := 221) (ls_q := [.ref 33, .int a0, .int a1, .int a2, .long a3, pm_no, .int 1, .long y7_11755, pm_no, .int x9_8826, .int x10_11755, .long z11814, pm_no, .long r12024, pm_no, .int 1, .int r12274, .int r12287]) (st_q := []) (pm_q92_2 (Nat.le_of_ble_eq_true rfl)) rfl rfl ?_
                          refine pm_R_lo pm_M92 (pc_q := 222) (pm_q92_2 (Nat.le_of_ble_eq_true rfl)) rfl rfl ?_
                          refine pm_R_lo pm_M92 (pc_q := 224) (pm_q92_2 (Nat.le_of_ble_eq_true rfl)) rfl rfl ?_
                          refine cl_R_put33 G pm_M92 T12291 (k := 14) (pc_q := 227) (pm_q92_2 (Nat.le_of_ble_eq_true rfl)) rfl rfl (by decide) rfl rfl (sf_any _) rfl rfl rfl rfl rfl (fun h12296 m12299 em12300 T12297 F12298 => ?_)
                          have F12301 := F12298.cl (ck := ck) T12291.1
                          have F12302 := F12294.trans (N := 0) (S := 0) F12301 (by decide) (by decide) (by decide)
                          have B12303 : sf_B 0 9 (m12299 14) := by rw [em12300]; exact B11781
                          have ek12304 : (m12299 14).toInt = (x10_11755).toInt := by rw [em12300]; rfl
                          have W12305 : rf_W [14, 15] m m12299 := by rw [em12300]; exact W12295.put (by decide)
                          refine pm_R_lo pm_M92 (pc_q := 228) (pm_q92_2 (Nat.le_of_ble_eq_true rfl)) rfl rfl ?_
                          refine pm_R_lo pm_M92 (pc_q := 230) (pm_q92_2 (Nat.le_of_ble_eq_true rfl)) rfl rfl ?_
                          refine pm_R_op pm_M92 (pc_q := 231) (st_q := [.int 1, .int x9_8826, .ref 33]) (pm_q92_2 (Nat.le_of_ble_eq_true rfl)) rfl rfl ?_
                          refine sf_R_iaddV pm_M92 (pc_q := 232) (pm_q92_2 (Nat.le_of_ble_eq_true rfl)) rfl B8829 sf_k1 (by decide) (by decide) e11784 ?_
                          refine pm_R_lo pm_M92 (pc_q := 233) (pm_q92_2 (Nat.le_of_ble_eq_true rfl)) rfl rfl ?_
                          refine sf_R_isub pm_M92 (pc_q := 234) (pm_q92_2 (Nat.le_of_ble_eq_true rfl)) rfl B11785 B19 (by decide) (by decide) (fun z12306 e12307 B12308 => ?_)
                          refine cl_R_put33 G pm_M92 T12297 (k := 15) (pc_q := 237) (pm_q92_2 (Nat.le_of_ble_eq_true rfl)) rfl rfl (by decide) rfl rfl (sf_any _) rfl rfl rfl rfl rfl (fun h12309 m12312 em12313 T12310 F12311 => ?_)
                          have F12314 := F12311.cl (ck := ck) T12297.1
                          have F12315 := F12302.trans (N := 0) (S := 0) F12314 (by decide) (by decide) (by decide)
                          have B12316 : sf_B 0 9 (m12312 14) := by rw [em12313]; exact B12303
                          have ek12317 : (m12312 14).toInt = (x10_11755).toInt := by rw [em12313]; exact ek12304
                          have B12318 : sf_B (-9) 11 (m12312 15) := by rw [em12313]; exact B12308
                          have ek12319 : (m12312 15).toInt = (z12306).toInt := by rw [em12313]; rfl
                          have W12320 : rf_W [14, 15] m m12312 := by rw [em12313]; exact W12305.put (by decide)
                          refine pm_R_lo pm_M92 (pc_q := 238) (pm_q92_2 (Nat.le_of_ble_eq_true rfl)) rfl rfl ?_
                          refine pm_R_get pm_M92 (pc_q := 241) (v := .ref lo) (pm_q92_2 (Nat.le_of_ble_eq_true rfl)) rfl T12310.e33 (by decide) (T12310.lt (by decide)) (by show some (va_rf (o 1)) = _; rw [ol]; rfl) rfl ?_
                          refine pm_R_get pm_M92 (pc_q := 244) (v := .ref (lo + 3)) (pm_q92_2 (Nat.le_of_ble_eq_true rfl)) rfl (T12310.im hkl (by decide) (by decide) eE11767) (G.ge hkl (by decide)) (T12310.al hkl (by decide)) rfl rfl ?_
                          refine pm_R_lo pm_M92 (pc_q := 246) (pm_q92_2 (Nat.le_of_ble_eq_true rfl)) rfl rfl ?_
                          refine pm_R_op pm_M92 (pc_q := 247) (st_q := [.int 4, .int x10_11755, .ref (lo + 3)]) (pm_q92_2 (Nat.le_of_ble_eq_true rfl)) rfl rfl ?_
                          refine sf_R_imulV pm_M92 (pc_q := 248) (pm_q92_2 (Nat.le_of_ble_eq_true rfl)) rfl B11781 sf_k4 (by decide) (by decide) (by decide) e11802 ?_
                          refine pm_R_op pm_M92 (pc_q := 249) (st_q := [.int 3, .int z11801, .ref (lo + 3)]) (pm_q92_2 (Nat.le_of_ble_eq_true rfl)) rfl rfl ?_
                          refine sf_R_iadd pm_M92 (pc_q := 250) (pm_q92_2 (Nat.le_of_ble_eq_true rfl)) rfl B11803 sf_k3 (by decide) (by decide) (fun z12321 e12322 B12323 => ?_)
                          have q12327 := cl_in4 (n := rc11756) (Nat.le_trans h11764 (by decide)) (Int32.not_le.mp c11777) (cl_aux9 _ _ _ e11802 e12322) B11781 (by decide) (by decide)
                          obtain ⟨z12324, ez12325⟩ : ∃ y, fr11761 (Int32.toNatClampNeg z12321) = y := ⟨_, rfl⟩
                          refine pm_R_iald pm_M92 (pc_q := 251) (v := z12324) (pm_q92_2 (Nat.le_of_ble_eq_true rfl)) (T12310.im kq11776.2.2.1 (by decide) (by decide) eE11770) (T12310.al kq11776.2.2.1 (by decide)) q12327.1 ez12325 rfl ?_
                          refine pm_R_lo pm_M92 (pc_q := 253) (pm_q92_2 (Nat.le_of_ble_eq_true rfl)) rfl rfl ?_
                          refine pm_R_lo pm_M92 (pc_q := 255) (pm_q92_2 (Nat.le_of_ble_eq_true rfl)) rfl rfl ?_
                          refine pm_R_cs pm_M92 (pc_q := 258) (ra := [.int r12287, .int r12274, .int z12324]) (rest := []) (ls_q := [.int z12324, .int r12274, .int r12287]) (pm_q92_2 (Nat.le_of_ble_eq_true rfl)) rfl (Or.inr rfl) pm_M88 rfl rfl (Nat.le_of_ble_eq_true rfl) rfl rfl ?_
                          refine cl_c88_u (d := d + 13)  (fun r12328 => ?_)
                          show pm_R _ 92 258 [.ref 33, .int a0, .int a1, .int a2, .long a3, pm_no, .int 1, .long y7_11755, pm_no, .int x9_8826, .int x10_11755, .long z11814, pm_no, .long r12024, pm_no, .int 1, .int r12274, .int r12287] [.int r12328] _ _
                          exact pm_R_ret pm_M92 (r := some (.int r12328)) (pm_q92_2 (Nat.le_of_ble_eq_true rfl)) (pm_ret_i _) (K r12328 m12312 h12309 T12310 F12315 W12320)
          exact L_11755 _ 0 y7_8826 (g11_8826) (g12_8826) (g13_8826) (g14_8826) (sf_weak sf_k0 (by decide) (by decide)) Cg12_8826 Cg14_8826 rfl
    exact L_8826 _ a1 a3 (pm_no) (pm_no) (pm_no) (pm_no) (pm_no) (sf_weak B19 (by decide) (by decide)) rfl rfl rfl rfl

set_option maxRecDepth 100000 in
set_option maxHeartbeats 4000000 in
/-- SilentTable$TreeChart.usePart -/
theorem cl_c96 {d : Nat} {ck : cl_K} {E : Nat → pm_E} {m : Nat → Int32} {o : Nat → Option Nat} {h : pm_H} {Q : Option Value → pm_H → Prop} {a0 : Int32} {a1 : Int32} (G : cl_G ck E) (T : cl_T ck E m o h) (Ba0 : sf_B 0 11 a0) (Ba1 : sf_B 0 11 a1) {lo ro : Nat} (ol : o 1 = some lo) (orr : o 2 = some ro) (K : ∀ (m_q : Nat → Int32) (h_q : pm_H), cl_T ck E m_q o h_q → cl_F ck [36] 0 0 h h_q → rf_W [] m m_q → Q none h_q) : pm_R (d + 2) 96 0 [.ref 33, .int a0, .int a1, pm_no, pm_no, pm_no] [] h Q := by
  have hkl := T.oo.2.1 _ ol
  have hkr := T.oo.2.2 _ orr
  refine pm_R_lo pm_M96 (pc_q := 1) rfl rfl rfl ?_
  refine pm_R_get pm_M96 (pc_q := 4) (v := .ref 36) rfl rfl T.e33 (by decide) (T.lt (by decide)) rfl rfl ?_
  refine pm_R_lo pm_M96 (pc_q := 5) rfl rfl rfl ?_
  refine pm_R_lo pm_M96 (pc_q := 6) rfl rfl rfl ?_
  refine pm_R_cs pm_M96 (pc_q := 9) (ra := [.int a1, .int a0]) (rest := [.ref 36]) (ls_q := [.int a0, .int a1]) rfl rfl (Or.inr rfl) pm_M73 rfl rfl (Nat.le_of_ble_eq_true rfl) rfl rfl ?_
  refine pm_R_lo pm_M73 (pc_q := 1) rfl rfl rfl ?_
  refine pm_R_lo pm_M73 (pc_q := 2) rfl rfl rfl ?_
  refine pm_R_op pm_M73 (pc_q := 3) (st_q := [.int 1, .int a1, .int a1]) rfl rfl rfl ?_
  refine sf_R_iadd pm_M73 (pc_q := 4) rfl rfl Ba1 sf_k1 (by decide) (by decide) (fun z1 e2 B3 => ?_)
  refine sf_R_imul pm_M73 (pc_q := 5) rfl rfl Ba1 B3 (by decide) (by decide) (by decide) (fun z4 e5 B6 => ?_)
  refine pm_R_op pm_M73 (pc_q := 6) (st_q := [.int 2, .int z4]) rfl rfl rfl ?_
  refine sf_R_idiv pm_M73 (pc_q := 7) rfl rfl B6 sf_k2 (by decide) (by decide) (fun z7 e8 B9 => ?_)
  refine pm_R_lo pm_M73 (pc_q := 8) rfl rfl rfl ?_
  refine sf_R_iadd pm_M73 (pc_q := 9) rfl rfl B9 Ba0 (by decide) (by decide) (fun z10 e11 B12 => ?_)
  refine pm_R_ret pm_M73 (r := some (.int z10)) rfl (pm_ret_i _) ?_
  show pm_R _ 96 9 [.ref 33, .int a0, .int a1, pm_no, pm_no, pm_no] [.int z10, .ref 36] _ _
  obtain ⟨f16, e17⟩ := T.C 36 (by decide) (by decide)
  obtain ⟨z13, ez14⟩ : ∃ y, f16 (Int32.toNatClampNeg z10) = y := ⟨_, rfl⟩
  refine pm_R_iald pm_M96 (pc_q := 10) (v := z13) rfl e17 (T.lt (by decide)) (sf_in B12 (by decide) (by decide)) ez14 rfl ?_
  refine pm_R_lo pm_M96 (pc_q := 11) (ls_q := [.ref 33, .int a0, .int a1, .int z13, pm_no, pm_no]) (st_q := []) rfl rfl rfl ?_
  refine pm_R_op pm_M96 (pc_q := 12) (st_q := [.int 0]) rfl rfl rfl ?_
  refine pm_R_lo pm_M96 (pc_q := 14) (ls_q := [.ref 33, .int a0, .int a1, .int z13, .int 0, pm_no]) (st_q := []) rfl rfl rfl ?_
  have L_1669 : ∀ (N : Nat) (h_1669 : pm_H) (m_1669 : Nat → Int32) (x4_1669 : Int32) (g5_1669 : Value), cl_T ck E m_1669 o h_1669 → cl_F ck [36] 0 0 h h_1669 → rf_W [] m m_1669 → sf_B 0 10 x4_1669 → g5_1669.category = 1 → (10 - x4_1669.toInt).toNat = N → pm_R (d + 2) 96 14 [.ref 33, .int a0, .int a1, .int z13, .int x4_1669, g5_1669] [] h_1669 Q := by
    intro N
    induction N using Nat.strongRecOn with
    | ind N ih_1669 =>
      intro h_1669 m_1669 x4_1669 g5_1669 T_1669 F_1669 W_1669 Bx4_1669 Cg5_1669 hN_1669
      have W1672 : rf_W [] m m_1669 := (rf_W.refl [] m).trans W_1669 (by decide)
      refine pm_R_lo pm_M96 (pc_q := 16) rfl rfl rfl ?_
      refine pm_R_lo pm_M96 (pc_q := 17) rfl rfl rfl ?_
      refine pm_R_get pm_M96 (pc_q := 20) (v := .ref lo) rfl rfl T_1669.e33 (by decide) (T_1669.lt (by decide)) (by show some (va_rf (o 1)) = _; rw [ol]; rfl) rfl ?_
      obtain ⟨rc1673, tc1674, rs1675, fv1676, fw1677, fr1678, ft1679, fn1680, h1681, h1682, B1683, eE1684, eE1685, eE1686, eE1687, eE1688, eE1689, b1690, b1691, b1692⟩ := (G.2.1 lo hkl).2.2.2.2.2
      have kq1693 := G.2.1 lo hkl
      refine pm_R_get pm_M96 (pc_q := 23) (v := .int (Int32.ofNat rc1673)) rfl rfl (T_1669.im hkl (by decide) (by decide) eE1684) (G.ge hkl (by decide)) (T_1669.al hkl (by decide)) rfl rfl ?_
      refine pm_R_icmp pm_M96 (t := 163) (pc_q := 26) rfl rfl rfl (fun c1694 => ?_) (fun c1694 => ?_)
      · skip
        exact pm_R_ret pm_M96 (r := none) (pm_q96_1 (Nat.le_of_ble_eq_true rfl)) rfl (K m_1669 h_1669 T_1669 F_1669 W1672)
      · have B1695 : sf_B 0 9 x4_1669 := sf_ltL (Int32.not_le.mp c1694) Bx4_1669 (sf_ofB h1681 (by decide))
        have B1696 : sf_B 1 10 (Int32.ofNat rc1673) := sf_ltR (Int32.not_le.mp c1694) Bx4_1669 (sf_ofB h1681 (by decide))
        refine pm_R_lo pm_M96 (pc_q := 27) rfl rfl rfl ?_
        refine pm_R_ifc pm_M96 (t := 163) (pc_q := 30) rfl rfl rfl (fun c1697 => ?_) (fun c1697 => ?_)
        · have B1698 : sf_B 0 0 z13 := sf_eqL c1697 sf_k0
          exact pm_R_ret pm_M96 (r := none) (pm_q96_1 (Nat.le_of_ble_eq_true rfl)) rfl (K m_1669 h_1669 T_1669 F_1669 W1672)
        · skip
          refine pm_R_lo pm_M96 (pc_q := 31) rfl rfl rfl ?_
          refine pm_R_lo pm_M96 (pc_q := 32) rfl rfl rfl ?_
          refine pm_R_get pm_M96 (pc_q := 35) (v := .ref lo) rfl rfl T_1669.e33 (by decide) (T_1669.lt (by decide)) (by show some (va_rf (o 1)) = _; rw [ol]; rfl) rfl ?_
          refine pm_R_get pm_M96 (pc_q := 38) (v := .ref (lo + 3)) rfl rfl (T_1669.im hkl (by decide) (by decide) eE1684) (G.ge hkl (by decide)) (T_1669.al hkl (by decide)) rfl rfl ?_
          refine pm_R_lo pm_M96 (pc_q := 40) rfl rfl rfl ?_
          refine pm_R_op pm_M96 (pc_q := 41) (st_q := [.int 4, .int x4_1669, .ref (lo + 3), .int z13]) rfl rfl rfl ?_
          refine sf_R_imul pm_M96 (pc_q := 42) rfl rfl B1695 sf_k4 (by decide) (by decide) (by decide) (fun z1699 e1700 B1701 => ?_)
          have q1705 := cl_in4 (n := rc1673) (Nat.le_trans h1681 (by decide)) (Int32.not_le.mp c1694) (cl_aux5 _ _ e1700) B1695 (by decide) (by decide)
          obtain ⟨z1702, ez1703⟩ : ∃ y, fr1678 (Int32.toNatClampNeg z1699) = y := ⟨_, rfl⟩
          have B1704 : sf_B 0 5 z1702 := ez1703 ▸ q1705.2.2 ▸ (b1690 _ q1705.2.1).1
          refine pm_R_iald pm_M96 (pc_q := 43) (v := z1702) rfl (T_1669.im kq1693.2.2.1 (by decide) (by decide) eE1687) (T_1669.al kq1693.2.2.1 (by decide)) q1705.1 ez1703 rfl ?_
          refine sf_R_iany pm_M96 (pc_q := 44) (st := []) rfl rfl rfl (fun z1709 => ?_)
          refine pm_R_op pm_M96 (pc_q := 45) (st_q := [.int 1, .int z1709]) rfl rfl rfl ?_
          refine sf_R_iandE pm_M96 (pc_q := 46) rfl rfl sf_k1 (by decide) (fun z1710 e1711 B1712 => ?_)
          refine pm_R_ifc pm_M96 (t := 52) (pc_q := 49) rfl rfl rfl (fun c1713 => ?_) (fun c1713 => ?_)
          · have B1714 : sf_B 1 1 z1710 := sf_neL0 c1713 sf_k0 B1712
            refine pm_R_lo pm_M96 (pc_q := 53) rfl rfl rfl ?_
            refine pm_R_lo pm_M96 (pc_q := 55) (ls_q := [.ref 33, .int a0, .int a1, .int z13, .int x4_1669, .int a0]) (st_q := []) rfl rfl rfl ?_
            have L_1995 : ∀ (N : Nat) (h_1995 : pm_H) (m_1995 : Nat → Int32) (x5_1995 : Int32), cl_T ck E m_1995 o h_1995 → cl_F ck [36] 0 0 h h_1995 → rf_W [] m_1669 m_1995 → sf_B 0 11 x5_1995 → (11 - x5_1995.toInt).toNat = N → pm_R (d + 2) 96 55 [.ref 33, .int a0, .int a1, .int z13, .int x4_1669, .int x5_1995] [] h_1995 Q := by
              intro N
              induction N using Nat.strongRecOn with
              | ind N ih_1995 =>
                intro h_1995 m_1995 x5_1995 T_1995 F_1995 W_1995 Bx5_1995 hN_1995
                have W1998 : rf_W [] m m_1995 := W1672.trans W_1995 (by decide)
                have W1999 : rf_W [] m m_1995 := W_1669.trans W_1995 (by decide)
                refine pm_R_lo pm_M96 (pc_q := 57) rfl rfl rfl ?_
                refine pm_R_lo pm_M96 (pc_q := 58) rfl rfl rfl ?_
                refine pm_R_icmp pm_M96 (t := 157) (pc_q := 61) rfl rfl rfl (fun c2000 => ?_) (fun c2000 => ?_)
                · skip
                  refine sf_R_iinc pm_M96 (pc_q := 160) (ls_q := fun z => [.ref 33, .int a0, .int a1, .int z13, .int z, .int x5_1995]) (pm_q96_1 (Nat.le_of_ble_eq_true rfl)) B1695 rfl (by decide) (by decide) (by decide) (fun _ => rfl) rfl (fun z2001 e2002 B2003 => ?_)
                  show pm_R _ 96 160 [.ref 33, .int a0, .int a1, .int z13, .int z2001, .int x5_1995] [] _ _
                  refine pm_R_br pm_M96 (pc_q := 14) (pm_q96_1 (Nat.le_of_ble_eq_true rfl)) rfl ?_
                  exact ih_1669 _ (sf_up hN_1669 e2002 B1695 (by decide) (by decide)) h_1995 m_1995 z2001 (.int x5_1995) T_1995 F_1995 W1999 (sf_weak B2003 (by decide) (by decide)) rfl rfl
                · have B2004 : sf_B 0 10 x5_1995 := sf_ltL (Int32.not_le.mp c2000) Bx5_1995 Ba1
                  have B2005 : sf_B 1 11 a1 := sf_ltR (Int32.not_le.mp c2000) Bx5_1995 Ba1
                  refine pm_R_lo pm_M96 (pc_q := 62) rfl rfl rfl ?_
                  refine pm_R_lo pm_M96 (pc_q := 64) rfl rfl rfl ?_
                  refine pm_R_lo pm_M96 (pc_q := 65) rfl rfl rfl ?_
                  refine pm_R_lo pm_M96 (pc_q := 67) rfl rfl rfl ?_
                  refine pm_R_cv pm_M96 (pc_q := 70) (a := 33) (ra := [.int x5_1995, .int a0, .int x4_1669]) (rest := []) (ls_q := [.ref 33, .int x4_1669, .int a0, .int x5_1995]) rfl rfl (Or.inl rfl) pm_M75 T_1995.e33 rfl (by decide) (T_1995.lt (by decide)) rfl rfl (Nat.le_of_ble_eq_true rfl) rfl rfl ?_
                  refine pm_R_lo pm_M75 (pc_q := 1) rfl rfl rfl ?_
                  refine pm_R_get pm_M75 (pc_q := 4) (v := .ref 34) rfl rfl T_1995.e33 (by decide) (T_1995.lt (by decide)) rfl rfl ?_
                  refine pm_R_lo pm_M75 (pc_q := 5) rfl rfl rfl ?_
                  refine pm_R_lo pm_M75 (pc_q := 6) rfl rfl rfl ?_
                  refine pm_R_cs pm_M75 (pc_q := 9) (ra := [.int x5_1995, .int a0]) (rest := [.ref 34]) (ls_q := [.int a0, .int x5_1995]) rfl rfl (Or.inr rfl) pm_M73 rfl rfl (Nat.le_of_ble_eq_true rfl) rfl rfl ?_
                  refine pm_R_lo pm_M73 (pc_q := 1) rfl rfl rfl ?_
                  refine pm_R_lo pm_M73 (pc_q := 2) rfl rfl rfl ?_
                  refine pm_R_op pm_M73 (pc_q := 3) (st_q := [.int 1, .int x5_1995, .int x5_1995]) rfl rfl rfl ?_
                  refine sf_R_iadd pm_M73 (pc_q := 4) rfl rfl B2004 sf_k1 (by decide) (by decide) (fun z2006 e2007 B2008 => ?_)
                  refine sf_R_imul pm_M73 (pc_q := 5) rfl rfl B2004 B2008 (by decide) (by decide) (by decide) (fun z2009 e2010 B2011 => ?_)
                  refine pm_R_op pm_M73 (pc_q := 6) (st_q := [.int 2, .int z2009]) rfl rfl rfl ?_
                  refine sf_R_idiv pm_M73 (pc_q := 7) rfl rfl B2011 sf_k2 (by decide) (by decide) (fun z2012 e2013 B2014 => ?_)
                  refine pm_R_lo pm_M73 (pc_q := 8) rfl rfl rfl ?_
                  refine sf_R_iadd pm_M73 (pc_q := 9) rfl rfl B2014 Ba0 (by decide) (by decide) (fun z2015 e2016 B2017 => ?_)
                  refine pm_R_ret pm_M73 (r := some (.int z2015)) rfl (pm_ret_i _) ?_
                  show pm_R _ 75 9 [.ref 33, .int x4_1669, .int a0, .int x5_1995] [.int z2015, .ref 34] _ _
                  refine pm_R_op pm_M75 (pc_q := 11) (st_q := [.int 6, .int z2015, .ref 34]) rfl rfl rfl ?_
                  refine sf_R_imul pm_M75 (pc_q := 12) rfl rfl B2017 sf_k6 (by decide) (by decide) (by decide) (fun z2018 e2019 B2020 => ?_)
                  refine pm_R_lo pm_M75 (pc_q := 13) rfl rfl rfl ?_
                  refine pm_R_get pm_M75 (pc_q := 16) (v := .ref lo) rfl rfl T_1995.e33 (by decide) (T_1995.lt (by decide)) (by show some (va_rf (o 1)) = _; rw [ol]; rfl) rfl ?_
                  refine pm_R_get pm_M75 (pc_q := 19) (v := .ref (lo + 3)) rfl rfl (T_1995.im hkl (by decide) (by decide) eE1684) (G.ge hkl (by decide)) (T_1995.al hkl (by decide)) rfl rfl ?_
                  refine pm_R_lo pm_M75 (pc_q := 20) rfl rfl rfl ?_
                  refine pm_R_op pm_M75 (pc_q := 21) (st_q := [.int 4, .int x4_1669, .ref (lo + 3), .int z2018, .ref 34]) rfl rfl rfl ?_
                  refine sf_R_imulV pm_M75 (pc_q := 22) rfl rfl B1695 sf_k4 (by decide) (by decide) (by decide) e1700 ?_
                  refine pm_R_op pm_M75 (pc_q := 23) (st_q := [.int 1, .int z1699, .ref (lo + 3), .int z2018, .ref 34]) rfl rfl rfl ?_
                  refine sf_R_iadd pm_M75 (pc_q := 24) rfl rfl B1701 sf_k1 (by decide) (by decide) (fun z2021 e2022 B2023 => ?_)
                  have q2027 := cl_in4 (n := rc1673) (Nat.le_trans h1681 (by decide)) (Int32.not_le.mp c1694) (cl_aux7 _ _ _ e1700 e2022) B1695 (by decide) (by decide)
                  obtain ⟨z2024, ez2025⟩ : ∃ y, fr1678 (Int32.toNatClampNeg z2021) = y := ⟨_, rfl⟩
                  have B2026 : sf_B 0 5 z2024 := ez2025 ▸ q2027.2.2 ▸ (b1690 _ q2027.2.1).2.1
                  refine pm_R_iald pm_M75 (pc_q := 25) (v := z2024) rfl (T_1995.im kq1693.2.2.1 (by decide) (by decide) eE1687) (T_1995.al kq1693.2.2.1 (by decide)) q2027.1 ez2025 rfl ?_
                  refine sf_R_iadd pm_M75 (pc_q := 26) rfl rfl B2020 B2026 (by decide) (by decide) (fun z2028 e2029 B2030 => ?_)
                  obtain ⟨f2034, e2035⟩ := T_1995.C 34 (by decide) (by decide)
                  obtain ⟨z2031, ez2032⟩ : ∃ y, f2034 (Int32.toNatClampNeg z2028) = y := ⟨_, rfl⟩
                  refine pm_R_lald pm_M75 (pc_q := 27) (v := z2031) rfl e2035 (by decide) (T_1995.lt (by decide)) (sf_in B2030 (by decide) (by decide)) ez2032 rfl ?_
                  refine pm_R_ret pm_M75 (r := some (.long z2031)) rfl rfl ?_
                  show pm_R _ 96 70 [.ref 33, .int a0, .int a1, .int z13, .int x4_1669, .int x5_1995] [.long z2031] _ _
                  refine pm_R_op pm_M96 (pc_q := 71) (st_q := [.long 0, .long z2031]) rfl rfl rfl ?_
                  refine sf_R_lcmp pm_M96 (pc_q := 72) rfl rfl (fun z2037 e2038 => ?_)
                  refine pm_R_ifc pm_M96 (t := 151) (pc_q := 75) rfl rfl rfl (fun c2039 => ?_) (fun c2039 => ?_)
                  · have B2040 : sf_B 0 0 z2037 := sf_eqL c2039 sf_k0
                    have B2041 : lf_B 0 0 z2031 := lf_eqB e2038 B2040 (⟨by decide, by decide⟩ : lf_B 0 0 0)
                    refine sf_R_iinc pm_M96 (pc_q := 154) (ls_q := fun z => [.ref 33, .int a0, .int a1, .int z13, .int x4_1669, .int z]) (pm_q96_1 (Nat.le_of_ble_eq_true rfl)) B2004 rfl (by decide) (by decide) (by decide) (fun _ => rfl) rfl (fun z2042 e2043 B2044 => ?_)
                    show pm_R _ 96 154 [.ref 33, .int a0, .int a1, .int z13, .int x4_1669, .int z2042] [] _ _
                    refine pm_R_br pm_M96 (pc_q := 55) (pm_q96_1 (Nat.le_of_ble_eq_true rfl)) rfl ?_
                    exact ih_1995 _ (sf_up hN_1995 e2043 B2004 (by decide) (by decide)) h_1995 m_1995 z2042 T_1995 F_1995 W_1995 (sf_weak B2044 (by decide) (by decide)) rfl
                  · have k2045 := sf_lneC e2038 c2039
                    refine pm_R_lo pm_M96 (pc_q := 76) rfl rfl rfl ?_
                    refine pm_R_lo pm_M96 (pc_q := 78) rfl rfl rfl ?_
                    refine pm_R_lo pm_M96 (pc_q := 80) rfl rfl rfl ?_
                    refine pm_R_lo pm_M96 (pc_q := 81) rfl rfl rfl ?_
                    refine pm_R_cv pm_M96 (pc_q := 84) (a := 33) (ra := [.int a1, .int x5_1995, .int x4_1669]) (rest := []) (ls_q := [.ref 33, .int x4_1669, .int x5_1995, .int a1]) rfl rfl (Or.inl rfl) pm_M76 T_1995.e33 rfl (by decide) (T_1995.lt (by decide)) rfl rfl (Nat.le_of_ble_eq_true rfl) rfl rfl ?_
                    refine pm_R_lo pm_M76 (pc_q := 1) rfl rfl rfl ?_
                    refine pm_R_get pm_M76 (pc_q := 4) (v := .ref 34) rfl rfl T_1995.e33 (by decide) (T_1995.lt (by decide)) rfl rfl ?_
                    refine pm_R_lo pm_M76 (pc_q := 5) rfl rfl rfl ?_
                    refine pm_R_op pm_M76 (pc_q := 6) (st_q := [.int 1, .int x5_1995, .ref 34]) rfl rfl rfl ?_
                    refine sf_R_iaddV pm_M76 (pc_q := 7) rfl rfl B2004 sf_k1 (by decide) (by decide) e2007 ?_
                    refine pm_R_lo pm_M76 (pc_q := 8) rfl rfl rfl ?_
                    refine pm_R_cs pm_M76 (pc_q := 11) (ra := [.int a1, .int z2006]) (rest := [.ref 34]) (ls_q := [.int z2006, .int a1]) rfl rfl (Or.inr rfl) pm_M73 rfl rfl (Nat.le_of_ble_eq_true rfl) rfl rfl ?_
                    refine pm_R_lo pm_M73 (pc_q := 1) rfl rfl rfl ?_
                    refine pm_R_lo pm_M73 (pc_q := 2) rfl rfl rfl ?_
                    refine pm_R_op pm_M73 (pc_q := 3) (st_q := [.int 1, .int a1, .int a1]) rfl rfl rfl ?_
                    refine sf_R_iaddV pm_M73 (pc_q := 4) rfl rfl Ba1 sf_k1 (by decide) (by decide) e2 ?_
                    refine sf_R_imulV pm_M73 (pc_q := 5) rfl rfl Ba1 B3 (by decide) (by decide) (by decide) e5 ?_
                    refine pm_R_op pm_M73 (pc_q := 6) (st_q := [.int 2, .int z4]) rfl rfl rfl ?_
                    refine sf_R_idiv pm_M73 (pc_q := 7) rfl rfl B6 sf_k2 (by decide) (by decide) (fun z2046 e2047 B2048 => ?_)
                    refine pm_R_lo pm_M73 (pc_q := 8) rfl rfl rfl ?_
                    refine sf_R_iadd pm_M73 (pc_q := 9) rfl rfl B2048 B2008 (by decide) (by decide) (fun z2049 e2050 B2051 => ?_)
                    refine pm_R_ret pm_M73 (r := some (.int z2049)) rfl (pm_ret_i _) ?_
                    show pm_R _ 76 11 [.ref 33, .int x4_1669, .int x5_1995, .int a1] [.int z2049, .ref 34] _ _
                    refine pm_R_op pm_M76 (pc_q := 13) (st_q := [.int 6, .int z2049, .ref 34]) rfl rfl rfl ?_
                    refine sf_R_imul pm_M76 (pc_q := 14) rfl rfl B2051 sf_k6 (by decide) (by decide) (by decide) (fun z2052 e2053 B2054 => ?_)
                    refine pm_R_lo pm_M76 (pc_q := 15) rfl rfl rfl ?_
                    refine pm_R_get pm_M76 (pc_q := 18) (v := .ref lo) rfl rfl T_1995.e33 (by decide) (T_1995.lt (by decide)) (by show some (va_rf (o 1)) = _; rw [ol]; rfl) rfl ?_
                    refine pm_R_get pm_M76 (pc_q := 21) (v := .ref (lo + 3)) rfl rfl (T_1995.im hkl (by decide) (by decide) eE1684) (G.ge hkl (by decide)) (T_1995.al hkl (by decide)) rfl rfl ?_
                    refine pm_R_lo pm_M76 (pc_q := 22) rfl rfl rfl ?_
                    refine pm_R_op pm_M76 (pc_q := 23) (st_q := [.int 4, .int x4_1669, .ref (lo + 3), .int z2052, .ref 34]) rfl rfl rfl ?_
                    refine sf_R_imulV pm_M76 (pc_q := 24) rfl rfl B1695 sf_k4 (by decide) (by decide) (by decide) e1700 ?_
                    refine pm_R_op pm_M76 (pc_q := 25) (st_q := [.int 2, .int z1699, .ref (lo + 3), .int z2052, .ref 34]) rfl rfl rfl ?_
                    refine sf_R_iadd pm_M76 (pc_q := 26) rfl rfl B1701 sf_k2 (by decide) (by decide) (fun z2055 e2056 B2057 => ?_)
                    have q2061 := cl_in4 (n := rc1673) (Nat.le_trans h1681 (by decide)) (Int32.not_le.mp c1694) (cl_aux6 _ _ _ e1700 e2056) B1695 (by decide) (by decide)
                    obtain ⟨z2058, ez2059⟩ : ∃ y, fr1678 (Int32.toNatClampNeg z2055) = y := ⟨_, rfl⟩
                    have B2060 : sf_B 0 5 z2058 := ez2059 ▸ q2061.2.2 ▸ (b1690 _ q2061.2.1).2.2
                    refine pm_R_iald pm_M76 (pc_q := 27) (v := z2058) rfl (T_1995.im kq1693.2.2.1 (by decide) (by decide) eE1687) (T_1995.al kq1693.2.2.1 (by decide)) q2061.1 ez2059 rfl ?_
                    refine sf_R_iadd pm_M76 (pc_q := 28) rfl rfl B2054 B2060 (by decide) (by decide) (fun z2062 e2063 B2064 => ?_)
                    obtain ⟨z2065, ez2066⟩ : ∃ y, f2034 (Int32.toNatClampNeg z2062) = y := ⟨_, rfl⟩
                    refine pm_R_lald pm_M76 (pc_q := 29) (v := z2065) rfl e2035 (by decide) (T_1995.lt (by decide)) (sf_in B2064 (by decide) (by decide)) ez2066 rfl ?_
                    refine pm_R_ret pm_M76 (r := some (.long z2065)) rfl rfl ?_
                    show pm_R _ 96 84 [.ref 33, .int a0, .int a1, .int z13, .int x4_1669, .int x5_1995] [.long z2065] _ _
                    refine pm_R_op pm_M96 (pc_q := 85) (st_q := [.long 0, .long z2065]) rfl rfl rfl ?_
                    refine sf_R_lcmp pm_M96 (pc_q := 86) rfl rfl (fun z2068 e2069 => ?_)
                    refine pm_R_ifc pm_M96 (t := 151) (pc_q := 89) rfl rfl rfl (fun c2070 => ?_) (fun c2070 => ?_)
                    · have B2071 : sf_B 0 0 z2068 := sf_eqL c2070 sf_k0
                      have B2072 : lf_B 0 0 z2065 := lf_eqB e2069 B2071 (⟨by decide, by decide⟩ : lf_B 0 0 0)
                      refine sf_R_iinc pm_M96 (pc_q := 154) (ls_q := fun z => [.ref 33, .int a0, .int a1, .int z13, .int x4_1669, .int z]) (pm_q96_1 (Nat.le_of_ble_eq_true rfl)) B2004 rfl (by decide) (by decide) (by decide) (fun _ => rfl) rfl (fun z2073 e2074 B2075 => ?_)
                      show pm_R _ 96 154 [.ref 33, .int a0, .int a1, .int z13, .int x4_1669, .int z2073] [] _ _
                      refine pm_R_br pm_M96 (pc_q := 55) (pm_q96_1 (Nat.le_of_ble_eq_true rfl)) rfl ?_
                      exact ih_1995 _ (sf_up hN_1995 e2074 B2004 (by decide) (by decide)) h_1995 m_1995 z2073 T_1995 F_1995 W_1995 (sf_weak B2075 (by decide) (by decide)) rfl
                    · have k2076 := sf_lneC e2069 c2070
                      refine pm_R_lo pm_M96 (pc_q := 90) rfl rfl rfl ?_
                      refine pm_R_get pm_M96 (pc_q := 93) (v := .ref 36) rfl rfl T_1995.e33 (by decide) (T_1995.lt (by decide)) rfl rfl ?_
                      refine pm_R_lo pm_M96 (pc_q := 94) rfl rfl rfl ?_
                      refine pm_R_lo pm_M96 (pc_q := 96) rfl rfl rfl ?_
                      refine pm_R_cs pm_M96 (pc_q := 99) (ra := [.int x5_1995, .int a0]) (rest := [.ref 36]) (ls_q := [.int a0, .int x5_1995]) rfl rfl (Or.inr rfl) pm_M73 rfl rfl (Nat.le_of_ble_eq_true rfl) rfl rfl ?_
                      refine pm_R_lo pm_M73 (pc_q := 1) rfl rfl rfl ?_
                      refine pm_R_lo pm_M73 (pc_q := 2) rfl rfl rfl ?_
                      refine pm_R_op pm_M73 (pc_q := 3) (st_q := [.int 1, .int x5_1995, .int x5_1995]) rfl rfl rfl ?_
                      refine sf_R_iaddV pm_M73 (pc_q := 4) rfl rfl B2004 sf_k1 (by decide) (by decide) e2007 ?_
                      refine sf_R_imulV pm_M73 (pc_q := 5) rfl rfl B2004 B2008 (by decide) (by decide) (by decide) e2010 ?_
                      refine pm_R_op pm_M73 (pc_q := 6) (st_q := [.int 2, .int z2009]) rfl rfl rfl ?_
                      refine sf_R_idiv pm_M73 (pc_q := 7) rfl rfl B2011 sf_k2 (by decide) (by decide) (fun z2077 e2078 B2079 => ?_)
                      refine pm_R_lo pm_M73 (pc_q := 8) rfl rfl rfl ?_
                      refine sf_R_iadd pm_M73 (pc_q := 9) rfl rfl B2079 Ba0 (by decide) (by decide) (fun z2080 e2081 B2082 => ?_)
                      refine pm_R_ret pm_M73 (r := some (.int z2080)) rfl (pm_ret_i _) ?_
                      show pm_R _ 96 99 [.ref 33, .int a0, .int a1, .int z13, .int x4_1669, .int x5_1995] [.int z2080, .ref 36] _ _
                      refine pm_R_op pm_M96 (pc_q := 100) (st_q := [.int z2080, .ref 36, .int z2080, .ref 36]) rfl rfl rfl ?_
                      obtain ⟨f2086, e2087⟩ := T_1995.C 36 (by decide) (by decide)
                      obtain ⟨z2083, ez2084⟩ : ∃ y, f2086 (Int32.toNatClampNeg z2080) = y := ⟨_, rfl⟩
                      refine pm_R_iald pm_M96 (pc_q := 101) (v := z2083) rfl e2087 (T_1995.lt (by decide)) (sf_in B2082 (by decide) (by decide)) ez2084 rfl ?_
                      refine pm_R_op pm_M96 (pc_q := 102) (st_q := [.int 1, .int z2083, .int z2080, .ref 36]) rfl rfl rfl ?_
                      refine pm_R_lo pm_M96 (pc_q := 103) rfl rfl rfl ?_
                      refine pm_R_get pm_M96 (pc_q := 106) (v := .ref lo) rfl rfl T_1995.e33 (by decide) (T_1995.lt (by decide)) (by show some (va_rf (o 1)) = _; rw [ol]; rfl) rfl ?_
                      refine pm_R_get pm_M96 (pc_q := 109) (v := .ref (lo + 3)) (pm_q96_1 (Nat.le_of_ble_eq_true rfl)) rfl (T_1995.im hkl (by decide) (by decide) eE1684) (G.ge hkl (by decide)) (T_1995.al hkl (by decide)) rfl rfl ?_
                      refine pm_R_lo pm_M96 (pc_q := 111) (pm_q96_1 (Nat.le_of_ble_eq_true rfl)) rfl rfl ?_
                      refine pm_R_op pm_M96 (pc_q := 112) (st_q := [.int 4, .int x4_1669, .ref (lo + 3), .int 1, .int z2083, .int z2080, .ref 36]) (pm_q96_1 (Nat.le_of_ble_eq_true rfl)) rfl rfl ?_
                      refine sf_R_imulV pm_M96 (pc_q := 113) (pm_q96_1 (Nat.le_of_ble_eq_true rfl)) rfl B1695 sf_k4 (by decide) (by decide) (by decide) e1700 ?_
                      refine pm_R_op pm_M96 (pc_q := 114) (st_q := [.int 1, .int z1699, .ref (lo + 3), .int 1, .int z2083, .int z2080, .ref 36]) (pm_q96_1 (Nat.le_of_ble_eq_true rfl)) rfl rfl ?_
                      refine sf_R_iaddV pm_M96 (pc_q := 115) (pm_q96_1 (Nat.le_of_ble_eq_true rfl)) rfl B1701 sf_k1 (by decide) (by decide) e2022 ?_
                      have q2092 := cl_in4 (n := rc1673) (Nat.le_trans h1681 (by decide)) (Int32.not_le.mp c1694) (cl_aux7 _ _ _ e1700 e2022) B1695 (by decide) (by decide)
                      refine pm_R_iald pm_M96 (pc_q := 116) (v := z2024) (pm_q96_1 (Nat.le_of_ble_eq_true rfl)) (T_1995.im kq1693.2.2.1 (by decide) (by decide) eE1687) (T_1995.al kq1693.2.2.1 (by decide)) q2092.1 ez2025 rfl ?_
                      refine sf_R_iany pm_M96 (pc_q := 117) (st := [.int z2083, .int z2080, .ref 36]) (pm_q96_1 (Nat.le_of_ble_eq_true rfl)) rfl rfl (fun z2096 => ?_)
                      refine sf_R_iany pm_M96 (pc_q := 118) (st := [.int z2080, .ref 36]) (pm_q96_1 (Nat.le_of_ble_eq_true rfl)) rfl rfl (fun z2100 => ?_)
                      refine cl_R_ist G pm_M96 T_1995 (pc_q := 119) (pm_q96_1 (Nat.le_of_ble_eq_true rfl)) e2087 (by decide) ⟨_, rfl⟩ (sf_in B2082 (by decide) (by decide)) rfl (fun h2101 T2102 F2103 e2104 => ?_)
                      have F2105 := F2103.cl (ck := ck) T_1995.1
                      have F2106 := F_1995.trans (N := 0) (S := 0) F2105 (by decide) (by decide) (by decide)
                      refine pm_R_lo pm_M96 (pc_q := 120) (pm_q96_1 (Nat.le_of_ble_eq_true rfl)) rfl rfl ?_
                      refine pm_R_get pm_M96 (pc_q := 123) (v := .ref 36) (pm_q96_1 (Nat.le_of_ble_eq_true rfl)) rfl T2102.e33 (by decide) (T2102.lt (by decide)) rfl rfl ?_
                      refine pm_R_lo pm_M96 (pc_q := 125) (pm_q96_1 (Nat.le_of_ble_eq_true rfl)) rfl rfl ?_
                      refine pm_R_op pm_M96 (pc_q := 126) (st_q := [.int 1, .int x5_1995, .ref 36]) (pm_q96_1 (Nat.le_of_ble_eq_true rfl)) rfl rfl ?_
                      refine sf_R_iaddV pm_M96 (pc_q := 127) (pm_q96_1 (Nat.le_of_ble_eq_true rfl)) rfl B2004 sf_k1 (by decide) (by decide) e2007 ?_
                      refine pm_R_lo pm_M96 (pc_q := 128) (pm_q96_1 (Nat.le_of_ble_eq_true rfl)) rfl rfl ?_
                      refine pm_R_cs pm_M96 (pc_q := 131) (ra := [.int a1, .int z2006]) (rest := [.ref 36]) (ls_q := [.int z2006, .int a1]) (pm_q96_1 (Nat.le_of_ble_eq_true rfl)) rfl (Or.inr rfl) pm_M73 rfl rfl (Nat.le_of_ble_eq_true rfl) rfl rfl ?_
                      refine pm_R_lo pm_M73 (pc_q := 1) rfl rfl rfl ?_
                      refine pm_R_lo pm_M73 (pc_q := 2) rfl rfl rfl ?_
                      refine pm_R_op pm_M73 (pc_q := 3) (st_q := [.int 1, .int a1, .int a1]) rfl rfl rfl ?_
                      refine sf_R_iaddV pm_M73 (pc_q := 4) rfl rfl Ba1 sf_k1 (by decide) (by decide) e2 ?_
                      refine sf_R_imulV pm_M73 (pc_q := 5) rfl rfl Ba1 B3 (by decide) (by decide) (by decide) e5 ?_
                      refine pm_R_op pm_M73 (pc_q := 6) (st_q := [.int 2, .int z4]) rfl rfl rfl ?_
                      refine sf_R_idiv pm_M73 (pc_q := 7) rfl rfl B6 sf_k2 (by decide) (by decide) (fun z2107 e2108 B2109 => ?_)
                      refine pm_R_lo pm_M73 (pc_q := 8) rfl rfl rfl ?_
                      refine sf_R_iadd pm_M73 (pc_q := 9) rfl rfl B2109 B2008 (by decide) (by decide) (fun z2110 e2111 B2112 => ?_)
                      refine pm_R_ret pm_M73 (r := some (.int z2110)) rfl (pm_ret_i _) ?_
                      show pm_R _ 96 131 [.ref 33, .int a0, .int a1, .int z13, .int x4_1669, .int x5_1995] [.int z2110, .ref 36] _ _
                      refine pm_R_op pm_M96 (pc_q := 132) (st_q := [.int z2110, .ref 36, .int z2110, .ref 36]) (pm_q96_1 (Nat.le_of_ble_eq_true rfl)) rfl rfl ?_
                      obtain ⟨z2113, ez2114⟩ : ∃ y, (upd f2086 (Int32.toNatClampNeg z2080) z2100) (Int32.toNatClampNeg z2110) = y := ⟨_, rfl⟩
                      refine pm_R_iald pm_M96 (pc_q := 133) (v := z2113) (pm_q96_1 (Nat.le_of_ble_eq_true rfl)) e2104 (T2102.lt (by decide)) (sf_in B2112 (by decide) (by decide)) ez2114 rfl ?_
                      refine pm_R_op pm_M96 (pc_q := 134) (st_q := [.int 1, .int z2113, .int z2110, .ref 36]) (pm_q96_1 (Nat.le_of_ble_eq_true rfl)) rfl rfl ?_
                      refine pm_R_lo pm_M96 (pc_q := 135) (pm_q96_1 (Nat.le_of_ble_eq_true rfl)) rfl rfl ?_
                      refine pm_R_get pm_M96 (pc_q := 138) (v := .ref lo) (pm_q96_1 (Nat.le_of_ble_eq_true rfl)) rfl T2102.e33 (by decide) (T2102.lt (by decide)) (by show some (va_rf (o 1)) = _; rw [ol]; rfl) rfl ?_
                      refine pm_R_get pm_M96 (pc_q := 141) (v := .ref (lo + 3)) (pm_q96_1 (Nat.le_of_ble_eq_true rfl)) rfl (T2102.im hkl (by decide) (by decide) eE1684) (G.ge hkl (by decide)) (T2102.al hkl (by decide)) rfl rfl ?_
                      refine pm_R_lo pm_M96 (pc_q := 143) (pm_q96_1 (Nat.le_of_ble_eq_true rfl)) rfl rfl ?_
                      refine pm_R_op pm_M96 (pc_q := 144) (st_q := [.int 4, .int x4_1669, .ref (lo + 3), .int 1, .int z2113, .int z2110, .ref 36]) (pm_q96_1 (Nat.le_of_ble_eq_true rfl)) rfl rfl ?_
                      refine sf_R_imulV pm_M96 (pc_q := 145) (pm_q96_1 (Nat.le_of_ble_eq_true rfl)) rfl B1695 sf_k4 (by decide) (by decide) (by decide) e1700 ?_
                      refine pm_R_op pm_M96 (pc_q := 146) (st_q := [.int 2, .int z1699, .ref (lo + 3), .int 1, .int z2113, .int z2110, .ref 36]) (pm_q96_1 (Nat.le_of_ble_eq_true rfl)) rfl rfl ?_
                      refine sf_R_iaddV pm_M96 (pc_q := 147) (pm_q96_1 (Nat.le_of_ble_eq_true rfl)) rfl B1701 sf_k2 (by decide) (by decide) e2056 ?_
                      have q2119 := cl_in4 (n := rc1673) (Nat.le_trans h1681 (by decide)) (Int32.not_le.mp c1694) (cl_aux6 _ _ _ e1700 e2056) B1695 (by decide) (by decide)
                      refine pm_R_iald pm_M96 (pc_q := 148) (v := z2058) (pm_q96_1 (Nat.le_of_ble_eq_true rfl)) (T2102.im kq1693.2.2.1 (by decide) (by decide) eE1687) (T2102.al kq1693.2.2.1 (by decide)) q2119.1 ez2059 rfl ?_
                      refine sf_R_iany pm_M96 (pc_q := 149) (st := [.int z2113, .int z2110, .ref 36]) (pm_q96_1 (Nat.le_of_ble_eq_true rfl)) rfl rfl (fun z2123 => ?_)
                      refine sf_R_iany pm_M96 (pc_q := 150) (st := [.int z2110, .ref 36]) (pm_q96_1 (Nat.le_of_ble_eq_true rfl)) rfl rfl (fun z2127 => ?_)
                      refine cl_R_ist G pm_M96 T2102 (pc_q := 151) (pm_q96_1 (Nat.le_of_ble_eq_true rfl)) e2104 (by decide) ⟨_, rfl⟩ (sf_in B2112 (by decide) (by decide)) rfl (fun h2128 T2129 F2130 e2131 => ?_)
                      have F2132 := F2130.cl (ck := ck) T2102.1
                      have F2133 := F2106.trans (N := 0) (S := 0) F2132 (by decide) (by decide) (by decide)
                      refine sf_R_iinc pm_M96 (pc_q := 154) (ls_q := fun z => [.ref 33, .int a0, .int a1, .int z13, .int x4_1669, .int z]) (pm_q96_1 (Nat.le_of_ble_eq_true rfl)) B2004 rfl (by decide) (by decide) (by decide) (fun _ => rfl) rfl (fun z2134 e2135 B2136 => ?_)
                      show pm_R _ 96 154 [.ref 33, .int a0, .int a1, .int z13, .int x4_1669, .int z2134] [] _ _
                      refine pm_R_br pm_M96 (pc_q := 55) (pm_q96_1 (Nat.le_of_ble_eq_true rfl)) rfl ?_
                      exact ih_1995 _ (sf_up hN_1995 e2135 B2004 (by decide) (by decide)) h2128 m_1995 z2134 T2129 F2133 W_1995 (sf_weak B2136 (by decide) (by decide)) rfl
            exact L_1995 _ h_1669 m_1669 a0 T_1669 F_1669 (rf_W.refl _ _) Ba0 rfl
          · have B2137 : sf_B 0 0 z1710 := sf_eqL (Classical.not_not.mp c1713) sf_k0
            refine pm_R_br pm_M96 (pc_q := 157) rfl rfl ?_
            refine sf_R_iinc pm_M96 (pc_q := 160) (ls_q := fun z => [.ref 33, .int a0, .int a1, .int z13, .int z, g5_1669]) (pm_q96_1 (Nat.le_of_ble_eq_true rfl)) B1695 rfl (by decide) (by decide) (by decide) (fun _ => rfl) rfl (fun z2138 e2139 B2140 => ?_)
            show pm_R _ 96 160 [.ref 33, .int a0, .int a1, .int z13, .int z2138, g5_1669] [] _ _
            refine pm_R_br pm_M96 (pc_q := 14) (pm_q96_1 (Nat.le_of_ble_eq_true rfl)) rfl ?_
            exact ih_1669 _ (sf_up hN_1669 e2139 B1695 (by decide) (by decide)) h_1669 m_1669 z2138 (g5_1669) T_1669 F_1669 W_1669 (sf_weak B2140 (by decide) (by decide)) Cg5_1669 rfl
  exact L_1669 _ h m 0 (pm_no) T (cl_F.refl (ck := ck) (A := [36]) (n := 0) (s := 0) T.1) (rf_W.refl _ _) (sf_weak sf_k0 (by decide) (by decide)) rfl rfl

set_option maxRecDepth 100000 in
set_option maxHeartbeats 4000000 in
/-- SilentTable$TreeChart.usedReadings -/
theorem cl_c95 {d : Nat} {ck : cl_K} {E : Nat → pm_E} {m : Nat → Int32} {o : Nat → Option Nat} {h : pm_H} {Q : Option Value → pm_H → Prop} {a0 : Int32} (G : cl_G ck E) (T : cl_T ck E m o h) (Ba0 : sf_B 0 11 a0) {lo ro : Nat} (ol : o 1 = some lo) (orr : o 2 = some ro) {n : Nat} (en : E ro = .inr (5, [.int (Int32.ofNat n), .ref (ro + 1)])) (Q0 : a0 < Int32.ofNat n) (K : ∀ (r : Int32) (m_q : Nat → Int32) (h_q : pm_H), cl_T ck E m_q o h_q → cl_F ck [36] 0 0 h h_q → rf_W [] m m_q → Q (some (.int r)) h_q) : pm_R (d + 3) 95 0 [.ref 33, .int a0, pm_no, pm_no] [] h Q := by
  have hkl := T.oo.2.1 _ ol
  have hkr := T.oo.2.2 _ orr
  obtain ⟨n1, f2, h3, h4, eE5, eE6, b7⟩ := (G.2.2.1 ro hkr).2
  have kq8 := (G.2.2.1 ro hkr).1
  have P0 : a0 < (Int32.ofNat n1) := by rw [cl_rowN eE5 en]; exact Q0
  refine pm_R_lo pm_M95 (pc_q := 1) rfl rfl rfl ?_
  refine pm_R_get pm_M95 (pc_q := 4) (v := .ref 36) rfl rfl T.e33 (by decide) (T.lt (by decide)) rfl rfl ?_
  refine pm_R_op pm_M95 (pc_q := 5) (st_q := [.int 0, .ref 36]) rfl rfl rfl ?_
  refine pm_R_cs pm_M95 (pc_q := 8) (ra := [.int 0, .ref 36]) (rest := []) (ls_q := [.ref 36, .int 0, pm_no, pm_no]) rfl rfl (Or.inl rfl) pm_M13 rfl rfl (Nat.le_of_ble_eq_true rfl) rfl rfl ?_
  refine cl_c13_36 (d := d + 2) G T  (fun m11 h12 T13 F14 W15 => ?_)
  have F16 := (cl_F.refl (ck := ck) (A := [36]) (n := 0) (s := 0) T.1).trans (N := 0) (S := 0) F14 (by decide) (by decide) (by decide)
  have W17 : rf_W [] m m11 := (rf_W.refl [] m).trans W15 (by decide)
  show pm_R _ 95 8 [.ref 33, .int a0, pm_no, pm_no] [] _ _
  refine pm_R_lo pm_M95 (pc_q := 9) rfl rfl rfl ?_
  refine pm_R_get pm_M95 (pc_q := 12) (v := .ref 34) rfl rfl T13.e33 (by decide) (T13.lt (by decide)) rfl rfl ?_
  refine pm_R_op pm_M95 (pc_q := 13) (st_q := [.int 0, .ref 34]) rfl rfl rfl ?_
  refine pm_R_lo pm_M95 (pc_q := 14) rfl rfl rfl ?_
  refine pm_R_get pm_M95 (pc_q := 17) (v := .ref ro) rfl rfl T13.e33 (by decide) (T13.lt (by decide)) (by show some (va_rf (o 2)) = _; rw [orr]; rfl) rfl ?_
  refine pm_R_get pm_M95 (pc_q := 20) (v := .int (Int32.ofNat n1)) rfl rfl (T13.im hkr (by decide) (by decide) eE5) (G.ge hkr (by decide)) (T13.al hkr (by decide)) rfl rfl ?_
  refine pm_R_op pm_M95 (pc_q := 21) (st_q := [.int 1, .int (Int32.ofNat n1), .int 0, .ref 34]) rfl rfl rfl ?_
  refine sf_R_isub pm_M95 (pc_q := 22) rfl rfl (sf_ofB1 h4 h3 (by decide)) sf_k1 (by decide) (by decide) (fun z18 e19 B20 => ?_)
  refine pm_R_cs pm_M95 (pc_q := 25) (ra := [.int z18, .int 0]) (rest := [.ref 34]) (ls_q := [.int 0, .int z18]) rfl rfl (Or.inr rfl) pm_M73 rfl rfl (Nat.le_of_ble_eq_true rfl) rfl rfl ?_
  refine pm_R_lo pm_M73 (pc_q := 1) rfl rfl rfl ?_
  refine pm_R_lo pm_M73 (pc_q := 2) rfl rfl rfl ?_
  refine pm_R_op pm_M73 (pc_q := 3) (st_q := [.int 1, .int z18, .int z18]) rfl rfl rfl ?_
  refine sf_R_iadd pm_M73 (pc_q := 4) rfl rfl B20 sf_k1 (by decide) (by decide) (fun z21 e22 B23 => ?_)
  refine sf_R_imul pm_M73 (pc_q := 5) rfl rfl B20 B23 (by decide) (by decide) (by decide) (fun z24 e25 B26 => ?_)
  refine pm_R_op pm_M73 (pc_q := 6) (st_q := [.int 2, .int z24]) rfl rfl rfl ?_
  refine sf_R_idiv pm_M73 (pc_q := 7) rfl rfl B26 sf_k2 (by decide) (by decide) (fun z27 e28 B29 => ?_)
  refine pm_R_lo pm_M73 (pc_q := 8) rfl rfl rfl ?_
  refine sf_R_iadd pm_M73 (pc_q := 9) rfl rfl B29 sf_k0 (by decide) (by decide) (fun z30 e31 B32 => ?_)
  refine pm_R_ret pm_M73 (r := some (.int z30)) rfl (pm_ret_i _) ?_
  show pm_R _ 95 25 [.ref 33, .int a0, pm_no, pm_no] [.int z30, .ref 34] _ _
  refine pm_R_op pm_M95 (pc_q := 27) (st_q := [.int 6, .int z30, .ref 34]) rfl rfl rfl ?_
  refine sf_R_imul pm_M95 (pc_q := 28) rfl rfl B32 sf_k6 (by decide) (by decide) (by decide) (fun z33 e34 B35 => ?_)
  obtain ⟨f39, e40⟩ := T13.C 34 (by decide) (by decide)
  obtain ⟨z36, ez37⟩ : ∃ y, f39 (Int32.toNatClampNeg z33) = y := ⟨_, rfl⟩
  refine pm_R_lald pm_M95 (pc_q := 29) (v := z36) rfl e40 (by decide) (T13.lt (by decide)) (sf_in B35 (by decide) (by decide)) ez37 rfl ?_
  refine pm_R_op pm_M95 (pc_q := 30) (st_q := [.long 0, .long z36]) rfl rfl rfl ?_
  refine sf_R_lcmp pm_M95 (pc_q := 31) rfl rfl (fun z42 e43 => ?_)
  refine pm_R_ifc pm_M95 (t := 53) (pc_q := 34) rfl rfl rfl (fun c44 => ?_) (fun c44 => ?_)
  · have B45 : sf_B 0 0 z42 := sf_eqL c44 sf_k0
    have B46 : lf_B 0 0 z36 := lf_eqB e43 B45 (⟨by decide, by decide⟩ : lf_B 0 0 0)
    refine pm_R_lo pm_M95 (pc_q := 54) rfl rfl rfl ?_
    refine pm_R_get pm_M95 (pc_q := 57) (v := .ref ro) rfl rfl T13.e33 (by decide) (T13.lt (by decide)) (by show some (va_rf (o 2)) = _; rw [orr]; rfl) rfl ?_
    refine pm_R_get pm_M95 (pc_q := 60) (v := .int (Int32.ofNat n1)) rfl rfl (T13.im hkr (by decide) (by decide) eE5) (G.ge hkr (by decide)) (T13.al hkr (by decide)) rfl rfl ?_
    refine pm_R_op pm_M95 (pc_q := 61) (st_q := [.int 1, .int (Int32.ofNat n1)]) rfl rfl rfl ?_
    refine sf_R_isubV pm_M95 (pc_q := 62) rfl rfl (sf_ofB1 h4 h3 (by decide)) sf_k1 (by decide) (by decide) e19 ?_
    refine pm_R_lo pm_M95 (pc_q := 63) (ls_q := [.ref 33, .int a0, .int z18, pm_no]) (st_q := []) rfl rfl rfl ?_
    have L_1099 : ∀ (N : Nat) (h_1099 : pm_H) (m_1099 : Nat → Int32) (x2_1099 : Int32) (g3_1099 : Value), cl_T ck E m_1099 o h_1099 → cl_F ck [36] 0 0 h h_1099 → rf_W [] m11 m_1099 → sf_B 0 11 x2_1099 → g3_1099.category = 1 → (x2_1099.toInt - 0).toNat = N → pm_R (d + 3) 95 63 [.ref 33, .int a0, .int x2_1099, g3_1099] [] h_1099 Q := by
      intro N
      induction N using Nat.strongRecOn with
      | ind N ih_1099 =>
        intro h_1099 m_1099 x2_1099 g3_1099 T_1099 F_1099 W_1099 Bx2_1099 Cg3_1099 hN_1099
        have W1102 : rf_W [] m m_1099 := W17.trans W_1099 (by decide)
        refine pm_R_lo pm_M95 (pc_q := 64) rfl rfl rfl ?_
        refine pm_R_ifc pm_M95 (t := 92) (pc_q := 67) rfl rfl rfl (fun c1103 => ?_) (fun c1103 => ?_)
        · have B1104 : sf_B 0 0 x2_1099 := sf_leL c1103 Bx2_1099 sf_k0
          refine pm_R_op pm_M95 (pc_q := 93) (st_q := [.int 0]) rfl rfl rfl ?_
          refine pm_R_lo pm_M95 (pc_q := 94) (ls_q := [.ref 33, .int a0, .int 0, g3_1099]) (st_q := []) rfl rfl rfl ?_
          refine pm_R_op pm_M95 (pc_q := 95) (st_q := [.int 0]) rfl rfl rfl ?_
          refine pm_R_lo pm_M95 (pc_q := 96) (ls_q := [.ref 33, .int a0, .int 0, .int 0]) (st_q := []) rfl rfl rfl ?_
          have L_1503 : ∀ (N : Nat) (x2_1503 : Int32) (x3_1503 : Int32), sf_B (-2147483648) 2147483647 x2_1503 → sf_B 0 16 x3_1503 → (16 - x3_1503.toInt).toNat = N → pm_R (d + 3) 95 96 [.ref 33, .int a0, .int x2_1503, .int x3_1503] [] h_1099 Q := by
            intro N
            induction N using Nat.strongRecOn with
            | ind N ih_1503 =>
              intro x2_1503 x3_1503 Bx2_1503 Bx3_1503 hN_1503
              refine pm_R_lo pm_M95 (pc_q := 97) rfl rfl rfl ?_
              refine pm_R_lo pm_M95 (pc_q := 98) rfl rfl rfl ?_
              refine pm_R_get pm_M95 (pc_q := 101) (v := .ref lo) rfl rfl T_1099.e33 (by decide) (T_1099.lt (by decide)) (by show some (va_rf (o 1)) = _; rw [ol]; rfl) rfl ?_
              obtain ⟨rc1504, tc1505, rs1506, fv1507, fw1508, fr1509, ft1510, fn1511, h1512, h1513, B1514, eE1515, eE1516, eE1517, eE1518, eE1519, eE1520, b1521, b1522, b1523⟩ := (G.2.1 lo hkl).2.2.2.2.2
              have kq1524 := G.2.1 lo hkl
              refine pm_R_get pm_M95 (pc_q := 104) (v := .int (Int32.ofNat tc1505)) rfl rfl (T_1099.im hkl (by decide) (by decide) eE1515) (G.ge hkl (by decide)) (T_1099.al hkl (by decide)) rfl rfl ?_
              refine pm_R_icmp pm_M95 (t := 165) (pc_q := 107) rfl rfl rfl (fun c1525 => ?_) (fun c1525 => ?_)
              · skip
                refine pm_R_lo pm_M95 (pc_q := 166) (pm_q95_1 (Nat.le_of_ble_eq_true rfl)) rfl rfl ?_
                exact pm_R_ret pm_M95 (r := some (.int x2_1503)) (pm_q95_1 (Nat.le_of_ble_eq_true rfl)) (pm_ret_i _) (K x2_1503 m_1099 h_1099 T_1099 F_1099 W1102)
              · have B1526 : sf_B 0 15 x3_1503 := sf_ltL (Int32.not_le.mp c1525) Bx3_1503 (sf_ofB h1513 (by decide))
                have B1527 : sf_B 1 16 (Int32.ofNat tc1505) := sf_ltR (Int32.not_le.mp c1525) Bx3_1503 (sf_ofB h1513 (by decide))
                refine pm_R_lo pm_M95 (pc_q := 108) (pm_q95_1 (Nat.le_of_ble_eq_true rfl)) rfl rfl ?_
                refine pm_R_get pm_M95 (pc_q := 111) (v := .ref lo) (pm_q95_1 (Nat.le_of_ble_eq_true rfl)) rfl T_1099.e33 (by decide) (T_1099.lt (by decide)) (by show some (va_rf (o 1)) = _; rw [ol]; rfl) rfl ?_
                refine pm_R_get pm_M95 (pc_q := 114) (v := .ref (lo + 4)) (pm_q95_1 (Nat.le_of_ble_eq_true rfl)) rfl (T_1099.im hkl (by decide) (by decide) eE1515) (G.ge hkl (by decide)) (T_1099.al hkl (by decide)) rfl rfl ?_
                refine pm_R_lo pm_M95 (pc_q := 115) (pm_q95_1 (Nat.le_of_ble_eq_true rfl)) rfl rfl ?_
                refine pm_R_op pm_M95 (pc_q := 116) (st_q := [.int 4, .int x3_1503, .ref (lo + 4)]) (pm_q95_1 (Nat.le_of_ble_eq_true rfl)) rfl rfl ?_
                refine sf_R_imul pm_M95 (pc_q := 117) (pm_q95_1 (Nat.le_of_ble_eq_true rfl)) rfl B1526 sf_k4 (by decide) (by decide) (by decide) (fun z1528 e1529 B1530 => ?_)
                have q1534 := cl_in4 (n := tc1505) (Nat.le_trans h1513 (by decide)) (Int32.not_le.mp c1525) (cl_aux5 _ _ e1529) B1526 (by decide) (by decide)
                obtain ⟨z1531, ez1532⟩ : ∃ y, ft1510 (Int32.toNatClampNeg z1528) = y := ⟨_, rfl⟩
                have B1533 : sf_B 0 9 z1531 := ez1532 ▸ q1534.2.2 ▸ (b1522 _ q1534.2.1).1
                refine pm_R_iald pm_M95 (pc_q := 118) (v := z1531) (pm_q95_1 (Nat.le_of_ble_eq_true rfl)) (T_1099.im kq1524.2.2.2.1 (by decide) (by decide) eE1519) (T_1099.al kq1524.2.2.2.1 (by decide)) q1534.1 ez1532 rfl ?_
                refine pm_R_lo pm_M95 (pc_q := 119) (pm_q95_1 (Nat.le_of_ble_eq_true rfl)) rfl rfl ?_
                refine pm_R_get pm_M95 (pc_q := 122) (v := .ref ro) (pm_q95_1 (Nat.le_of_ble_eq_true rfl)) rfl T_1099.e33 (by decide) (T_1099.lt (by decide)) (by show some (va_rf (o 2)) = _; rw [orr]; rfl) rfl ?_
                refine pm_R_get pm_M95 (pc_q := 125) (v := .ref (ro + 1)) (pm_q95_1 (Nat.le_of_ble_eq_true rfl)) rfl (T_1099.im hkr (by decide) (by decide) eE5) (G.ge hkr (by decide)) (T_1099.al hkr (by decide)) rfl rfl ?_
                refine pm_R_lo pm_M95 (pc_q := 126) (pm_q95_1 (Nat.le_of_ble_eq_true rfl)) rfl rfl ?_
                have q1538 := cl_in1 (n := n1) (Nat.le_trans h4 (by decide)) P0 Ba0 (by decide)
                obtain ⟨z1535, ez1536⟩ : ∃ y, f2 (Int32.toNatClampNeg a0) = y := ⟨_, rfl⟩
                have B1537 : sf_B 0 9 z1535 := ez1536 ▸ b7 _
                refine pm_R_iald pm_M95 (pc_q := 127) (v := z1535) (pm_q95_1 (Nat.le_of_ble_eq_true rfl)) (T_1099.im kq8 (by decide) (by decide) eE6) (T_1099.al kq8 (by decide)) q1538.1 ez1536 rfl ?_
                refine pm_R_icmp pm_M95 (t := 159) (pc_q := 130) (pm_q95_1 (Nat.le_of_ble_eq_true rfl)) rfl rfl (fun c1539 => ?_) (fun c1539 => ?_)
                · skip
                  refine sf_R_iinc pm_M95 (pc_q := 162) (ls_q := fun z => [.ref 33, .int a0, .int x2_1503, .int z]) (pm_q95_1 (Nat.le_of_ble_eq_true rfl)) B1526 rfl (by decide) (by decide) (by decide) (fun _ => rfl) rfl (fun z1540 e1541 B1542 => ?_)
                  show pm_R _ 95 162 [.ref 33, .int a0, .int x2_1503, .int z1540] [] _ _
                  refine pm_R_br pm_M95 (pc_q := 96) (pm_q95_1 (Nat.le_of_ble_eq_true rfl)) rfl ?_
                  exact ih_1503 _ (sf_up hN_1503 e1541 B1526 (by decide) (by decide)) x2_1503 z1540 Bx2_1503 (sf_weak B1542 (by decide) (by decide)) rfl
                · refine pm_R_lo pm_M95 (pc_q := 131) (pm_q95_1 (Nat.le_of_ble_eq_true rfl)) rfl rfl ?_
                  refine pm_R_lo pm_M95 (pc_q := 132) (pm_q95_1 (Nat.le_of_ble_eq_true rfl)) rfl rfl ?_
                  refine pm_R_get pm_M95 (pc_q := 135) (v := .ref 36) (pm_q95_1 (Nat.le_of_ble_eq_true rfl)) rfl T_1099.e33 (by decide) (T_1099.lt (by decide)) rfl rfl ?_
                  refine pm_R_lo pm_M95 (pc_q := 136) (pm_q95_1 (Nat.le_of_ble_eq_true rfl)) rfl rfl ?_
                  refine pm_R_lo pm_M95 (pc_q := 137) (pm_q95_1 (Nat.le_of_ble_eq_true rfl)) rfl rfl ?_
                  refine pm_R_cs pm_M95 (pc_q := 140) (ra := [.int a0, .int a0]) (rest := [.ref 36, .int x2_1503]) (ls_q := [.int a0, .int a0]) (pm_q95_1 (Nat.le_of_ble_eq_true rfl)) rfl (Or.inr rfl) pm_M73 rfl rfl (Nat.le_of_ble_eq_true rfl) rfl rfl ?_
                  refine pm_R_lo pm_M73 (pc_q := 1) rfl rfl rfl ?_
                  refine pm_R_lo pm_M73 (pc_q := 2) rfl rfl rfl ?_
                  refine pm_R_op pm_M73 (pc_q := 3) (st_q := [.int 1, .int a0, .int a0]) rfl rfl rfl ?_
                  refine sf_R_iadd pm_M73 (pc_q := 4) rfl rfl Ba0 sf_k1 (by decide) (by decide) (fun z1543 e1544 B1545 => ?_)
                  refine sf_R_imul pm_M73 (pc_q := 5) rfl rfl Ba0 B1545 (by decide) (by decide) (by decide) (fun z1546 e1547 B1548 => ?_)
                  refine pm_R_op pm_M73 (pc_q := 6) (st_q := [.int 2, .int z1546]) rfl rfl rfl ?_
                  refine sf_R_idiv pm_M73 (pc_q := 7) rfl rfl B1548 sf_k2 (by decide) (by decide) (fun z1549 e1550 B1551 => ?_)
                  refine pm_R_lo pm_M73 (pc_q := 8) rfl rfl rfl ?_
                  refine sf_R_iadd pm_M73 (pc_q := 9) rfl rfl B1551 Ba0 (by decide) (by decide) (fun z1552 e1553 B1554 => ?_)
                  refine pm_R_ret pm_M73 (r := some (.int z1552)) rfl (pm_ret_i _) ?_
                  show pm_R _ 95 140 [.ref 33, .int a0, .int x2_1503, .int x3_1503] [.int z1552, .ref 36, .int x2_1503] _ _
                  obtain ⟨f1558, e1559⟩ := T_1099.C 36 (by decide) (by decide)
                  obtain ⟨z1555, ez1556⟩ : ∃ y, f1558 (Int32.toNatClampNeg z1552) = y := ⟨_, rfl⟩
                  refine pm_R_iald pm_M95 (pc_q := 141) (v := z1555) (pm_q95_1 (Nat.le_of_ble_eq_true rfl)) e1559 (T_1099.lt (by decide)) (sf_in B1554 (by decide) (by decide)) ez1556 rfl ?_
                  refine pm_R_lo pm_M95 (pc_q := 142) (pm_q95_1 (Nat.le_of_ble_eq_true rfl)) rfl rfl ?_
                  refine pm_R_get pm_M95 (pc_q := 145) (v := .ref lo) (pm_q95_1 (Nat.le_of_ble_eq_true rfl)) rfl T_1099.e33 (by decide) (T_1099.lt (by decide)) (by show some (va_rf (o 1)) = _; rw [ol]; rfl) rfl ?_
                  refine pm_R_get pm_M95 (pc_q := 148) (v := .ref (lo + 4)) (pm_q95_1 (Nat.le_of_ble_eq_true rfl)) rfl (T_1099.im hkl (by decide) (by decide) eE1515) (G.ge hkl (by decide)) (T_1099.al hkl (by decide)) rfl rfl ?_
                  refine pm_R_lo pm_M95 (pc_q := 149) (pm_q95_1 (Nat.le_of_ble_eq_true rfl)) rfl rfl ?_
                  refine pm_R_op pm_M95 (pc_q := 150) (st_q := [.int 4, .int x3_1503, .ref (lo + 4), .int z1555, .int x2_1503]) (pm_q95_1 (Nat.le_of_ble_eq_true rfl)) rfl rfl ?_
                  refine sf_R_imulV pm_M95 (pc_q := 151) (pm_q95_1 (Nat.le_of_ble_eq_true rfl)) rfl B1526 sf_k4 (by decide) (by decide) (by decide) e1529 ?_
                  refine pm_R_op pm_M95 (pc_q := 152) (st_q := [.int 1, .int z1528, .ref (lo + 4), .int z1555, .int x2_1503]) (pm_q95_1 (Nat.le_of_ble_eq_true rfl)) rfl rfl ?_
                  refine sf_R_iadd pm_M95 (pc_q := 153) (pm_q95_1 (Nat.le_of_ble_eq_true rfl)) rfl B1530 sf_k1 (by decide) (by decide) (fun z1561 e1562 B1563 => ?_)
                  have q1567 := cl_in4 (n := tc1505) (Nat.le_trans h1513 (by decide)) (Int32.not_le.mp c1525) (cl_aux7 _ _ _ e1529 e1562) B1526 (by decide) (by decide)
                  obtain ⟨z1564, ez1565⟩ : ∃ y, ft1510 (Int32.toNatClampNeg z1561) = y := ⟨_, rfl⟩
                  have B1566 : sf_B 0 5 z1564 := ez1565 ▸ q1567.2.2 ▸ (b1522 _ q1567.2.1).2.1
                  refine pm_R_iald pm_M95 (pc_q := 154) (v := z1564) (pm_q95_1 (Nat.le_of_ble_eq_true rfl)) (T_1099.im kq1524.2.2.2.1 (by decide) (by decide) eE1519) (T_1099.al kq1524.2.2.2.1 (by decide)) q1567.1 ez1565 rfl ?_
                  refine sf_R_iany pm_M95 (pc_q := 155) (st := [.int x2_1503]) (pm_q95_1 (Nat.le_of_ble_eq_true rfl)) rfl rfl (fun z1571 => ?_)
                  refine pm_R_op pm_M95 (pc_q := 156) (st_q := [.int 1, .int z1571, .int x2_1503]) (pm_q95_1 (Nat.le_of_ble_eq_true rfl)) rfl rfl ?_
                  refine sf_R_iandE pm_M95 (pc_q := 157) (pm_q95_1 (Nat.le_of_ble_eq_true rfl)) rfl sf_k1 (by decide) (fun z1572 e1573 B1574 => ?_)
                  refine sf_R_iany pm_M95 (pc_q := 158) (st := []) (pm_q95_1 (Nat.le_of_ble_eq_true rfl)) rfl rfl (fun z1578 => ?_)
                  refine pm_R_lo pm_M95 (pc_q := 159) (ls_q := [.ref 33, .int a0, .int z1578, .int x3_1503]) (st_q := []) (pm_q95_1 (Nat.le_of_ble_eq_true rfl)) rfl rfl ?_
                  refine sf_R_iinc pm_M95 (pc_q := 162) (ls_q := fun z => [.ref 33, .int a0, .int z1578, .int z]) (pm_q95_1 (Nat.le_of_ble_eq_true rfl)) B1526 rfl (by decide) (by decide) (by decide) (fun _ => rfl) rfl (fun z1579 e1580 B1581 => ?_)
                  show pm_R _ 95 162 [.ref 33, .int a0, .int z1578, .int z1579] [] _ _
                  refine pm_R_br pm_M95 (pc_q := 96) (pm_q95_1 (Nat.le_of_ble_eq_true rfl)) rfl ?_
                  exact ih_1503 _ (sf_up hN_1503 e1580 B1526 (by decide) (by decide)) z1578 z1579 (sf_any z1578) (sf_weak B1581 (by decide) (by decide)) rfl
          exact L_1503 _ 0 0 (sf_weak sf_k0 (by decide) (by decide)) (sf_weak sf_k0 (by decide) (by decide)) rfl
        · have B1582 : sf_B 1 11 x2_1099 := sf_ltR (Int32.not_le.mp c1103) sf_k0 Bx2_1099
          refine pm_R_op pm_M95 (pc_q := 68) (st_q := [.int 0]) rfl rfl rfl ?_
          refine pm_R_lo pm_M95 (pc_q := 69) (ls_q := [.ref 33, .int a0, .int x2_1099, .int 0]) (st_q := []) rfl rfl rfl ?_
          have L_1710 : ∀ (N : Nat) (h_1710 : pm_H) (m_1710 : Nat → Int32) (x3_1710 : Int32), cl_T ck E m_1710 o h_1710 → cl_F ck [36] 0 0 h h_1710 → rf_W [] m_1099 m_1710 → sf_B 0 11 x3_1710 → (11 - x3_1710.toInt).toNat = N → pm_R (d + 3) 95 69 [.ref 33, .int a0, .int x2_1099, .int x3_1710] [] h_1710 Q := by
            intro N
            induction N using Nat.strongRecOn with
            | ind N ih_1710 =>
              intro h_1710 m_1710 x3_1710 T_1710 F_1710 W_1710 Bx3_1710 hN_1710
              have W1713 : rf_W [] m m_1710 := W1102.trans W_1710 (by decide)
              have W1714 : rf_W [] m11 m_1710 := W_1099.trans W_1710 (by decide)
              refine pm_R_lo pm_M95 (pc_q := 70) rfl rfl rfl ?_
              refine pm_R_lo pm_M95 (pc_q := 71) rfl rfl rfl ?_
              refine pm_R_icmp pm_M95 (t := 86) (pc_q := 74) rfl rfl rfl (fun c1715 => ?_) (fun c1715 => ?_)
              · have B1716 : sf_B 1 11 x3_1710 := sf_leR c1715 B1582 Bx3_1710
                refine sf_R_iinc pm_M95 (pc_q := 89) (ls_q := fun z => [.ref 33, .int a0, .int z, .int x3_1710]) rfl B1582 rfl (by decide) (by decide) (by decide) (fun _ => rfl) rfl (fun z1717 e1718 B1719 => ?_)
                show pm_R _ 95 89 [.ref 33, .int a0, .int z1717, .int x3_1710] [] _ _
                refine pm_R_br pm_M95 (pc_q := 63) rfl rfl ?_
                exact ih_1099 _ (sf_dn hN_1099 e1718 B1582 (by decide) (by decide)) h_1710 m_1710 z1717 (.int x3_1710) T_1710 F_1710 W1714 (sf_weak B1719 (by decide) (by decide)) rfl rfl
              · have B1720 : sf_B 0 10 x3_1710 := sf_ltL (Int32.not_le.mp c1715) Bx3_1710 B1582
                refine pm_R_lo pm_M95 (pc_q := 75) rfl rfl rfl ?_
                refine pm_R_lo pm_M95 (pc_q := 76) rfl rfl rfl ?_
                refine pm_R_lo pm_M95 (pc_q := 77) rfl rfl rfl ?_
                refine pm_R_cv pm_M95 (pc_q := 80) (a := 33) (ra := [.int x2_1099, .int x3_1710]) (rest := []) (ls_q := [.ref 33, .int x3_1710, .int x2_1099, pm_no, pm_no, pm_no]) rfl rfl (Or.inl rfl) pm_M96 T_1710.e33 rfl (by decide) (T_1710.lt (by decide)) rfl rfl (Nat.le_of_ble_eq_true rfl) rfl rfl ?_
                refine cl_c96 (d := d + 0) G T_1710 (sf_weak B1720 (by decide) (by decide)) (sf_weak B1582 (by decide) (by decide)) ol orr (fun m1723 h1724 T1725 F1726 W1727 => ?_)
                have F1728 := F_1710.trans (N := 0) (S := 0) F1726 (by decide) (by decide) (by decide)
                have W1729 : rf_W [] m m1723 := W1713.trans W1727 (by decide)
                have W1730 : rf_W [] m11 m1723 := W1714.trans W1727 (by decide)
                have W1731 : rf_W [] m_1099 m1723 := W_1710.trans W1727 (by decide)
                show pm_R _ 95 80 [.ref 33, .int a0, .int x2_1099, .int x3_1710] [] _ _
                refine sf_R_iinc pm_M95 (pc_q := 83) (ls_q := fun z => [.ref 33, .int a0, .int x2_1099, .int z]) rfl B1720 rfl (by decide) (by decide) (by decide) (fun _ => rfl) rfl (fun z1732 e1733 B1734 => ?_)
                show pm_R _ 95 83 [.ref 33, .int a0, .int x2_1099, .int z1732] [] _ _
                refine pm_R_br pm_M95 (pc_q := 69) rfl rfl ?_
                exact ih_1710 _ (sf_up hN_1710 e1733 B1720 (by decide) (by decide)) h1724 m1723 z1732 T1725 F1728 W1731 (sf_weak B1734 (by decide) (by decide)) rfl
          exact L_1710 _ h_1099 m_1099 0 T_1099 F_1099 (rf_W.refl _ _) (sf_weak sf_k0 (by decide) (by decide)) rfl
    exact L_1099 _ h12 m11 z18 (pm_no) T13 F16 (rf_W.refl _ _) B20 rfl rfl
  · have k1735 := sf_lneC e43 c44
    refine pm_R_lo pm_M95 (pc_q := 35) rfl rfl rfl ?_
    refine pm_R_get pm_M95 (pc_q := 38) (v := .ref 36) rfl rfl T13.e33 (by decide) (T13.lt (by decide)) rfl rfl ?_
    refine pm_R_op pm_M95 (pc_q := 39) (st_q := [.int 0, .ref 36]) rfl rfl rfl ?_
    refine pm_R_lo pm_M95 (pc_q := 40) rfl rfl rfl ?_
    refine pm_R_get pm_M95 (pc_q := 43) (v := .ref ro) rfl rfl T13.e33 (by decide) (T13.lt (by decide)) (by show some (va_rf (o 2)) = _; rw [orr]; rfl) rfl ?_
    refine pm_R_get pm_M95 (pc_q := 46) (v := .int (Int32.ofNat n1)) rfl rfl (T13.im hkr (by decide) (by decide) eE5) (G.ge hkr (by decide)) (T13.al hkr (by decide)) rfl rfl ?_
    refine pm_R_op pm_M95 (pc_q := 47) (st_q := [.int 1, .int (Int32.ofNat n1), .int 0, .ref 36]) rfl rfl rfl ?_
    refine sf_R_isubV pm_M95 (pc_q := 48) rfl rfl (sf_ofB1 h4 h3 (by decide)) sf_k1 (by decide) (by decide) e19 ?_
    refine pm_R_cs pm_M95 (pc_q := 51) (ra := [.int z18, .int 0]) (rest := [.ref 36]) (ls_q := [.int 0, .int z18]) rfl rfl (Or.inr rfl) pm_M73 rfl rfl (Nat.le_of_ble_eq_true rfl) rfl rfl ?_
    refine pm_R_lo pm_M73 (pc_q := 1) rfl rfl rfl ?_
    refine pm_R_lo pm_M73 (pc_q := 2) rfl rfl rfl ?_
    refine pm_R_op pm_M73 (pc_q := 3) (st_q := [.int 1, .int z18, .int z18]) rfl rfl rfl ?_
    refine sf_R_iaddV pm_M73 (pc_q := 4) rfl rfl B20 sf_k1 (by decide) (by decide) e22 ?_
    refine sf_R_imulV pm_M73 (pc_q := 5) rfl rfl B20 B23 (by decide) (by decide) (by decide) e25 ?_
    refine pm_R_op pm_M73 (pc_q := 6) (st_q := [.int 2, .int z24]) rfl rfl rfl ?_
    refine sf_R_idiv pm_M73 (pc_q := 7) rfl rfl B26 sf_k2 (by decide) (by decide) (fun z1736 e1737 B1738 => ?_)
    refine pm_R_lo pm_M73 (pc_q := 8) rfl rfl rfl ?_
    refine sf_R_iadd pm_M73 (pc_q := 9) rfl rfl B1738 sf_k0 (by decide) (by decide) (fun z1739 e1740 B1741 => ?_)
    refine pm_R_ret pm_M73 (r := some (.int z1739)) rfl (pm_ret_i _) ?_
    show pm_R _ 95 51 [.ref 33, .int a0, pm_no, pm_no] [.int z1739, .ref 36] _ _
    refine pm_R_op pm_M95 (pc_q := 52) (st_q := [.int 1, .int z1739, .ref 36]) rfl rfl rfl ?_
    obtain ⟨f1742, e1743⟩ := T13.C 36 (by decide) (by decide)
    refine cl_R_ist G pm_M95 T13 (pc_q := 53) rfl e1743 (by decide) ⟨_, rfl⟩ (sf_in B1741 (by decide) (by decide)) rfl (fun h1745 T1746 F1747 e1748 => ?_)
    have F1749 := F1747.cl (ck := ck) T13.1
    have F1750 := F16.trans (N := 0) (S := 0) F1749 (by decide) (by decide) (by decide)
    refine pm_R_lo pm_M95 (pc_q := 54) rfl rfl rfl ?_
    refine pm_R_get pm_M95 (pc_q := 57) (v := .ref ro) rfl rfl T1746.e33 (by decide) (T1746.lt (by decide)) (by show some (va_rf (o 2)) = _; rw [orr]; rfl) rfl ?_
    refine pm_R_get pm_M95 (pc_q := 60) (v := .int (Int32.ofNat n1)) rfl rfl (T1746.im hkr (by decide) (by decide) eE5) (G.ge hkr (by decide)) (T1746.al hkr (by decide)) rfl rfl ?_
    refine pm_R_op pm_M95 (pc_q := 61) (st_q := [.int 1, .int (Int32.ofNat n1)]) rfl rfl rfl ?_
    refine sf_R_isubV pm_M95 (pc_q := 62) rfl rfl (sf_ofB1 h4 h3 (by decide)) sf_k1 (by decide) (by decide) e19 ?_
    refine pm_R_lo pm_M95 (pc_q := 63) (ls_q := [.ref 33, .int a0, .int z18, pm_no]) (st_q := []) rfl rfl rfl ?_
    have L_2803 : ∀ (N : Nat) (h_2803 : pm_H) (m_2803 : Nat → Int32) (x2_2803 : Int32) (g3_2803 : Value), cl_T ck E m_2803 o h_2803 → cl_F ck [36] 0 0 h h_2803 → rf_W [] m11 m_2803 → sf_B 0 11 x2_2803 → g3_2803.category = 1 → (x2_2803.toInt - 0).toNat = N → pm_R (d + 3) 95 63 [.ref 33, .int a0, .int x2_2803, g3_2803] [] h_2803 Q := by
      intro N
      induction N using Nat.strongRecOn with
      | ind N ih_2803 =>
        intro h_2803 m_2803 x2_2803 g3_2803 T_2803 F_2803 W_2803 Bx2_2803 Cg3_2803 hN_2803
        have W2806 : rf_W [] m m_2803 := W17.trans W_2803 (by decide)
        refine pm_R_lo pm_M95 (pc_q := 64) rfl rfl rfl ?_
        refine pm_R_ifc pm_M95 (t := 92) (pc_q := 67) rfl rfl rfl (fun c2807 => ?_) (fun c2807 => ?_)
        · have B2808 : sf_B 0 0 x2_2803 := sf_leL c2807 Bx2_2803 sf_k0
          refine pm_R_op pm_M95 (pc_q := 93) (st_q := [.int 0]) rfl rfl rfl ?_
          refine pm_R_lo pm_M95 (pc_q := 94) (ls_q := [.ref 33, .int a0, .int 0, g3_2803]) (st_q := []) rfl rfl rfl ?_
          refine pm_R_op pm_M95 (pc_q := 95) (st_q := [.int 0]) rfl rfl rfl ?_
          refine pm_R_lo pm_M95 (pc_q := 96) (ls_q := [.ref 33, .int a0, .int 0, .int 0]) (st_q := []) rfl rfl rfl ?_
          have L_3207 : ∀ (N : Nat) (x2_3207 : Int32) (x3_3207 : Int32), sf_B (-2147483648) 2147483647 x2_3207 → sf_B 0 16 x3_3207 → (16 - x3_3207.toInt).toNat = N → pm_R (d + 3) 95 96 [.ref 33, .int a0, .int x2_3207, .int x3_3207] [] h_2803 Q := by
            intro N
            induction N using Nat.strongRecOn with
            | ind N ih_3207 =>
              intro x2_3207 x3_3207 Bx2_3207 Bx3_3207 hN_3207
              refine pm_R_lo pm_M95 (pc_q := 97) rfl rfl rfl ?_
              refine pm_R_lo pm_M95 (pc_q := 98) rfl rfl rfl ?_
              refine pm_R_get pm_M95 (pc_q := 101) (v := .ref lo) rfl rfl T_2803.e33 (by decide) (T_2803.lt (by decide)) (by show some (va_rf (o 1)) = _; rw [ol]; rfl) rfl ?_
              obtain ⟨rc3208, tc3209, rs3210, fv3211, fw3212, fr3213, ft3214, fn3215, h3216, h3217, B3218, eE3219, eE3220, eE3221, eE3222, eE3223, eE3224, b3225, b3226, b3227⟩ := (G.2.1 lo hkl).2.2.2.2.2
              have kq3228 := G.2.1 lo hkl
              refine pm_R_get pm_M95 (pc_q := 104) (v := .int (Int32.ofNat tc3209)) rfl rfl (T_2803.im hkl (by decide) (by decide) eE3219) (G.ge hkl (by decide)) (T_2803.al hkl (by decide)) rfl rfl ?_
              refine pm_R_icmp pm_M95 (t := 165) (pc_q := 107) rfl rfl rfl (fun c3229 => ?_) (fun c3229 => ?_)
              · skip
                refine pm_R_lo pm_M95 (pc_q := 166) (pm_q95_1 (Nat.le_of_ble_eq_true rfl)) rfl rfl ?_
                exact pm_R_ret pm_M95 (r := some (.int x2_3207)) (pm_q95_1 (Nat.le_of_ble_eq_true rfl)) (pm_ret_i _) (K x2_3207 m_2803 h_2803 T_2803 F_2803 W2806)
              · have B3230 : sf_B 0 15 x3_3207 := sf_ltL (Int32.not_le.mp c3229) Bx3_3207 (sf_ofB h3217 (by decide))
                have B3231 : sf_B 1 16 (Int32.ofNat tc3209) := sf_ltR (Int32.not_le.mp c3229) Bx3_3207 (sf_ofB h3217 (by decide))
                refine pm_R_lo pm_M95 (pc_q := 108) (pm_q95_1 (Nat.le_of_ble_eq_true rfl)) rfl rfl ?_
                refine pm_R_get pm_M95 (pc_q := 111) (v := .ref lo) (pm_q95_1 (Nat.le_of_ble_eq_true rfl)) rfl T_2803.e33 (by decide) (T_2803.lt (by decide)) (by show some (va_rf (o 1)) = _; rw [ol]; rfl) rfl ?_
                refine pm_R_get pm_M95 (pc_q := 114) (v := .ref (lo + 4)) (pm_q95_1 (Nat.le_of_ble_eq_true rfl)) rfl (T_2803.im hkl (by decide) (by decide) eE3219) (G.ge hkl (by decide)) (T_2803.al hkl (by decide)) rfl rfl ?_
                refine pm_R_lo pm_M95 (pc_q := 115) (pm_q95_1 (Nat.le_of_ble_eq_true rfl)) rfl rfl ?_
                refine pm_R_op pm_M95 (pc_q := 116) (st_q := [.int 4, .int x3_3207, .ref (lo + 4)]) (pm_q95_1 (Nat.le_of_ble_eq_true rfl)) rfl rfl ?_
                refine sf_R_imul pm_M95 (pc_q := 117) (pm_q95_1 (Nat.le_of_ble_eq_true rfl)) rfl B3230 sf_k4 (by decide) (by decide) (by decide) (fun z3232 e3233 B3234 => ?_)
                have q3238 := cl_in4 (n := tc3209) (Nat.le_trans h3217 (by decide)) (Int32.not_le.mp c3229) (cl_aux5 _ _ e3233) B3230 (by decide) (by decide)
                obtain ⟨z3235, ez3236⟩ : ∃ y, ft3214 (Int32.toNatClampNeg z3232) = y := ⟨_, rfl⟩
                have B3237 : sf_B 0 9 z3235 := ez3236 ▸ q3238.2.2 ▸ (b3226 _ q3238.2.1).1
                refine pm_R_iald pm_M95 (pc_q := 118) (v := z3235) (pm_q95_1 (Nat.le_of_ble_eq_true rfl)) (T_2803.im kq3228.2.2.2.1 (by decide) (by decide) eE3223) (T_2803.al kq3228.2.2.2.1 (by decide)) q3238.1 ez3236 rfl ?_
                refine pm_R_lo pm_M95 (pc_q := 119) (pm_q95_1 (Nat.le_of_ble_eq_true rfl)) rfl rfl ?_
                refine pm_R_get pm_M95 (pc_q := 122) (v := .ref ro) (pm_q95_1 (Nat.le_of_ble_eq_true rfl)) rfl T_2803.e33 (by decide) (T_2803.lt (by decide)) (by show some (va_rf (o 2)) = _; rw [orr]; rfl) rfl ?_
                refine pm_R_get pm_M95 (pc_q := 125) (v := .ref (ro + 1)) (pm_q95_1 (Nat.le_of_ble_eq_true rfl)) rfl (T_2803.im hkr (by decide) (by decide) eE5) (G.ge hkr (by decide)) (T_2803.al hkr (by decide)) rfl rfl ?_
                refine pm_R_lo pm_M95 (pc_q := 126) (pm_q95_1 (Nat.le_of_ble_eq_true rfl)) rfl rfl ?_
                have q3242 := cl_in1 (n := n1) (Nat.le_trans h4 (by decide)) P0 Ba0 (by decide)
                obtain ⟨z3239, ez3240⟩ : ∃ y, f2 (Int32.toNatClampNeg a0) = y := ⟨_, rfl⟩
                have B3241 : sf_B 0 9 z3239 := ez3240 ▸ b7 _
                refine pm_R_iald pm_M95 (pc_q := 127) (v := z3239) (pm_q95_1 (Nat.le_of_ble_eq_true rfl)) (T_2803.im kq8 (by decide) (by decide) eE6) (T_2803.al kq8 (by decide)) q3242.1 ez3240 rfl ?_
                refine pm_R_icmp pm_M95 (t := 159) (pc_q := 130) (pm_q95_1 (Nat.le_of_ble_eq_true rfl)) rfl rfl (fun c3243 => ?_) (fun c3243 => ?_)
                · skip
                  refine sf_R_iinc pm_M95 (pc_q := 162) (ls_q := fun z => [.ref 33, .int a0, .int x2_3207, .int z]) (pm_q95_1 (Nat.le_of_ble_eq_true rfl)) B3230 rfl (by decide) (by decide) (by decide) (fun _ => rfl) rfl (fun z3244 e3245 B3246 => ?_)
                  show pm_R _ 95 162 [.ref 33, .int a0, .int x2_3207, .int z3244] [] _ _
                  refine pm_R_br pm_M95 (pc_q := 96) (pm_q95_1 (Nat.le_of_ble_eq_true rfl)) rfl ?_
                  exact ih_3207 _ (sf_up hN_3207 e3245 B3230 (by decide) (by decide)) x2_3207 z3244 Bx2_3207 (sf_weak B3246 (by decide) (by decide)) rfl
                · refine pm_R_lo pm_M95 (pc_q := 131) (pm_q95_1 (Nat.le_of_ble_eq_true rfl)) rfl rfl ?_
                  refine pm_R_lo pm_M95 (pc_q := 132) (pm_q95_1 (Nat.le_of_ble_eq_true rfl)) rfl rfl ?_
                  refine pm_R_get pm_M95 (pc_q := 135) (v := .ref 36) (pm_q95_1 (Nat.le_of_ble_eq_true rfl)) rfl T_2803.e33 (by decide) (T_2803.lt (by decide)) rfl rfl ?_
                  refine pm_R_lo pm_M95 (pc_q := 136) (pm_q95_1 (Nat.le_of_ble_eq_true rfl)) rfl rfl ?_
                  refine pm_R_lo pm_M95 (pc_q := 137) (pm_q95_1 (Nat.le_of_ble_eq_true rfl)) rfl rfl ?_
                  refine pm_R_cs pm_M95 (pc_q := 140) (ra := [.int a0, .int a0]) (rest := [.ref 36, .int x2_3207]) (ls_q := [.int a0, .int a0]) (pm_q95_1 (Nat.le_of_ble_eq_true rfl)) rfl (Or.inr rfl) pm_M73 rfl rfl (Nat.le_of_ble_eq_true rfl) rfl rfl ?_
                  refine pm_R_lo pm_M73 (pc_q := 1) rfl rfl rfl ?_
                  refine pm_R_lo pm_M73 (pc_q := 2) rfl rfl rfl ?_
                  refine pm_R_op pm_M73 (pc_q := 3) (st_q := [.int 1, .int a0, .int a0]) rfl rfl rfl ?_
                  refine sf_R_iadd pm_M73 (pc_q := 4) rfl rfl Ba0 sf_k1 (by decide) (by decide) (fun z3247 e3248 B3249 => ?_)
                  refine sf_R_imul pm_M73 (pc_q := 5) rfl rfl Ba0 B3249 (by decide) (by decide) (by decide) (fun z3250 e3251 B3252 => ?_)
                  refine pm_R_op pm_M73 (pc_q := 6) (st_q := [.int 2, .int z3250]) rfl rfl rfl ?_
                  refine sf_R_idiv pm_M73 (pc_q := 7) rfl rfl B3252 sf_k2 (by decide) (by decide) (fun z3253 e3254 B3255 => ?_)
                  refine pm_R_lo pm_M73 (pc_q := 8) rfl rfl rfl ?_
                  refine sf_R_iadd pm_M73 (pc_q := 9) rfl rfl B3255 Ba0 (by decide) (by decide) (fun z3256 e3257 B3258 => ?_)
                  refine pm_R_ret pm_M73 (r := some (.int z3256)) rfl (pm_ret_i _) ?_
                  show pm_R _ 95 140 [.ref 33, .int a0, .int x2_3207, .int x3_3207] [.int z3256, .ref 36, .int x2_3207] _ _
                  obtain ⟨f3262, e3263⟩ := T_2803.C 36 (by decide) (by decide)
                  obtain ⟨z3259, ez3260⟩ : ∃ y, f3262 (Int32.toNatClampNeg z3256) = y := ⟨_, rfl⟩
                  refine pm_R_iald pm_M95 (pc_q := 141) (v := z3259) (pm_q95_1 (Nat.le_of_ble_eq_true rfl)) e3263 (T_2803.lt (by decide)) (sf_in B3258 (by decide) (by decide)) ez3260 rfl ?_
                  refine pm_R_lo pm_M95 (pc_q := 142) (pm_q95_1 (Nat.le_of_ble_eq_true rfl)) rfl rfl ?_
                  refine pm_R_get pm_M95 (pc_q := 145) (v := .ref lo) (pm_q95_1 (Nat.le_of_ble_eq_true rfl)) rfl T_2803.e33 (by decide) (T_2803.lt (by decide)) (by show some (va_rf (o 1)) = _; rw [ol]; rfl) rfl ?_
                  refine pm_R_get pm_M95 (pc_q := 148) (v := .ref (lo + 4)) (pm_q95_1 (Nat.le_of_ble_eq_true rfl)) rfl (T_2803.im hkl (by decide) (by decide) eE3219) (G.ge hkl (by decide)) (T_2803.al hkl (by decide)) rfl rfl ?_
                  refine pm_R_lo pm_M95 (pc_q := 149) (pm_q95_1 (Nat.le_of_ble_eq_true rfl)) rfl rfl ?_
                  refine pm_R_op pm_M95 (pc_q := 150) (st_q := [.int 4, .int x3_3207, .ref (lo + 4), .int z3259, .int x2_3207]) (pm_q95_1 (Nat.le_of_ble_eq_true rfl)) rfl rfl ?_
                  refine sf_R_imulV pm_M95 (pc_q := 151) (pm_q95_1 (Nat.le_of_ble_eq_true rfl)) rfl B3230 sf_k4 (by decide) (by decide) (by decide) e3233 ?_
                  refine pm_R_op pm_M95 (pc_q := 152) (st_q := [.int 1, .int z3232, .ref (lo + 4), .int z3259, .int x2_3207]) (pm_q95_1 (Nat.le_of_ble_eq_true rfl)) rfl rfl ?_
                  refine sf_R_iadd pm_M95 (pc_q := 153) (pm_q95_1 (Nat.le_of_ble_eq_true rfl)) rfl B3234 sf_k1 (by decide) (by decide) (fun z3265 e3266 B3267 => ?_)
                  have q3271 := cl_in4 (n := tc3209) (Nat.le_trans h3217 (by decide)) (Int32.not_le.mp c3229) (cl_aux7 _ _ _ e3233 e3266) B3230 (by decide) (by decide)
                  obtain ⟨z3268, ez3269⟩ : ∃ y, ft3214 (Int32.toNatClampNeg z3265) = y := ⟨_, rfl⟩
                  have B3270 : sf_B 0 5 z3268 := ez3269 ▸ q3271.2.2 ▸ (b3226 _ q3271.2.1).2.1
                  refine pm_R_iald pm_M95 (pc_q := 154) (v := z3268) (pm_q95_1 (Nat.le_of_ble_eq_true rfl)) (T_2803.im kq3228.2.2.2.1 (by decide) (by decide) eE3223) (T_2803.al kq3228.2.2.2.1 (by decide)) q3271.1 ez3269 rfl ?_
                  refine sf_R_iany pm_M95 (pc_q := 155) (st := [.int x2_3207]) (pm_q95_1 (Nat.le_of_ble_eq_true rfl)) rfl rfl (fun z3275 => ?_)
                  refine pm_R_op pm_M95 (pc_q := 156) (st_q := [.int 1, .int z3275, .int x2_3207]) (pm_q95_1 (Nat.le_of_ble_eq_true rfl)) rfl rfl ?_
                  refine sf_R_iandE pm_M95 (pc_q := 157) (pm_q95_1 (Nat.le_of_ble_eq_true rfl)) rfl sf_k1 (by decide) (fun z3276 e3277 B3278 => ?_)
                  refine sf_R_iany pm_M95 (pc_q := 158) (st := []) (pm_q95_1 (Nat.le_of_ble_eq_true rfl)) rfl rfl (fun z3282 => ?_)
                  refine pm_R_lo pm_M95 (pc_q := 159) (ls_q := [.ref 33, .int a0, .int z3282, .int x3_3207]) (st_q := []) (pm_q95_1 (Nat.le_of_ble_eq_true rfl)) rfl rfl ?_
                  refine sf_R_iinc pm_M95 (pc_q := 162) (ls_q := fun z => [.ref 33, .int a0, .int z3282, .int z]) (pm_q95_1 (Nat.le_of_ble_eq_true rfl)) B3230 rfl (by decide) (by decide) (by decide) (fun _ => rfl) rfl (fun z3283 e3284 B3285 => ?_)
                  show pm_R _ 95 162 [.ref 33, .int a0, .int z3282, .int z3283] [] _ _
                  refine pm_R_br pm_M95 (pc_q := 96) (pm_q95_1 (Nat.le_of_ble_eq_true rfl)) rfl ?_
                  exact ih_3207 _ (sf_up hN_3207 e3284 B3230 (by decide) (by decide)) z3282 z3283 (sf_any z3282) (sf_weak B3285 (by decide) (by decide)) rfl
          exact L_3207 _ 0 0 (sf_weak sf_k0 (by decide) (by decide)) (sf_weak sf_k0 (by decide) (by decide)) rfl
        · have B3286 : sf_B 1 11 x2_2803 := sf_ltR (Int32.not_le.mp c2807) sf_k0 Bx2_2803
          refine pm_R_op pm_M95 (pc_q := 68) (st_q := [.int 0]) rfl rfl rfl ?_
          refine pm_R_lo pm_M95 (pc_q := 69) (ls_q := [.ref 33, .int a0, .int x2_2803, .int 0]) (st_q := []) rfl rfl rfl ?_
          have L_3414 : ∀ (N : Nat) (h_3414 : pm_H) (m_3414 : Nat → Int32) (x3_3414 : Int32), cl_T ck E m_3414 o h_3414 → cl_F ck [36] 0 0 h h_3414 → rf_W [] m_2803 m_3414 → sf_B 0 11 x3_3414 → (11 - x3_3414.toInt).toNat = N → pm_R (d + 3) 95 69 [.ref 33, .int a0, .int x2_2803, .int x3_3414] [] h_3414 Q := by
            intro N
            induction N using Nat.strongRecOn with
            | ind N ih_3414 =>
              intro h_3414 m_3414 x3_3414 T_3414 F_3414 W_3414 Bx3_3414 hN_3414
              have W3417 : rf_W [] m m_3414 := W2806.trans W_3414 (by decide)
              have W3418 : rf_W [] m11 m_3414 := W_2803.trans W_3414 (by decide)
              refine pm_R_lo pm_M95 (pc_q := 70) rfl rfl rfl ?_
              refine pm_R_lo pm_M95 (pc_q := 71) rfl rfl rfl ?_
              refine pm_R_icmp pm_M95 (t := 86) (pc_q := 74) rfl rfl rfl (fun c3419 => ?_) (fun c3419 => ?_)
              · have B3420 : sf_B 1 11 x3_3414 := sf_leR c3419 B3286 Bx3_3414
                refine sf_R_iinc pm_M95 (pc_q := 89) (ls_q := fun z => [.ref 33, .int a0, .int z, .int x3_3414]) rfl B3286 rfl (by decide) (by decide) (by decide) (fun _ => rfl) rfl (fun z3421 e3422 B3423 => ?_)
                show pm_R _ 95 89 [.ref 33, .int a0, .int z3421, .int x3_3414] [] _ _
                refine pm_R_br pm_M95 (pc_q := 63) rfl rfl ?_
                exact ih_2803 _ (sf_dn hN_2803 e3422 B3286 (by decide) (by decide)) h_3414 m_3414 z3421 (.int x3_3414) T_3414 F_3414 W3418 (sf_weak B3423 (by decide) (by decide)) rfl rfl
              · have B3424 : sf_B 0 10 x3_3414 := sf_ltL (Int32.not_le.mp c3419) Bx3_3414 B3286
                refine pm_R_lo pm_M95 (pc_q := 75) rfl rfl rfl ?_
                refine pm_R_lo pm_M95 (pc_q := 76) rfl rfl rfl ?_
                refine pm_R_lo pm_M95 (pc_q := 77) rfl rfl rfl ?_
                refine pm_R_cv pm_M95 (pc_q := 80) (a := 33) (ra := [.int x2_2803, .int x3_3414]) (rest := []) (ls_q := [.ref 33, .int x3_3414, .int x2_2803, pm_no, pm_no, pm_no]) rfl rfl (Or.inl rfl) pm_M96 T_3414.e33 rfl (by decide) (T_3414.lt (by decide)) rfl rfl (Nat.le_of_ble_eq_true rfl) rfl rfl ?_
                refine cl_c96 (d := d + 0) G T_3414 (sf_weak B3424 (by decide) (by decide)) (sf_weak B3286 (by decide) (by decide)) ol orr (fun m3427 h3428 T3429 F3430 W3431 => ?_)
                have F3432 := F_3414.trans (N := 0) (S := 0) F3430 (by decide) (by decide) (by decide)
                have W3433 : rf_W [] m m3427 := W3417.trans W3431 (by decide)
                have W3434 : rf_W [] m11 m3427 := W3418.trans W3431 (by decide)
                have W3435 : rf_W [] m_2803 m3427 := W_3414.trans W3431 (by decide)
                show pm_R _ 95 80 [.ref 33, .int a0, .int x2_2803, .int x3_3414] [] _ _
                refine sf_R_iinc pm_M95 (pc_q := 83) (ls_q := fun z => [.ref 33, .int a0, .int x2_2803, .int z]) rfl B3424 rfl (by decide) (by decide) (by decide) (fun _ => rfl) rfl (fun z3436 e3437 B3438 => ?_)
                show pm_R _ 95 83 [.ref 33, .int a0, .int x2_2803, .int z3436] [] _ _
                refine pm_R_br pm_M95 (pc_q := 69) rfl rfl ?_
                exact ih_3414 _ (sf_up hN_3414 e3437 B3424 (by decide) (by decide)) h3428 m3427 z3436 T3429 F3432 W3435 (sf_weak B3438 (by decide) (by decide)) rfl
          exact L_3414 _ h_2803 m_2803 0 T_2803 F_2803 (rf_W.refl _ _) (sf_weak sf_k0 (by decide) (by decide)) rfl
    exact L_2803 _ h1745 m11 z18 (pm_no) T1746 F1750 (rf_W.refl _ _) B20 rfl rfl

set_option maxRecDepth 100000 in
set_option maxHeartbeats 4000000 in
/-- SilentTable.trees -/
theorem cl_c68 {d : Nat} {ck : cl_K} {E : Nat → pm_E} {m : Nat → Int32} {o : Nat → Option Nat} {h : pm_H} {Q : Option Value → pm_H → Prop} {a0 : Int32} {a1 : Int32} {a2 : Int32} {a3 : Int32} {a4 : Int32} (G : cl_G ck E) (T : cl_T ck E m o h)  (K : ∀ (r : Int64) (m_q : Nat → Int32) (o_q : Nat → Option Nat) (h_q : pm_H), cl_T ck E m_q o_q h_q → cl_F ck [33, 34] 0 0 h h_q → rf_W [] m m_q → Q (some (.long r)) h_q) : pm_R (d + 4) 68 0 [.ref 16, .int a0, .int a1, .int a2, .int a3, .int a4, pm_no, pm_no] [] h Q := by
  refine pm_R_lo pm_M68 (pc_q := 1) rfl rfl rfl ?_
  refine pm_R_lo pm_M68 (pc_q := 2) rfl rfl rfl ?_
  refine pm_R_cv pm_M68 (pc_q := 5) (a := 16) (ra := [.int a0]) (rest := []) (ls_q := [.ref 16, .int a0]) rfl rfl (Or.inl rfl) pm_M62 T.e16 rfl (by decide) (T.lt (by decide)) rfl rfl (Nat.le_of_ble_eq_true rfl) rfl rfl ?_
  refine pm_R_lo pm_M62 (pc_q := 1) rfl rfl rfl ?_
  refine pm_R_ifc pm_M62 (t := 17) (pc_q := 4) rfl rfl rfl (fun c1 => ?_) (fun c1 => ?_)
  · have B2 : sf_B (-2147483648) (-1) a0 := sf_ltL c1 (sf_any a0) sf_k0
    refine pm_R_op pm_M62 (pc_q := 18) (st_q := [.null]) rfl rfl rfl ?_
    refine pm_R_br pm_M62 (pc_q := 30) rfl rfl ?_
    refine pm_R_ret pm_M62 (r := some (.null)) rfl rfl ?_
    show pm_R _ 68 5 [.ref 16, .int a0, .int a1, .int a2, .int a3, .int a4, pm_no, pm_no] [.null] _ _
    refine pm_R_lo pm_M68 (pc_q := 7) (ls_q := [.ref 16, .int a0, .int a1, .int a2, .int a3, .int a4, .null, pm_no]) (st_q := []) rfl rfl rfl ?_
    refine pm_R_lo pm_M68 (pc_q := 8) rfl rfl rfl ?_
    refine pm_R_lo pm_M68 (pc_q := 9) rfl rfl rfl ?_
    refine pm_R_cv pm_M68 (pc_q := 12) (a := 16) (ra := [.int a1]) (rest := []) (ls_q := [.ref 16, .int a1]) rfl rfl (Or.inl rfl) pm_M66 T.e16 rfl (by decide) (T.lt (by decide)) rfl rfl (Nat.le_of_ble_eq_true rfl) rfl rfl ?_
    refine pm_R_lo pm_M66 (pc_q := 1) rfl rfl rfl ?_
    refine pm_R_ifc pm_M66 (t := 17) (pc_q := 4) rfl rfl rfl (fun c3 => ?_) (fun c3 => ?_)
    · have B4 : sf_B (-2147483648) (-1) a1 := sf_ltL c3 (sf_any a1) sf_k0
      refine pm_R_op pm_M66 (pc_q := 18) (st_q := [.null]) rfl rfl rfl ?_
      refine pm_R_br pm_M66 (pc_q := 30) rfl rfl ?_
      refine pm_R_ret pm_M66 (r := some (.null)) rfl rfl ?_
      show pm_R _ 68 12 [.ref 16, .int a0, .int a1, .int a2, .int a3, .int a4, .null, pm_no] [.null] _ _
      refine pm_R_lo pm_M68 (pc_q := 14) (ls_q := [.ref 16, .int a0, .int a1, .int a2, .int a3, .int a4, .null, .null]) (st_q := []) rfl rfl rfl ?_
      refine pm_R_lo pm_M68 (pc_q := 16) rfl rfl rfl ?_
      refine pm_R_br pm_M68 (pc_q := 46) rfl rfl ?_
      refine pm_R_ldc2 pm_M68 (pc_q := 49) rfl rfl rfl ?_
      exact pm_R_ret pm_M68 (r := some (.long (-1))) rfl rfl (K (-1) m o h T (cl_F.refl (ck := ck) (A := [33, 34]) (n := 0) (s := 0) T.1) (rf_W.refl [] m))
    · have B5 : sf_B 0 2147483647 a1 := sf_leR (Int32.not_lt.mp c3) sf_k0 (sf_any a1)
      refine pm_R_lo pm_M66 (pc_q := 5) rfl rfl rfl ?_
      refine pm_R_lo pm_M66 (pc_q := 6) rfl rfl rfl ?_
      refine pm_R_get pm_M66 (pc_q := 9) (v := .ref 17) rfl rfl T.e16 (by decide) (T.lt (by decide)) rfl rfl ?_
      refine pm_R_get pm_M66 (pc_q := 12) (v := .ref 23) rfl rfl T.e17 (by decide) (T.lt (by decide)) rfl rfl ?_
      refine pm_R_op pm_M66 (pc_q := 13) (st_q := [.int 1, .ref 23, .int a1]) rfl rfl rfl ?_
      obtain ⟨f9, e10, b11⟩ := T.C 23 (by decide) (by decide)
      obtain ⟨z6, ez7⟩ : ∃ y, f9 (Int32.toNatClampNeg 1) = y := ⟨_, rfl⟩
      have B8 : sf_B 0 3 z6 := ez7 ▸ (b11 1)
      refine pm_R_iald pm_M66 (pc_q := 14) (v := z6) rfl e10 (T.lt (by decide)) rfl ez7 rfl ?_
      refine pm_R_icmp pm_M66 (t := 21) (pc_q := 17) rfl rfl rfl (fun c12 => ?_) (fun c12 => ?_)
      · have B13 : sf_B 0 2 a1 := sf_ltL c12 B5 B8
        have B14 : sf_B 1 3 z6 := sf_ltR c12 B5 B8
        refine pm_R_lo pm_M66 (pc_q := 22) rfl rfl rfl ?_
        refine pm_R_get pm_M66 (pc_q := 25) (v := .ref 17) rfl rfl T.e16 (by decide) (T.lt (by decide)) rfl rfl ?_
        refine pm_R_get pm_M66 (pc_q := 28) (v := .ref 20) rfl rfl T.e17 (by decide) (T.lt (by decide)) rfl rfl ?_
        refine pm_R_lo pm_M66 (pc_q := 29) rfl rfl rfl ?_
        obtain ⟨f15, e16, b17⟩ := T.C 20 (by decide) (by decide)
        obtain ⟨l18, hx19⟩ := cl_there1 T e10 e16 ez7 c12 B13 (by decide)
        have hk20 := b17 _ _ hx19
        refine pm_R_aald pm_M66 (pc_q := 30) (v := .ref l18) rfl e16 (by decide) (by decide) (by decide) (T.lt (by decide)) (sf_in B13 (by decide) (by decide)) (by rw [hx19]; rfl) rfl ?_
        refine pm_R_ret pm_M66 (r := some (.ref l18)) rfl rfl ?_
        show pm_R _ 68 12 [.ref 16, .int a0, .int a1, .int a2, .int a3, .int a4, .null, pm_no] [.ref l18] _ _
        refine pm_R_lo pm_M68 (pc_q := 14) (ls_q := [.ref 16, .int a0, .int a1, .int a2, .int a3, .int a4, .null, .ref l18]) (st_q := []) rfl rfl rfl ?_
        refine pm_R_lo pm_M68 (pc_q := 16) rfl rfl rfl ?_
        refine pm_R_br pm_M68 (pc_q := 46) rfl rfl ?_
        refine pm_R_ldc2 pm_M68 (pc_q := 49) rfl rfl rfl ?_
        exact pm_R_ret pm_M68 (r := some (.long (-1))) rfl rfl (K (-1) m o h T (cl_F.refl (ck := ck) (A := [33, 34]) (n := 0) (s := 0) T.1) (rf_W.refl [] m))
      · skip
        refine pm_R_op pm_M66 (pc_q := 18) (st_q := [.null]) rfl rfl rfl ?_
        refine pm_R_br pm_M66 (pc_q := 30) rfl rfl ?_
        refine pm_R_ret pm_M66 (r := some (.null)) rfl rfl ?_
        show pm_R _ 68 12 [.ref 16, .int a0, .int a1, .int a2, .int a3, .int a4, .null, pm_no] [.null] _ _
        refine pm_R_lo pm_M68 (pc_q := 14) (ls_q := [.ref 16, .int a0, .int a1, .int a2, .int a3, .int a4, .null, .null]) (st_q := []) rfl rfl rfl ?_
        refine pm_R_lo pm_M68 (pc_q := 16) rfl rfl rfl ?_
        refine pm_R_br pm_M68 (pc_q := 46) rfl rfl ?_
        refine pm_R_ldc2 pm_M68 (pc_q := 49) rfl rfl rfl ?_
        exact pm_R_ret pm_M68 (r := some (.long (-1))) rfl rfl (K (-1) m o h T (cl_F.refl (ck := ck) (A := [33, 34]) (n := 0) (s := 0) T.1) (rf_W.refl [] m))
  · have B21 : sf_B 0 2147483647 a0 := sf_leR (Int32.not_lt.mp c1) sf_k0 (sf_any a0)
    refine pm_R_lo pm_M62 (pc_q := 5) rfl rfl rfl ?_
    refine pm_R_lo pm_M62 (pc_q := 6) rfl rfl rfl ?_
    refine pm_R_get pm_M62 (pc_q := 9) (v := .ref 17) rfl rfl T.e16 (by decide) (T.lt (by decide)) rfl rfl ?_
    refine pm_R_get pm_M62 (pc_q := 12) (v := .ref 23) rfl rfl T.e17 (by decide) (T.lt (by decide)) rfl rfl ?_
    refine pm_R_op pm_M62 (pc_q := 13) (st_q := [.int 0, .ref 23, .int a0]) rfl rfl rfl ?_
    obtain ⟨f25, e26, b27⟩ := T.C 23 (by decide) (by decide)
    obtain ⟨z22, ez23⟩ : ∃ y, f25 (Int32.toNatClampNeg 0) = y := ⟨_, rfl⟩
    have B24 : sf_B 0 2 z22 := ez23 ▸ (b27 0)
    refine pm_R_iald pm_M62 (pc_q := 14) (v := z22) rfl e26 (T.lt (by decide)) rfl ez23 rfl ?_
    refine pm_R_icmp pm_M62 (t := 21) (pc_q := 17) rfl rfl rfl (fun c28 => ?_) (fun c28 => ?_)
    · have B29 : sf_B 0 1 a0 := sf_ltL c28 B21 B24
      have B30 : sf_B 1 2 z22 := sf_ltR c28 B21 B24
      refine pm_R_lo pm_M62 (pc_q := 22) rfl rfl rfl ?_
      refine pm_R_get pm_M62 (pc_q := 25) (v := .ref 17) rfl rfl T.e16 (by decide) (T.lt (by decide)) rfl rfl ?_
      refine pm_R_get pm_M62 (pc_q := 28) (v := .ref 19) rfl rfl T.e17 (by decide) (T.lt (by decide)) rfl rfl ?_
      refine pm_R_lo pm_M62 (pc_q := 29) rfl rfl rfl ?_
      obtain ⟨f31, e32, b33⟩ := T.C 19 (by decide) (by decide)
      obtain ⟨l34, hx35⟩ := cl_there0 T e26 e32 ez23 c28 B29 (by decide)
      have hk36 := b33 _ _ hx35
      refine pm_R_aald pm_M62 (pc_q := 30) (v := .ref l34) rfl e32 (by decide) (by decide) (by decide) (T.lt (by decide)) (sf_in B29 (by decide) (by decide)) (by rw [hx35]; rfl) rfl ?_
      refine pm_R_ret pm_M62 (r := some (.ref l34)) rfl rfl ?_
      show pm_R _ 68 5 [.ref 16, .int a0, .int a1, .int a2, .int a3, .int a4, pm_no, pm_no] [.ref l34] _ _
      refine pm_R_lo pm_M68 (pc_q := 7) (ls_q := [.ref 16, .int a0, .int a1, .int a2, .int a3, .int a4, .ref l34, pm_no]) (st_q := []) rfl rfl rfl ?_
      refine pm_R_lo pm_M68 (pc_q := 8) rfl rfl rfl ?_
      refine pm_R_lo pm_M68 (pc_q := 9) rfl rfl rfl ?_
      refine pm_R_cv pm_M68 (pc_q := 12) (a := 16) (ra := [.int a1]) (rest := []) (ls_q := [.ref 16, .int a1]) rfl rfl (Or.inl rfl) pm_M66 T.e16 rfl (by decide) (T.lt (by decide)) rfl rfl (Nat.le_of_ble_eq_true rfl) rfl rfl ?_
      refine pm_R_lo pm_M66 (pc_q := 1) rfl rfl rfl ?_
      refine pm_R_ifc pm_M66 (t := 17) (pc_q := 4) rfl rfl rfl (fun c37 => ?_) (fun c37 => ?_)
      · have B38 : sf_B (-2147483648) (-1) a1 := sf_ltL c37 (sf_any a1) sf_k0
        refine pm_R_op pm_M66 (pc_q := 18) (st_q := [.null]) rfl rfl rfl ?_
        refine pm_R_br pm_M66 (pc_q := 30) rfl rfl ?_
        refine pm_R_ret pm_M66 (r := some (.null)) rfl rfl ?_
        show pm_R _ 68 12 [.ref 16, .int a0, .int a1, .int a2, .int a3, .int a4, .ref l34, pm_no] [.null] _ _
        refine pm_R_lo pm_M68 (pc_q := 14) (ls_q := [.ref 16, .int a0, .int a1, .int a2, .int a3, .int a4, .ref l34, .null]) (st_q := []) rfl rfl rfl ?_
        refine pm_R_lo pm_M68 (pc_q := 16) rfl rfl rfl ?_
        refine pm_R_br pm_M68 (pc_q := 19) rfl rfl ?_
        refine pm_R_lo pm_M68 (pc_q := 21) rfl rfl rfl ?_
        refine pm_R_br pm_M68 (pc_q := 46) rfl rfl ?_
        refine pm_R_ldc2 pm_M68 (pc_q := 49) rfl rfl rfl ?_
        exact pm_R_ret pm_M68 (r := some (.long (-1))) rfl rfl (K (-1) m o h T (cl_F.refl (ck := ck) (A := [33, 34]) (n := 0) (s := 0) T.1) (rf_W.refl [] m))
      · have B39 : sf_B 0 2147483647 a1 := sf_leR (Int32.not_lt.mp c37) sf_k0 (sf_any a1)
        refine pm_R_lo pm_M66 (pc_q := 5) rfl rfl rfl ?_
        refine pm_R_lo pm_M66 (pc_q := 6) rfl rfl rfl ?_
        refine pm_R_get pm_M66 (pc_q := 9) (v := .ref 17) rfl rfl T.e16 (by decide) (T.lt (by decide)) rfl rfl ?_
        refine pm_R_get pm_M66 (pc_q := 12) (v := .ref 23) rfl rfl T.e17 (by decide) (T.lt (by decide)) rfl rfl ?_
        refine pm_R_op pm_M66 (pc_q := 13) (st_q := [.int 1, .ref 23, .int a1]) rfl rfl rfl ?_
        obtain ⟨z40, ez41⟩ : ∃ y, f25 (Int32.toNatClampNeg 1) = y := ⟨_, rfl⟩
        have B42 : sf_B 0 3 z40 := ez41 ▸ (b27 1)
        refine pm_R_iald pm_M66 (pc_q := 14) (v := z40) rfl e26 (T.lt (by decide)) rfl ez41 rfl ?_
        refine pm_R_icmp pm_M66 (t := 21) (pc_q := 17) rfl rfl rfl (fun c43 => ?_) (fun c43 => ?_)
        · have B44 : sf_B 0 2 a1 := sf_ltL c43 B39 B42
          have B45 : sf_B 1 3 z40 := sf_ltR c43 B39 B42
          refine pm_R_lo pm_M66 (pc_q := 22) rfl rfl rfl ?_
          refine pm_R_get pm_M66 (pc_q := 25) (v := .ref 17) rfl rfl T.e16 (by decide) (T.lt (by decide)) rfl rfl ?_
          refine pm_R_get pm_M66 (pc_q := 28) (v := .ref 20) rfl rfl T.e17 (by decide) (T.lt (by decide)) rfl rfl ?_
          refine pm_R_lo pm_M66 (pc_q := 29) rfl rfl rfl ?_
          obtain ⟨f46, e47, b48⟩ := T.C 20 (by decide) (by decide)
          obtain ⟨l49, hx50⟩ := cl_there1 T e26 e47 ez41 c43 B44 (by decide)
          have hk51 := b48 _ _ hx50
          refine pm_R_aald pm_M66 (pc_q := 30) (v := .ref l49) rfl e47 (by decide) (by decide) (by decide) (T.lt (by decide)) (sf_in B44 (by decide) (by decide)) (by rw [hx50]; rfl) rfl ?_
          refine pm_R_ret pm_M66 (r := some (.ref l49)) rfl rfl ?_
          show pm_R _ 68 12 [.ref 16, .int a0, .int a1, .int a2, .int a3, .int a4, .ref l34, pm_no] [.ref l49] _ _
          refine pm_R_lo pm_M68 (pc_q := 14) (ls_q := [.ref 16, .int a0, .int a1, .int a2, .int a3, .int a4, .ref l34, .ref l49]) (st_q := []) rfl rfl rfl ?_
          refine pm_R_lo pm_M68 (pc_q := 16) rfl rfl rfl ?_
          refine pm_R_br pm_M68 (pc_q := 19) rfl rfl ?_
          refine pm_R_lo pm_M68 (pc_q := 21) rfl rfl rfl ?_
          refine pm_R_br pm_M68 (pc_q := 24) rfl rfl ?_
          refine pm_R_lo pm_M68 (pc_q := 25) rfl rfl rfl ?_
          refine pm_R_ifc pm_M68 (t := 46) (pc_q := 28) rfl rfl rfl (fun c52 => ?_) (fun c52 => ?_)
          · have B53 : sf_B (-2147483648) (-1) a2 := sf_ltL c52 (sf_any a2) sf_k0
            refine pm_R_ldc2 pm_M68 (pc_q := 49) rfl rfl rfl ?_
            exact pm_R_ret pm_M68 (r := some (.long (-1))) rfl rfl (K (-1) m o h T (cl_F.refl (ck := ck) (A := [33, 34]) (n := 0) (s := 0) T.1) (rf_W.refl [] m))
          · have B54 : sf_B 0 2147483647 a2 := sf_leR (Int32.not_lt.mp c52) sf_k0 (sf_any a2)
            refine pm_R_lo pm_M68 (pc_q := 29) rfl rfl rfl ?_
            refine pm_R_op pm_M68 (pc_q := 31) (st_q := [.int 6, .int a2]) rfl rfl rfl ?_
            refine pm_R_icmp pm_M68 (t := 46) (pc_q := 34) rfl rfl rfl (fun c55 => ?_) (fun c55 => ?_)
            · have B56 : sf_B 6 2147483647 a2 := sf_leR c55 sf_k6 B54
              refine pm_R_ldc2 pm_M68 (pc_q := 49) rfl rfl rfl ?_
              exact pm_R_ret pm_M68 (r := some (.long (-1))) rfl rfl (K (-1) m o h T (cl_F.refl (ck := ck) (A := [33, 34]) (n := 0) (s := 0) T.1) (rf_W.refl [] m))
            · have B57 : sf_B 0 5 a2 := sf_ltL (Int32.not_le.mp c55) B54 sf_k6
              refine pm_R_lo pm_M68 (pc_q := 36) rfl rfl rfl ?_
              refine pm_R_lo pm_M68 (pc_q := 38) rfl rfl rfl ?_
              refine pm_R_lo pm_M68 (pc_q := 40) rfl rfl rfl ?_
              obtain ⟨n58, f59, h60, h61, eE62, eE63, b64⟩ := (G.2.2.1 l49 hk51).2
              have kq65 := (G.2.2.1 l49 hk51).1
              refine pm_R_cv pm_M68 (pc_q := 43) (a := l49) (ra := [.int a4, .int a3]) (rest := []) (ls_q := [.ref l49, .int a3, .int a4]) rfl rfl (Or.inl rfl) pm_M69 (T.im hk51 (by decide) (by decide) eE62) rfl (G.ge hk51 (by decide)) (T.al hk51 (by decide)) rfl rfl (Nat.le_of_ble_eq_true rfl) rfl rfl ?_
              refine pm_R_lo pm_M69 (pc_q := 1) rfl rfl rfl ?_
              refine pm_R_ifc pm_M69 (t := 21) (pc_q := 4) rfl rfl rfl (fun c66 => ?_) (fun c66 => ?_)
              · have B67 : sf_B (-2147483648) (-1) a3 := sf_ltL c66 (sf_any a3) sf_k0
                refine pm_R_op pm_M69 (pc_q := 22) (st_q := [.int 0]) rfl rfl rfl ?_
                refine pm_R_ret pm_M69 (r := some (.int 0)) rfl rfl ?_
                show pm_R _ 68 43 [.ref 16, .int a0, .int a1, .int a2, .int a3, .int a4, .ref l34, .ref l49] [.int 0] _ _
                refine pm_R_br pm_M68 (pc_q := 46) (st_q := []) rfl rfl ?_
                refine pm_R_ldc2 pm_M68 (pc_q := 49) rfl rfl rfl ?_
                exact pm_R_ret pm_M68 (r := some (.long (-1))) rfl rfl (K (-1) m o h T (cl_F.refl (ck := ck) (A := [33, 34]) (n := 0) (s := 0) T.1) (rf_W.refl [] m))
              · have B68 : sf_B 0 2147483647 a3 := sf_leR (Int32.not_lt.mp c66) sf_k0 (sf_any a3)
                refine pm_R_lo pm_M69 (pc_q := 5) rfl rfl rfl ?_
                refine pm_R_lo pm_M69 (pc_q := 6) rfl rfl rfl ?_
                refine pm_R_icmp pm_M69 (t := 21) (pc_q := 9) rfl rfl rfl (fun c69 => ?_) (fun c69 => ?_)
                · have B70 : sf_B (-2147483648) 2147483646 a4 := sf_ltL c69 (sf_any a4) B68
                  refine pm_R_op pm_M69 (pc_q := 22) (st_q := [.int 0]) rfl rfl rfl ?_
                  refine pm_R_ret pm_M69 (r := some (.int 0)) rfl rfl ?_
                  show pm_R _ 68 43 [.ref 16, .int a0, .int a1, .int a2, .int a3, .int a4, .ref l34, .ref l49] [.int 0] _ _
                  refine pm_R_br pm_M68 (pc_q := 46) (st_q := []) rfl rfl ?_
                  refine pm_R_ldc2 pm_M68 (pc_q := 49) rfl rfl rfl ?_
                  exact pm_R_ret pm_M68 (r := some (.long (-1))) rfl rfl (K (-1) m o h T (cl_F.refl (ck := ck) (A := [33, 34]) (n := 0) (s := 0) T.1) (rf_W.refl [] m))
                · have B71 : sf_B 0 2147483647 a4 := sf_leR (Int32.not_lt.mp c69) B68 (sf_any a4)
                  refine pm_R_lo pm_M69 (pc_q := 10) rfl rfl rfl ?_
                  refine pm_R_lo pm_M69 (pc_q := 11) rfl rfl rfl ?_
                  refine pm_R_get pm_M69 (pc_q := 14) (v := .int (Int32.ofNat n58)) rfl rfl (T.im hk51 (by decide) (by decide) eE62) (G.ge hk51 (by decide)) (T.al hk51 (by decide)) rfl rfl ?_
                  refine pm_R_icmp pm_M69 (t := 21) (pc_q := 17) rfl rfl rfl (fun c72 => ?_) (fun c72 => ?_)
                  · have B73 : sf_B 1 2147483647 a4 := sf_leR c72 (sf_ofB1 h61 h60 (by decide)) B71
                    refine pm_R_op pm_M69 (pc_q := 22) (st_q := [.int 0]) rfl rfl rfl ?_
                    refine pm_R_ret pm_M69 (r := some (.int 0)) rfl rfl ?_
                    show pm_R _ 68 43 [.ref 16, .int a0, .int a1, .int a2, .int a3, .int a4, .ref l34, .ref l49] [.int 0] _ _
                    refine pm_R_br pm_M68 (pc_q := 46) (st_q := []) rfl rfl ?_
                    refine pm_R_ldc2 pm_M68 (pc_q := 49) rfl rfl rfl ?_
                    exact pm_R_ret pm_M68 (r := some (.long (-1))) rfl rfl (K (-1) m o h T (cl_F.refl (ck := ck) (A := [33, 34]) (n := 0) (s := 0) T.1) (rf_W.refl [] m))
                  · have B74 : sf_B 0 11 a4 := sf_ltL (Int32.not_le.mp c72) B71 (sf_ofB1 h61 h60 (by decide))
                    have B75 : sf_B 0 11 a3 := sf_leT (Int32.le_iff_toInt_le.mp (Int32.not_lt.mp c69)) B68 B74
                    refine pm_R_op pm_M69 (pc_q := 18) (st_q := [.int 1]) rfl rfl rfl ?_
                    refine pm_R_br pm_M69 (pc_q := 22) rfl rfl ?_
                    refine pm_R_ret pm_M69 (r := some (.int 1)) rfl rfl ?_
                    show pm_R _ 68 43 [.ref 16, .int a0, .int a1, .int a2, .int a3, .int a4, .ref l34, .ref l49] [.int 1] _ _
                    refine pm_R_br pm_M68 (pc_q := 50) (st_q := []) rfl rfl ?_
                    refine pm_R_lo pm_M68 (pc_q := 51) rfl rfl rfl ?_
                    refine pm_R_get pm_M68 (pc_q := 54) (v := .ref 33) rfl rfl T.e16 (by decide) (T.lt (by decide)) rfl rfl ?_
                    refine pm_R_lo pm_M68 (pc_q := 56) rfl rfl rfl ?_
                    refine pm_R_lo pm_M68 (pc_q := 58) rfl rfl rfl ?_
                    refine pm_R_cv pm_M68 (pc_q := 61) (a := 33) (ra := [.ref l49, .ref l34]) (rest := []) (ls_q := [.ref 33, .ref l34, .ref l49, pm_no, pm_no]) rfl rfl (Or.inl rfl) pm_M70 T.e33 rfl (by decide) (T.lt (by decide)) rfl rfl (Nat.le_of_ble_eq_true rfl) rfl rfl ?_
                    refine cl_c70 (d := d + 0) G T hk36 hk51 (fun m78 o83 h79 T80 F81 W82 X84 X85 => ?_)
                    have F86 := (cl_F.refl (ck := ck) (A := [33, 34]) (n := 0) (s := 0) T.1).trans (N := 0) (S := 0) F81 (by decide) (by decide) (by decide)
                    have W87 : rf_W [] m m78 := (rf_W.refl [] m).trans W82 (by decide)
                    show pm_R _ 68 61 [.ref 16, .int a0, .int a1, .int a2, .int a3, .int a4, .ref l34, .ref l49] [] _ _
                    refine pm_R_lo pm_M68 (pc_q := 62) rfl rfl rfl ?_
                    refine pm_R_get pm_M68 (pc_q := 65) (v := .ref 33) rfl rfl T80.e16 (by decide) (T80.lt (by decide)) rfl rfl ?_
                    refine pm_R_get pm_M68 (pc_q := 68) (v := .ref 34) rfl rfl T80.e33 (by decide) (T80.lt (by decide)) rfl rfl ?_
                    refine pm_R_lo pm_M68 (pc_q := 70) rfl rfl rfl ?_
                    refine pm_R_lo pm_M68 (pc_q := 72) rfl rfl rfl ?_
                    refine pm_R_cs pm_M68 (pc_q := 75) (ra := [.int a4, .int a3]) (rest := [.ref 34]) (ls_q := [.int a3, .int a4]) rfl rfl (Or.inl rfl) pm_M73 rfl rfl (Nat.le_of_ble_eq_true rfl) rfl rfl ?_
                    refine pm_R_lo pm_M73 (pc_q := 1) rfl rfl rfl ?_
                    refine pm_R_lo pm_M73 (pc_q := 2) rfl rfl rfl ?_
                    refine pm_R_op pm_M73 (pc_q := 3) (st_q := [.int 1, .int a4, .int a4]) rfl rfl rfl ?_
                    refine sf_R_iadd pm_M73 (pc_q := 4) rfl rfl B74 sf_k1 (by decide) (by decide) (fun z88 e89 B90 => ?_)
                    refine sf_R_imul pm_M73 (pc_q := 5) rfl rfl B74 B90 (by decide) (by decide) (by decide) (fun z91 e92 B93 => ?_)
                    refine pm_R_op pm_M73 (pc_q := 6) (st_q := [.int 2, .int z91]) rfl rfl rfl ?_
                    refine sf_R_idiv pm_M73 (pc_q := 7) rfl rfl B93 sf_k2 (by decide) (by decide) (fun z94 e95 B96 => ?_)
                    refine pm_R_lo pm_M73 (pc_q := 8) rfl rfl rfl ?_
                    refine sf_R_iadd pm_M73 (pc_q := 9) rfl rfl B96 B75 (by decide) (by decide) (fun z97 e98 B99 => ?_)
                    refine pm_R_ret pm_M73 (r := some (.int z97)) rfl (pm_ret_i _) ?_
                    show pm_R _ 68 75 [.ref 16, .int a0, .int a1, .int a2, .int a3, .int a4, .ref l34, .ref l49] [.int z97, .ref 34] _ _
                    refine pm_R_op pm_M68 (pc_q := 77) (st_q := [.int 6, .int z97, .ref 34]) rfl rfl rfl ?_
                    refine sf_R_imul pm_M68 (pc_q := 78) rfl rfl B99 sf_k6 (by decide) (by decide) (by decide) (fun z100 e101 B102 => ?_)
                    refine pm_R_lo pm_M68 (pc_q := 79) rfl rfl rfl ?_
                    refine sf_R_iadd pm_M68 (pc_q := 80) rfl rfl B102 B57 (by decide) (by decide) (fun z103 e104 B105 => ?_)
                    obtain ⟨f109, e110⟩ := T80.C 34 (by decide) (by decide)
                    obtain ⟨z106, ez107⟩ : ∃ y, f109 (Int32.toNatClampNeg z103) = y := ⟨_, rfl⟩
                    refine pm_R_lald pm_M68 (pc_q := 81) (v := z106) rfl e110 (by decide) (T80.lt (by decide)) (sf_in B105 (by decide) (by decide)) ez107 rfl ?_
                    refine pm_R_cs pm_M68 (pc_q := 84) (ra := [.long z106]) (rest := []) (ls_q := [.long z106, pm_no]) rfl rfl (Or.inl rfl) pm_M79 rfl rfl (Nat.le_of_ble_eq_true rfl) rfl rfl ?_
                    refine pm_R_lo pm_M79 (pc_q := 1) rfl rfl rfl ?_
                    refine pm_R_ldc2 pm_M79 (pc_q := 4) rfl rfl rfl ?_
                    refine sf_R_lcmp pm_M79 (pc_q := 5) rfl rfl (fun z112 e113 => ?_)
                    refine pm_R_ifc pm_M79 (t := 14) (pc_q := 8) rfl rfl rfl (fun c114 => ?_) (fun c114 => ?_)
                    · have k115 := sf_lneC e113 c114
                      refine pm_R_lo pm_M79 (pc_q := 15) rfl rfl rfl ?_
                      refine pm_R_ldc2 pm_M79 (pc_q := 18) rfl rfl rfl ?_
                      refine cl_R_minl pm_M79 (pc_q := 21) rfl rfl rfl (by decide) rfl (fun z116 => ?_)
                      refine pm_R_ret pm_M79 (r := some (.long z116)) rfl rfl ?_
                      show pm_R _ 68 84 [.ref 16, .int a0, .int a1, .int a2, .int a3, .int a4, .ref l34, .ref l49] [.long z116] _ _
                      exact pm_R_ret pm_M68 (r := some (.long z116)) rfl rfl (K z116 m78 o83 h79 T80 F86 W87)
                    · have B117 : sf_B 0 0 z112 := sf_eqL (Classical.not_not.mp c114) sf_k0
                      have B118 : lf_B (-1) (-1) z106 := lf_eqB e113 B117 (⟨by decide, by decide⟩ : lf_B (-1) (-1) (-1))
                      refine pm_R_ldc2 pm_M79 (pc_q := 11) rfl rfl rfl ?_
                      refine pm_R_br pm_M79 (pc_q := 21) rfl rfl ?_
                      refine pm_R_ret pm_M79 (r := some (.long 1000000000000)) rfl rfl ?_
                      show pm_R _ 68 84 [.ref 16, .int a0, .int a1, .int a2, .int a3, .int a4, .ref l34, .ref l49] [.long 1000000000000] _ _
                      exact pm_R_ret pm_M68 (r := some (.long 1000000000000)) rfl rfl (K 1000000000000 m78 o83 h79 T80 F86 W87)
        · skip
          refine pm_R_op pm_M66 (pc_q := 18) (st_q := [.null]) rfl rfl rfl ?_
          refine pm_R_br pm_M66 (pc_q := 30) rfl rfl ?_
          refine pm_R_ret pm_M66 (r := some (.null)) rfl rfl ?_
          show pm_R _ 68 12 [.ref 16, .int a0, .int a1, .int a2, .int a3, .int a4, .ref l34, pm_no] [.null] _ _
          refine pm_R_lo pm_M68 (pc_q := 14) (ls_q := [.ref 16, .int a0, .int a1, .int a2, .int a3, .int a4, .ref l34, .null]) (st_q := []) rfl rfl rfl ?_
          refine pm_R_lo pm_M68 (pc_q := 16) rfl rfl rfl ?_
          refine pm_R_br pm_M68 (pc_q := 19) rfl rfl ?_
          refine pm_R_lo pm_M68 (pc_q := 21) rfl rfl rfl ?_
          refine pm_R_br pm_M68 (pc_q := 46) rfl rfl ?_
          refine pm_R_ldc2 pm_M68 (pc_q := 49) rfl rfl rfl ?_
          exact pm_R_ret pm_M68 (r := some (.long (-1))) rfl rfl (K (-1) m o h T (cl_F.refl (ck := ck) (A := [33, 34]) (n := 0) (s := 0) T.1) (rf_W.refl [] m))
    · skip
      refine pm_R_op pm_M62 (pc_q := 18) (st_q := [.null]) rfl rfl rfl ?_
      refine pm_R_br pm_M62 (pc_q := 30) rfl rfl ?_
      refine pm_R_ret pm_M62 (r := some (.null)) rfl rfl ?_
      show pm_R _ 68 5 [.ref 16, .int a0, .int a1, .int a2, .int a3, .int a4, pm_no, pm_no] [.null] _ _
      refine pm_R_lo pm_M68 (pc_q := 7) (ls_q := [.ref 16, .int a0, .int a1, .int a2, .int a3, .int a4, .null, pm_no]) (st_q := []) rfl rfl rfl ?_
      refine pm_R_lo pm_M68 (pc_q := 8) rfl rfl rfl ?_
      refine pm_R_lo pm_M68 (pc_q := 9) rfl rfl rfl ?_
      refine pm_R_cv pm_M68 (pc_q := 12) (a := 16) (ra := [.int a1]) (rest := []) (ls_q := [.ref 16, .int a1]) rfl rfl (Or.inl rfl) pm_M66 T.e16 rfl (by decide) (T.lt (by decide)) rfl rfl (Nat.le_of_ble_eq_true rfl) rfl rfl ?_
      refine pm_R_lo pm_M66 (pc_q := 1) rfl rfl rfl ?_
      refine pm_R_ifc pm_M66 (t := 17) (pc_q := 4) rfl rfl rfl (fun c119 => ?_) (fun c119 => ?_)
      · have B120 : sf_B (-2147483648) (-1) a1 := sf_ltL c119 (sf_any a1) sf_k0
        refine pm_R_op pm_M66 (pc_q := 18) (st_q := [.null]) rfl rfl rfl ?_
        refine pm_R_br pm_M66 (pc_q := 30) rfl rfl ?_
        refine pm_R_ret pm_M66 (r := some (.null)) rfl rfl ?_
        show pm_R _ 68 12 [.ref 16, .int a0, .int a1, .int a2, .int a3, .int a4, .null, pm_no] [.null] _ _
        refine pm_R_lo pm_M68 (pc_q := 14) (ls_q := [.ref 16, .int a0, .int a1, .int a2, .int a3, .int a4, .null, .null]) (st_q := []) rfl rfl rfl ?_
        refine pm_R_lo pm_M68 (pc_q := 16) rfl rfl rfl ?_
        refine pm_R_br pm_M68 (pc_q := 46) rfl rfl ?_
        refine pm_R_ldc2 pm_M68 (pc_q := 49) rfl rfl rfl ?_
        exact pm_R_ret pm_M68 (r := some (.long (-1))) rfl rfl (K (-1) m o h T (cl_F.refl (ck := ck) (A := [33, 34]) (n := 0) (s := 0) T.1) (rf_W.refl [] m))
      · have B121 : sf_B 0 2147483647 a1 := sf_leR (Int32.not_lt.mp c119) sf_k0 (sf_any a1)
        refine pm_R_lo pm_M66 (pc_q := 5) rfl rfl rfl ?_
        refine pm_R_lo pm_M66 (pc_q := 6) rfl rfl rfl ?_
        refine pm_R_get pm_M66 (pc_q := 9) (v := .ref 17) rfl rfl T.e16 (by decide) (T.lt (by decide)) rfl rfl ?_
        refine pm_R_get pm_M66 (pc_q := 12) (v := .ref 23) rfl rfl T.e17 (by decide) (T.lt (by decide)) rfl rfl ?_
        refine pm_R_op pm_M66 (pc_q := 13) (st_q := [.int 1, .ref 23, .int a1]) rfl rfl rfl ?_
        obtain ⟨z122, ez123⟩ : ∃ y, f25 (Int32.toNatClampNeg 1) = y := ⟨_, rfl⟩
        have B124 : sf_B 0 3 z122 := ez123 ▸ (b27 1)
        refine pm_R_iald pm_M66 (pc_q := 14) (v := z122) rfl e26 (T.lt (by decide)) rfl ez123 rfl ?_
        refine pm_R_icmp pm_M66 (t := 21) (pc_q := 17) rfl rfl rfl (fun c125 => ?_) (fun c125 => ?_)
        · have B126 : sf_B 0 2 a1 := sf_ltL c125 B121 B124
          have B127 : sf_B 1 3 z122 := sf_ltR c125 B121 B124
          refine pm_R_lo pm_M66 (pc_q := 22) rfl rfl rfl ?_
          refine pm_R_get pm_M66 (pc_q := 25) (v := .ref 17) rfl rfl T.e16 (by decide) (T.lt (by decide)) rfl rfl ?_
          refine pm_R_get pm_M66 (pc_q := 28) (v := .ref 20) rfl rfl T.e17 (by decide) (T.lt (by decide)) rfl rfl ?_
          refine pm_R_lo pm_M66 (pc_q := 29) rfl rfl rfl ?_
          obtain ⟨f128, e129, b130⟩ := T.C 20 (by decide) (by decide)
          obtain ⟨l131, hx132⟩ := cl_there1 T e26 e129 ez123 c125 B126 (by decide)
          have hk133 := b130 _ _ hx132
          refine pm_R_aald pm_M66 (pc_q := 30) (v := .ref l131) rfl e129 (by decide) (by decide) (by decide) (T.lt (by decide)) (sf_in B126 (by decide) (by decide)) (by rw [hx132]; rfl) rfl ?_
          refine pm_R_ret pm_M66 (r := some (.ref l131)) rfl rfl ?_
          show pm_R _ 68 12 [.ref 16, .int a0, .int a1, .int a2, .int a3, .int a4, .null, pm_no] [.ref l131] _ _
          refine pm_R_lo pm_M68 (pc_q := 14) (ls_q := [.ref 16, .int a0, .int a1, .int a2, .int a3, .int a4, .null, .ref l131]) (st_q := []) rfl rfl rfl ?_
          refine pm_R_lo pm_M68 (pc_q := 16) rfl rfl rfl ?_
          refine pm_R_br pm_M68 (pc_q := 46) rfl rfl ?_
          refine pm_R_ldc2 pm_M68 (pc_q := 49) rfl rfl rfl ?_
          exact pm_R_ret pm_M68 (r := some (.long (-1))) rfl rfl (K (-1) m o h T (cl_F.refl (ck := ck) (A := [33, 34]) (n := 0) (s := 0) T.1) (rf_W.refl [] m))
        · skip
          refine pm_R_op pm_M66 (pc_q := 18) (st_q := [.null]) rfl rfl rfl ?_
          refine pm_R_br pm_M66 (pc_q := 30) rfl rfl ?_
          refine pm_R_ret pm_M66 (r := some (.null)) rfl rfl ?_
          show pm_R _ 68 12 [.ref 16, .int a0, .int a1, .int a2, .int a3, .int a4, .null, pm_no] [.null] _ _
          refine pm_R_lo pm_M68 (pc_q := 14) (ls_q := [.ref 16, .int a0, .int a1, .int a2, .int a3, .int a4, .null, .null]) (st_q := []) rfl rfl rfl ?_
          refine pm_R_lo pm_M68 (pc_q := 16) rfl rfl rfl ?_
          refine pm_R_br pm_M68 (pc_q := 46) rfl rfl ?_
          refine pm_R_ldc2 pm_M68 (pc_q := 49) rfl rfl rfl ?_
          exact pm_R_ret pm_M68 (r := some (.long (-1))) rfl rfl (K (-1) m o h T (cl_F.refl (ck := ck) (A := [33, 34]) (n := 0) (s := 0) T.1) (rf_W.refl [] m))
