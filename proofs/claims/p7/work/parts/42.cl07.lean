set_option maxRecDepth 100000 in
set_option maxHeartbeats 4000000 in
/-- SilentTable$TreeChart.pick -/
theorem cl_c92_9 {d : Nat} {ck : cl_K} {E : Nat → pm_E} {m : Nat → Int32} {o : Nat → Option Nat} {h : pm_H} {Q : Option Value → pm_H → Prop} {a0 : Int32} {a1 : Int32} {a2 : Int32} {a3 : Int64} (G : cl_G ck E) (T : cl_T ck E m o h) (Ba0 : sf_B 0 5 a0) (Ba1 : sf_B 0 11 a1) (Ba2 : sf_B 0 11 a2) {lo ro : Nat} (ol : o 1 = some lo) (orr : o 2 = some ro) {n : Nat} (en : E ro = .inr (5, [.int (Int32.ofNat n), .ref (ro + 1)])) (Q1 : a1 < Int32.ofNat n) (Q2 : a2 < Int32.ofNat n) (K : ∀ (r : Int32) (m_q : Nat → Int32) (h_q : pm_H), cl_T ck E m_q o h_q → cl_F ck [33, 35] 0 0 h h_q → rf_W [14, 15] m m_q → Q (some (.int r)) h_q) : pm_R (d + 6) 92 0 [.ref 33, .int a0, .int a1, .int a2, .long a3, pm_no, .int 9, pm_no, pm_no, pm_no, pm_no, pm_no, pm_no, pm_no, pm_no, pm_no, pm_no, pm_no] [] h Q := by
  have hkl := T.oo.2.1 _ ol
  have hkr := T.oo.2.2 _ orr
  obtain ⟨n1, f2, h3, h4, eE5, eE6, b7⟩ := (G.2.2.1 ro hkr).2
  have kq8 := (G.2.2.1 ro hkr).1
  have P1 : a1 < (Int32.ofNat n1) := by rw [cl_rowN eE5 en]; exact Q1
  have P2 : a2 < (Int32.ofNat n1) := by rw [cl_rowN eE5 en]; exact Q2
  refine pm_R_lo pm_M92 (pc_q := 1) rfl rfl rfl ?_
  refine pm_R_lo pm_M92 (pc_q := 2) rfl rfl rfl ?_
  refine pm_R_icmp pm_M92 (t := 12) (pc_q := 5) rfl rfl rfl (fun c9 => ?_) (fun c9 => ?_)
  · skip
    refine pm_R_lo pm_M92 (pc_q := 13) rfl rfl rfl ?_
    refine pm_R_lo pm_M92 (pc_q := 14) rfl rfl rfl ?_
    refine pm_R_lo pm_M92 (pc_q := 15) rfl rfl rfl ?_
    refine pm_R_lo pm_M92 (pc_q := 17) rfl rfl rfl ?_
    refine pm_R_cv pm_M92 (pc_q := 20) (a := 33) (ra := [.long a3, .int a1, .int a0]) (rest := []) (ls_q := [.ref 33, .int a0, .int a1, .long a3, pm_no, pm_no, pm_no, pm_no]) rfl rfl (Or.inl rfl) pm_M93 T.e33 rfl (by decide) (T.lt (by decide)) rfl rfl (Nat.le_of_ble_eq_true rfl) rfl rfl ?_
    refine cl_c93 (d := d + 5) G T Ba0 Ba1 ol orr eE5 P1 (fun r10 m12 h13 T14 F15 W16 B11 => ?_)
    have F17 := (cl_F.refl (ck := ck) (A := [33, 35]) (n := 0) (s := 0) T.1).trans (N := 0) (S := 0) F15 (by decide) (by decide) (by decide)
    have W18 : rf_W [14, 15] m m12 := (rf_W.refl [14, 15] m).trans W16 (by decide)
    show pm_R _ 92 20 [.ref 33, .int a0, .int a1, .int a2, .long a3, pm_no, .int 9, pm_no, pm_no, pm_no, pm_no, pm_no, pm_no, pm_no, pm_no, pm_no, pm_no, pm_no] [.int r10] _ _
    exact pm_R_ret pm_M92 (r := some (.int r10)) rfl (pm_ret_i _) (K r10 m12 h13 T14 F17 W18)
  · have B19 : sf_B 0 10 a1 := sf_ltL (Int32.not_le.mp c9) Ba1 Ba2
    have B20 : sf_B 1 11 a2 := sf_ltR (Int32.not_le.mp c9) Ba1 Ba2
    refine pm_R_lo pm_M92 (pc_q := 7) rfl rfl rfl ?_
    refine pm_R_op pm_M92 (pc_q := 9) (st_q := [.int 12, .int 9]) rfl rfl rfl ?_
    refine pm_R_br pm_M92 (pc_q := 21) (st_q := []) rfl rfl ?_
    refine pm_R_lo pm_M92 (pc_q := 23) rfl rfl rfl ?_
    refine pm_R_lo pm_M92 (pc_q := 25) (ls_q := [.ref 33, .int a0, .int a1, .int a2, .long a3, pm_no, .int 9, .long a3, pm_no, pm_no, pm_no, pm_no, pm_no, pm_no, pm_no, pm_no, pm_no, pm_no]) (st_q := []) rfl rfl rfl ?_
    refine pm_R_lo pm_M92 (pc_q := 26) rfl rfl rfl ?_
    refine pm_R_lo pm_M92 (pc_q := 28) (ls_q := [.ref 33, .int a0, .int a1, .int a2, .long a3, pm_no, .int 9, .long a3, pm_no, .int a1, pm_no, pm_no, pm_no, pm_no, pm_no, pm_no, pm_no, pm_no]) (st_q := []) rfl rfl rfl ?_
    have L_8826 : ∀ (N : Nat) (x9_8826 : Int32) (y7_8826 : Int64) (g10_8826 : Value) (g11_8826 : Value) (g12_8826 : Value) (g13_8826 : Value) (g14_8826 : Value), sf_B 0 11 x9_8826 → g10_8826.category = 1 → g12_8826.category = 1 → g14_8826.category = 1 → (11 - x9_8826.toInt).toNat = N → pm_R (d + 6) 92 28 [.ref 33, .int a0, .int a1, .int a2, .long a3, pm_no, .int 9, .long y7_8826, pm_no, .int x9_8826, g10_8826, g11_8826, g12_8826, g13_8826, g14_8826, pm_no, pm_no, pm_no] [] h Q := by
      intro N
      induction N using Nat.strongRecOn with
      | ind N ih_8826 =>
        intro x9_8826 y7_8826 g10_8826 g11_8826 g12_8826 g13_8826 g14_8826 Bx9_8826 Cg10_8826 Cg12_8826 Cg14_8826 hN_8826
        refine pm_R_lo pm_M92 (pc_q := 30) rfl rfl rfl ?_
        refine pm_R_lo pm_M92 (pc_q := 31) rfl rfl rfl ?_
        refine pm_R_icmp pm_M92 (t := 278) (pc_q := 34) rfl rfl rfl (fun c8827 => ?_) (fun c8827 => ?_)
        · have B8828 : sf_B 1 11 x9_8826 := sf_leR c8827 B20 Bx9_8826
          refine pm_R_op pm_M92 (pc_q := 279) (st_q := [.int (-1)]) (pm_q92_2 (Nat.le_of_ble_eq_true rfl)) rfl rfl ?_
          exact pm_R_ret pm_M92 (r := some (.int (-1))) (pm_q92_2 (Nat.le_of_ble_eq_true rfl)) rfl (K (-1) m h T (cl_F.refl (ck := ck) (A := [33, 35]) (n := 0) (s := 0) T.1) (rf_W.refl [14, 15] m))
        · have B8829 : sf_B 0 10 x9_8826 := sf_ltL (Int32.not_le.mp c8827) Bx9_8826 B20
          refine pm_R_op pm_M92 (pc_q := 35) (st_q := [.int 0]) rfl rfl rfl ?_
          refine pm_R_lo pm_M92 (pc_q := 37) (ls_q := [.ref 33, .int a0, .int a1, .int a2, .long a3, pm_no, .int 9, .long y7_8826, pm_no, .int x9_8826, .int 0, g11_8826, g12_8826, g13_8826, g14_8826, pm_no, pm_no, pm_no]) (st_q := []) rfl rfl rfl ?_
          have L_11755 : ∀ (N : Nat) (x10_11755 : Int32) (y7_11755 : Int64) (g11_11755 : Value) (g12_11755 : Value) (g13_11755 : Value) (g14_11755 : Value), sf_B 0 10 x10_11755 → g12_11755.category = 1 → g14_11755.category = 1 → (10 - x10_11755.toInt).toNat = N → pm_R (d + 6) 92 37 [.ref 33, .int a0, .int a1, .int a2, .long a3, pm_no, .int 9, .long y7_11755, pm_no, .int x9_8826, .int x10_11755, g11_11755, g12_11755, g13_11755, g14_11755, pm_no, pm_no, pm_no] [] h Q := by
            intro N
            induction N using Nat.strongRecOn with
            | ind N ih_11755 =>
              intro x10_11755 y7_11755 g11_11755 g12_11755 g13_11755 g14_11755 Bx10_11755 Cg12_11755 Cg14_11755 hN_11755
              refine pm_R_lo pm_M92 (pc_q := 39) rfl rfl rfl ?_
              refine pm_R_lo pm_M92 (pc_q := 40) rfl rfl rfl ?_
              refine pm_R_get pm_M92 (pc_q := 43) (v := .ref lo) rfl rfl T.e33 (by decide) (T.lt (by decide)) (by show some (va_rf (o 1)) = _; rw [ol]; rfl) rfl ?_
              obtain ⟨rc11756, tc11757, rs11758, fv11759, fw11760, fr11761, ft11762, fn11763, h11764, h11765, B11766, eE11767, eE11768, eE11769, eE11770, eE11771, eE11772, b11773, b11774, b11775⟩ := (G.2.1 lo hkl).2.2.2.2.2
              have kq11776 := G.2.1 lo hkl
              refine pm_R_get pm_M92 (pc_q := 46) (v := .int (Int32.ofNat rc11756)) rfl rfl (T.im hkl (by decide) (by decide) eE11767) (G.ge hkl (by decide)) (T.al hkl (by decide)) rfl rfl ?_
              refine pm_R_icmp pm_M92 (t := 272) (pc_q := 49) rfl rfl rfl (fun c11777 => ?_) (fun c11777 => ?_)
              · skip
                refine sf_R_iinc pm_M92 (pc_q := 275) (ls_q := fun z => [.ref 33, .int a0, .int a1, .int a2, .long a3, pm_no, .int 9, .long y7_11755, pm_no, .int z, .int x10_11755, g11_11755, g12_11755, g13_11755, g14_11755, pm_no, pm_no, pm_no]) (pm_q92_2 (Nat.le_of_ble_eq_true rfl)) B8829 rfl (by decide) (by decide) (by decide) (fun _ => rfl) rfl (fun z11778 e11779 B11780 => ?_)
                show pm_R _ 92 275 [.ref 33, .int a0, .int a1, .int a2, .long a3, pm_no, .int 9, .long y7_11755, pm_no, .int z11778, .int x10_11755, g11_11755, g12_11755, g13_11755, g14_11755, pm_no, pm_no, pm_no] [] _ _
                refine pm_R_br pm_M92 (pc_q := 28) (pm_q92_2 (Nat.le_of_ble_eq_true rfl)) rfl ?_
                exact ih_8826 _ (sf_up hN_8826 e11779 B8829 (by decide) (by decide)) z11778 y7_11755 (.int x10_11755) (g11_11755) (g12_11755) (g13_11755) (g14_11755) (sf_weak B11780 (by decide) (by decide)) rfl Cg12_11755 Cg14_11755 rfl
              · have B11781 : sf_B 0 9 x10_11755 := sf_ltL (Int32.not_le.mp c11777) Bx10_11755 (sf_ofB h11764 (by decide))
                have B11782 : sf_B 1 10 (Int32.ofNat rc11756) := sf_ltR (Int32.not_le.mp c11777) Bx10_11755 (sf_ofB h11764 (by decide))
                refine pm_R_lo pm_M92 (pc_q := 50) rfl rfl rfl ?_
                refine pm_R_lo pm_M92 (pc_q := 52) rfl rfl rfl ?_
                refine pm_R_lo pm_M92 (pc_q := 54) rfl rfl rfl ?_
                refine pm_R_lo pm_M92 (pc_q := 55) rfl rfl rfl ?_
                refine pm_R_cv pm_M92 (pc_q := 58) (a := 33) (ra := [.int a2, .int x9_8826, .int x10_11755]) (rest := []) (ls_q := [.ref 33, .int x10_11755, .int x9_8826, .int a2]) rfl rfl (Or.inl rfl) pm_M76 T.e33 rfl (by decide) (T.lt (by decide)) rfl rfl (Nat.le_of_ble_eq_true rfl) rfl rfl ?_
                refine pm_R_lo pm_M76 (pc_q := 1) rfl rfl rfl ?_
                refine pm_R_get pm_M76 (pc_q := 4) (v := .ref 34) rfl rfl T.e33 (by decide) (T.lt (by decide)) rfl rfl ?_
                refine pm_R_lo pm_M76 (pc_q := 5) rfl rfl rfl ?_
                refine pm_R_op pm_M76 (pc_q := 6) (st_q := [.int 1, .int x9_8826, .ref 34]) rfl rfl rfl ?_
                refine sf_R_iadd pm_M76 (pc_q := 7) rfl rfl B8829 sf_k1 (by decide) (by decide) (fun z11783 e11784 B11785 => ?_)
                refine pm_R_lo pm_M76 (pc_q := 8) rfl rfl rfl ?_
                refine pm_R_cs pm_M76 (pc_q := 11) (ra := [.int a2, .int z11783]) (rest := [.ref 34]) (ls_q := [.int z11783, .int a2]) rfl rfl (Or.inr rfl) pm_M73 rfl rfl (Nat.le_of_ble_eq_true rfl) rfl rfl ?_
                refine pm_R_lo pm_M73 (pc_q := 1) rfl rfl rfl ?_
                refine pm_R_lo pm_M73 (pc_q := 2) rfl rfl rfl ?_
                refine pm_R_op pm_M73 (pc_q := 3) (st_q := [.int 1, .int a2, .int a2]) rfl rfl rfl ?_
                refine sf_R_iadd pm_M73 (pc_q := 4) rfl rfl B20 sf_k1 (by decide) (by decide) (fun z11786 e11787 B11788 => ?_)
                refine sf_R_imul pm_M73 (pc_q := 5) rfl rfl B20 B11788 (by decide) (by decide) (by decide) (fun z11789 e11790 B11791 => ?_)
                refine pm_R_op pm_M73 (pc_q := 6) (st_q := [.int 2, .int z11789]) rfl rfl rfl ?_
                refine sf_R_idiv pm_M73 (pc_q := 7) rfl rfl B11791 sf_k2 (by decide) (by decide) (fun z11792 e11793 B11794 => ?_)
                refine pm_R_lo pm_M73 (pc_q := 8) rfl rfl rfl ?_
                refine sf_R_iadd pm_M73 (pc_q := 9) rfl rfl B11794 B11785 (by decide) (by decide) (fun z11795 e11796 B11797 => ?_)
                refine pm_R_ret pm_M73 (r := some (.int z11795)) rfl (pm_ret_i _) ?_
                show pm_R _ 76 11 [.ref 33, .int x10_11755, .int x9_8826, .int a2] [.int z11795, .ref 34] _ _
                refine pm_R_op pm_M76 (pc_q := 13) (st_q := [.int 6, .int z11795, .ref 34]) rfl rfl rfl ?_
                refine sf_R_imul pm_M76 (pc_q := 14) rfl rfl B11797 sf_k6 (by decide) (by decide) (by decide) (fun z11798 e11799 B11800 => ?_)
                refine pm_R_lo pm_M76 (pc_q := 15) rfl rfl rfl ?_
                refine pm_R_get pm_M76 (pc_q := 18) (v := .ref lo) rfl rfl T.e33 (by decide) (T.lt (by decide)) (by show some (va_rf (o 1)) = _; rw [ol]; rfl) rfl ?_
                refine pm_R_get pm_M76 (pc_q := 21) (v := .ref (lo + 3)) rfl rfl (T.im hkl (by decide) (by decide) eE11767) (G.ge hkl (by decide)) (T.al hkl (by decide)) rfl rfl ?_
                refine pm_R_lo pm_M76 (pc_q := 22) rfl rfl rfl ?_
                refine pm_R_op pm_M76 (pc_q := 23) (st_q := [.int 4, .int x10_11755, .ref (lo + 3), .int z11798, .ref 34]) rfl rfl rfl ?_
                refine sf_R_imul pm_M76 (pc_q := 24) rfl rfl B11781 sf_k4 (by decide) (by decide) (by decide) (fun z11801 e11802 B11803 => ?_)
                refine pm_R_op pm_M76 (pc_q := 25) (st_q := [.int 2, .int z11801, .ref (lo + 3), .int z11798, .ref 34]) rfl rfl rfl ?_
                refine sf_R_iadd pm_M76 (pc_q := 26) rfl rfl B11803 sf_k2 (by decide) (by decide) (fun z11804 e11805 B11806 => ?_)
                have q11810 := cl_in4 (n := rc11756) (Nat.le_trans h11764 (by decide)) (Int32.not_le.mp c11777) (cl_aux6 _ _ _ e11802 e11805) B11781 (by decide) (by decide)
                obtain ⟨z11807, ez11808⟩ : ∃ y, fr11761 (Int32.toNatClampNeg z11804) = y := ⟨_, rfl⟩
                have B11809 : sf_B 0 5 z11807 := ez11808 ▸ q11810.2.2 ▸ (b11773 _ q11810.2.1).2.2
                refine pm_R_iald pm_M76 (pc_q := 27) (v := z11807) rfl (T.im kq11776.2.2.1 (by decide) (by decide) eE11770) (T.al kq11776.2.2.1 (by decide)) q11810.1 ez11808 rfl ?_
                refine sf_R_iadd pm_M76 (pc_q := 28) rfl rfl B11800 B11809 (by decide) (by decide) (fun z11811 e11812 B11813 => ?_)
                obtain ⟨f11817, e11818⟩ := T.C 34 (by decide) (by decide)
                obtain ⟨z11814, ez11815⟩ : ∃ y, f11817 (Int32.toNatClampNeg z11811) = y := ⟨_, rfl⟩
                refine pm_R_lald pm_M76 (pc_q := 29) (v := z11814) rfl e11818 (by decide) (T.lt (by decide)) (sf_in B11813 (by decide) (by decide)) ez11815 rfl ?_
                refine pm_R_ret pm_M76 (r := some (.long z11814)) rfl rfl ?_
                show pm_R _ 92 58 [.ref 33, .int a0, .int a1, .int a2, .long a3, pm_no, .int 9, .long y7_11755, pm_no, .int x9_8826, .int x10_11755, g11_11755, g12_11755, g13_11755, g14_11755, pm_no, pm_no, pm_no] [.long z11814] _ _
                refine pm_R_lo pm_M92 (pc_q := 60) (ls_q := [.ref 33, .int a0, .int a1, .int a2, .long a3, pm_no, .int 9, .long y7_11755, pm_no, .int x9_8826, .int x10_11755, .long z11814, pm_no, g13_11755, g14_11755, pm_no, pm_no, pm_no]) (st_q := []) rfl rfl rfl ?_
                refine pm_R_lo pm_M92 (pc_q := 61) rfl rfl rfl ?_
                refine pm_R_get pm_M92 (pc_q := 64) (v := .ref lo) rfl rfl T.e33 (by decide) (T.lt (by decide)) (by show some (va_rf (o 1)) = _; rw [ol]; rfl) rfl ?_
                refine pm_R_get pm_M92 (pc_q := 67) (v := .ref (lo + 3)) rfl rfl (T.im hkl (by decide) (by decide) eE11767) (G.ge hkl (by decide)) (T.al hkl (by decide)) rfl rfl ?_
                refine pm_R_lo pm_M92 (pc_q := 69) rfl rfl rfl ?_
                refine pm_R_op pm_M92 (pc_q := 70) (st_q := [.int 4, .int x10_11755, .ref (lo + 3)]) rfl rfl rfl ?_
                refine sf_R_imulV pm_M92 (pc_q := 71) rfl rfl B11781 sf_k4 (by decide) (by decide) (by decide) e11802 ?_
                have q11823 := cl_in4 (n := rc11756) (Nat.le_trans h11764 (by decide)) (Int32.not_le.mp c11777) (cl_aux5 _ _ e11802) B11781 (by decide) (by decide)
                obtain ⟨z11820, ez11821⟩ : ∃ y, fr11761 (Int32.toNatClampNeg z11801) = y := ⟨_, rfl⟩
                have B11822 : sf_B 0 5 z11820 := ez11821 ▸ q11823.2.2 ▸ (b11773 _ q11823.2.1).1
                refine pm_R_iald pm_M92 (pc_q := 72) (v := z11820) rfl (T.im kq11776.2.2.1 (by decide) (by decide) eE11770) (T.al kq11776.2.2.1 (by decide)) q11823.1 ez11821 rfl ?_
                refine pm_R_lo pm_M92 (pc_q := 73) rfl rfl rfl ?_
                refine pm_R_icmp pm_M92 (t := 93) (pc_q := 76) rfl rfl rfl (fun c11824 => ?_) (fun c11824 => ?_)
                · skip
                  refine pm_R_op pm_M92 (pc_q := 94) (st_q := [.long 0]) rfl rfl rfl ?_
                  refine pm_R_lo pm_M92 (pc_q := 96) (ls_q := [.ref 33, .int a0, .int a1, .int a2, .long a3, pm_no, .int 9, .long y7_11755, pm_no, .int x9_8826, .int x10_11755, .long z11814, pm_no, .long 0, pm_no, pm_no, pm_no, pm_no]) (st_q := []) rfl rfl rfl ?_
                  refine pm_R_lo pm_M92 (pc_q := 98) rfl rfl rfl ?_
                  refine pm_R_op pm_M92 (pc_q := 99) (st_q := [.long 0, .long z11814]) rfl rfl rfl ?_
                  refine sf_R_lcmp pm_M92 (pc_q := 100) rfl rfl (fun z11825 e11826 => ?_)
                  refine pm_R_ifc pm_M92 (t := 259) (pc_q := 103) rfl rfl rfl (fun c11827 => ?_) (fun c11827 => ?_)
                  · have B11828 : sf_B 0 0 z11825 := sf_eqL c11827 sf_k0
                    have B11829 : lf_B 0 0 z11814 := lf_eqB e11826 B11828 (⟨by decide, by decide⟩ : lf_B 0 0 0)
                    refine pm_R_lo pm_M92 (pc_q := 261) (pm_q92_2 (Nat.le_of_ble_eq_true rfl)) rfl rfl ?_
                    refine pm_R_lo pm_M92 (pc_q := 263) (pm_q92_2 (Nat.le_of_ble_eq_true rfl)) rfl rfl ?_
                    refine sf_R_lany pm_M92 (pc_q := 264) (st := []) (pm_q92_2 (Nat.le_of_ble_eq_true rfl)) rfl rfl (fun z11830 => ?_)
                    refine pm_R_lo pm_M92 (pc_q := 266) (ls_q := [.ref 33, .int a0, .int a1, .int a2, .long a3, pm_no, .int 9, .long z11830, pm_no, .int x9_8826, .int x10_11755, .long z11814, pm_no, .long 0, pm_no, pm_no, pm_no, pm_no]) (st_q := []) (pm_q92_2 (Nat.le_of_ble_eq_true rfl)) rfl rfl ?_
                    refine sf_R_iinc pm_M92 (pc_q := 269) (ls_q := fun z => [.ref 33, .int a0, .int a1, .int a2, .long a3, pm_no, .int 9, .long z11830, pm_no, .int x9_8826, .int z, .long z11814, pm_no, .long 0, pm_no, pm_no, pm_no, pm_no]) (pm_q92_2 (Nat.le_of_ble_eq_true rfl)) B11781 rfl (by decide) (by decide) (by decide) (fun _ => rfl) rfl (fun z11831 e11832 B11833 => ?_)
                    show pm_R _ 92 269 [.ref 33, .int a0, .int a1, .int a2, .long a3, pm_no, .int 9, .long z11830, pm_no, .int x9_8826, .int z11831, .long z11814, pm_no, .long 0, pm_no, pm_no, pm_no, pm_no] [] _ _
                    refine pm_R_br pm_M92 (pc_q := 37) (pm_q92_2 (Nat.le_of_ble_eq_true rfl)) rfl ?_
                    exact ih_11755 _ (sf_up hN_11755 e11832 B11781 (by decide) (by decide)) z11831 z11830 (.long z11814) (pm_no) (.long 0) (pm_no) (sf_weak B11833 (by decide) (by decide)) rfl rfl rfl
                  · have k11834 := sf_lneC e11826 c11827
                    refine pm_R_lo pm_M92 (pc_q := 105) rfl rfl rfl ?_
                    refine pm_R_lo pm_M92 (pc_q := 107) rfl rfl rfl ?_
                    refine sf_R_lcmp pm_M92 (pc_q := 108) rfl rfl (fun z11835 e11836 => ?_)
                    refine pm_R_ifc pm_M92 (t := 120) (pc_q := 111) rfl rfl rfl (fun c11837 => ?_) (fun c11837 => ?_)
                    · have B11838 : sf_B (-2147483648) (-1) z11835 := sf_ltL c11837 (sf_any z11835) sf_k0
                      have k11839 := lf_lt e11836 B11838 (by decide)
                      have k11840 := sf_lneB e11836 B11838 (by decide)
                      refine pm_R_lo pm_M92 (pc_q := 122) (pm_q92_1 (Nat.le_of_ble_eq_true rfl)) rfl rfl ?_
                      refine pm_R_ldc2 pm_M92 (pc_q := 125) (pm_q92_1 (Nat.le_of_ble_eq_true rfl)) rfl rfl ?_
                      refine sf_R_lcmp pm_M92 (pc_q := 126) (pm_q92_1 (Nat.le_of_ble_eq_true rfl)) rfl (fun z11841 e11842 => ?_)
                      refine pm_R_ifc pm_M92 (t := 133) (pc_q := 129) (pm_q92_1 (Nat.le_of_ble_eq_true rfl)) rfl rfl (fun c11843 => ?_) (fun c11843 => ?_)
                      · have k11844 := sf_lneC e11842 c11843
                        refine pm_R_op pm_M92 (pc_q := 134) (st_q := [.int 0]) (pm_q92_1 (Nat.le_of_ble_eq_true rfl)) rfl rfl ?_
                        refine pm_R_lo pm_M92 (pc_q := 136) (ls_q := [.ref 33, .int a0, .int a1, .int a2, .long a3, pm_no, .int 9, .long y7_11755, pm_no, .int x9_8826, .int x10_11755, .long z11814, pm_no, .long 0, pm_no, .int 0, pm_no, pm_no]) (st_q := []) (pm_q92_1 (Nat.le_of_ble_eq_true rfl)) rfl rfl ?_
                        refine pm_R_lo pm_M92 (pc_q := 137) (pm_q92_1 (Nat.le_of_ble_eq_true rfl)) rfl rfl ?_
                        refine pm_R_lo pm_M92 (pc_q := 138) (pm_q92_1 (Nat.le_of_ble_eq_true rfl)) rfl rfl ?_
                        refine pm_R_get pm_M92 (pc_q := 141) (v := .ref lo) (pm_q92_1 (Nat.le_of_ble_eq_true rfl)) rfl T.e33 (by decide) (T.lt (by decide)) (by show some (va_rf (o 1)) = _; rw [ol]; rfl) rfl ?_
                        refine pm_R_get pm_M92 (pc_q := 144) (v := .ref (lo + 3)) (pm_q92_1 (Nat.le_of_ble_eq_true rfl)) rfl (T.im hkl (by decide) (by decide) eE11767) (G.ge hkl (by decide)) (T.al hkl (by decide)) rfl rfl ?_
                        refine pm_R_lo pm_M92 (pc_q := 146) (pm_q92_1 (Nat.le_of_ble_eq_true rfl)) rfl rfl ?_
                        refine pm_R_op pm_M92 (pc_q := 147) (st_q := [.int 4, .int x10_11755, .ref (lo + 3), .ref 33]) (pm_q92_1 (Nat.le_of_ble_eq_true rfl)) rfl rfl ?_
                        refine sf_R_imulV pm_M92 (pc_q := 148) (pm_q92_1 (Nat.le_of_ble_eq_true rfl)) rfl B11781 sf_k4 (by decide) (by decide) (by decide) e11802 ?_
                        refine pm_R_op pm_M92 (pc_q := 149) (st_q := [.int 1, .int z11801, .ref (lo + 3), .ref 33]) (pm_q92_1 (Nat.le_of_ble_eq_true rfl)) rfl rfl ?_
                        refine sf_R_iadd pm_M92 (pc_q := 150) (pm_q92_1 (Nat.le_of_ble_eq_true rfl)) rfl B11803 sf_k1 (by decide) (by decide) (fun z11845 e11846 B11847 => ?_)
                        have q11851 := cl_in4 (n := rc11756) (Nat.le_trans h11764 (by decide)) (Int32.not_le.mp c11777) (cl_aux7 _ _ _ e11802 e11846) B11781 (by decide) (by decide)
                        obtain ⟨z11848, ez11849⟩ : ∃ y, fr11761 (Int32.toNatClampNeg z11845) = y := ⟨_, rfl⟩
                        have B11850 : sf_B 0 5 z11848 := ez11849 ▸ q11851.2.2 ▸ (b11773 _ q11851.2.1).2.1
                        refine pm_R_iald pm_M92 (pc_q := 151) (v := z11848) (pm_q92_1 (Nat.le_of_ble_eq_true rfl)) (T.im kq11776.2.2.1 (by decide) (by decide) eE11770) (T.al kq11776.2.2.1 (by decide)) q11851.1 ez11849 rfl ?_
                        refine pm_R_lo pm_M92 (pc_q := 152) (pm_q92_1 (Nat.le_of_ble_eq_true rfl)) rfl rfl ?_
                        refine pm_R_lo pm_M92 (pc_q := 154) (pm_q92_1 (Nat.le_of_ble_eq_true rfl)) rfl rfl ?_
                        refine pm_R_lo pm_M92 (pc_q := 156) (pm_q92_1 (Nat.le_of_ble_eq_true rfl)) rfl rfl ?_
                        refine pm_R_br pm_M92 (pc_q := 163) (st_q := [.int x9_8826, .int a1, .int z11848, .ref 33]) (pm_q92_1 (Nat.le_of_ble_eq_true rfl)) rfl ?_
                        refine pm_R_lo pm_M92 (pc_q := 165) (pm_q92_1 (Nat.le_of_ble_eq_true rfl)) rfl rfl ?_
                        refine pm_R_lo pm_M92 (pc_q := 167) (pm_q92_1 (Nat.le_of_ble_eq_true rfl)) rfl rfl ?_
                        refine sf_R_ldivA pm_M92 (pc_q := 168) (pm_q92_1 (Nat.le_of_ble_eq_true rfl)) rfl k11834 (fun z11852 => ?_)
                        refine pm_R_lo pm_M92 (pc_q := 170) (pm_q92_1 (Nat.le_of_ble_eq_true rfl)) rfl rfl ?_
                        refine pm_R_op pm_M92 (pc_q := 171) (st_q := [.int 1, .int 9, .long z11852, .int x9_8826, .int a1, .int z11848, .ref 33]) (pm_q92_1 (Nat.le_of_ble_eq_true rfl)) rfl rfl ?_
                        refine pm_R_op pm_M92 (pc_q := 172) (st_q := [.int 10, .long z11852, .int x9_8826, .int a1, .int z11848, .ref 33]) (pm_q92_1 (Nat.le_of_ble_eq_true rfl)) rfl rfl ?_
                        refine pm_R_cv pm_M92 (pc_q := 175) (a := 33) (ra := [.int 10, .long z11852, .int x9_8826, .int a1, .int z11848]) (rest := []) (ls_q := [.ref 33, .int z11848, .int a1, .int x9_8826, .long z11852, pm_no, .int 10, pm_no, pm_no, pm_no, pm_no, pm_no, pm_no, pm_no, pm_no, pm_no, pm_no, pm_no]) (pm_q92_1 (Nat.le_of_ble_eq_true rfl)) rfl (Or.inl rfl) pm_M92 T.e33 rfl (by decide) (T.lt (by decide)) rfl rfl (Nat.le_of_ble_eq_true rfl) rfl rfl ?_
                        refine cl_c92_10 (d := d + 0) G T B11850 (sf_weak B19 (by decide) (by decide)) (sf_weak B8829 (by decide) (by decide)) ol orr eE5 P1 (Int32.lt_iff_toInt_lt.mpr (cl_aux14 _ _ _ (Int32.lt_iff_toInt_lt.mp (Int32.not_le.mp c8827)) (Int32.lt_iff_toInt_lt.mp P2))) (fun r11853 m11855 h11856 T11857 F11858 W11859 => ?_)
                        have F11860 := (cl_F.refl (ck := ck) (A := [33, 35]) (n := 0) (s := 0) T.1).trans (N := 0) (S := 0) F11858 (by decide) (by decide) (by decide)
                        have W11861 : rf_W [14, 15] m m11855 := (rf_W.refl [14, 15] m).trans W11859 (by decide)
                        show pm_R _ 92 175 [.ref 33, .int a0, .int a1, .int a2, .long a3, pm_no, .int 9, .long y7_11755, pm_no, .int x9_8826, .int x10_11755, .long z11814, pm_no, .long 0, pm_no, .int 0, pm_no, pm_no] [.int r11853] _ _
                        refine pm_R_lo pm_M92 (pc_q := 177) (ls_q := [.ref 33, .int a0, .int a1, .int a2, .long a3, pm_no, .int 9, .long y7_11755, pm_no, .int x9_8826, .int x10_11755, .long z11814, pm_no, .long 0, pm_no, .int 0, .int r11853, pm_no]) (st_q := []) (pm_q92_1 (Nat.le_of_ble_eq_true rfl)) rfl rfl ?_
                        refine pm_R_lo pm_M92 (pc_q := 178) (pm_q92_1 (Nat.le_of_ble_eq_true rfl)) rfl rfl ?_
                        refine pm_R_lo pm_M92 (pc_q := 179) (pm_q92_1 (Nat.le_of_ble_eq_true rfl)) rfl rfl ?_
                        refine pm_R_get pm_M92 (pc_q := 182) (v := .ref lo) (pm_q92_1 (Nat.le_of_ble_eq_true rfl)) rfl T11857.e33 (by decide) (T11857.lt (by decide)) (by show some (va_rf (o 1)) = _; rw [ol]; rfl) rfl ?_
                        refine pm_R_get pm_M92 (pc_q := 185) (v := .ref (lo + 3)) (pm_q92_1 (Nat.le_of_ble_eq_true rfl)) rfl (T11857.im hkl (by decide) (by decide) eE11767) (G.ge hkl (by decide)) (T11857.al hkl (by decide)) rfl rfl ?_
                        refine pm_R_lo pm_M92 (pc_q := 187) (pm_q92_1 (Nat.le_of_ble_eq_true rfl)) rfl rfl ?_
                        refine pm_R_op pm_M92 (pc_q := 188) (st_q := [.int 4, .int x10_11755, .ref (lo + 3), .ref 33]) (pm_q92_1 (Nat.le_of_ble_eq_true rfl)) rfl rfl ?_
                        refine sf_R_imulV pm_M92 (pc_q := 189) (pm_q92_1 (Nat.le_of_ble_eq_true rfl)) rfl B11781 sf_k4 (by decide) (by decide) (by decide) e11802 ?_
                        refine pm_R_op pm_M92 (pc_q := 190) (st_q := [.int 2, .int z11801, .ref (lo + 3), .ref 33]) (pm_q92_1 (Nat.le_of_ble_eq_true rfl)) rfl rfl ?_
                        refine sf_R_iaddV pm_M92 (pc_q := 191) (pm_q92_1 (Nat.le_of_ble_eq_true rfl)) rfl B11803 sf_k2 (by decide) (by decide) e11805 ?_
                        have q11865 := cl_in4 (n := rc11756) (Nat.le_trans h11764 (by decide)) (Int32.not_le.mp c11777) (cl_aux6 _ _ _ e11802 e11805) B11781 (by decide) (by decide)
                        refine pm_R_iald pm_M92 (pc_q := 192) (v := z11807) (pm_q92_1 (Nat.le_of_ble_eq_true rfl)) (T11857.im kq11776.2.2.1 (by decide) (by decide) eE11770) (T11857.al kq11776.2.2.1 (by decide)) q11865.1 ez11808 rfl ?_
                        refine pm_R_lo pm_M92 (pc_q := 194) (pm_q92_1 (Nat.le_of_ble_eq_true rfl)) rfl rfl ?_
                        refine pm_R_op pm_M92 (pc_q := 195) (st_q := [.int 1, .int x9_8826, .int z11807, .ref 33]) (pm_q92_1 (Nat.le_of_ble_eq_true rfl)) rfl rfl ?_
                        refine sf_R_iaddV pm_M92 (pc_q := 196) (pm_q92_1 (Nat.le_of_ble_eq_true rfl)) rfl B8829 sf_k1 (by decide) (by decide) e11784 ?_
                        refine pm_R_lo pm_M92 (pc_q := 197) (pm_q92_1 (Nat.le_of_ble_eq_true rfl)) rfl rfl ?_
                        refine pm_R_lo pm_M92 (pc_q := 199) (pm_q92_1 (Nat.le_of_ble_eq_true rfl)) rfl rfl ?_
                        refine pm_R_br pm_M92 (pc_q := 207) (st_q := [.int a2, .int z11783, .int z11807, .ref 33]) (pm_q92_1 (Nat.le_of_ble_eq_true rfl)) rfl ?_
                        refine pm_R_lo pm_M92 (pc_q := 209) (pm_q92_1 (Nat.le_of_ble_eq_true rfl)) rfl rfl ?_
                        refine pm_R_lo pm_M92 (pc_q := 211) (pm_q92_1 (Nat.le_of_ble_eq_true rfl)) rfl rfl ?_
                        refine sf_R_lremA pm_M92 (pc_q := 212) (pm_q92_1 (Nat.le_of_ble_eq_true rfl)) rfl k11834 (fun z11866 => ?_)
                        refine pm_R_lo pm_M92 (pc_q := 214) (pm_q92_1 (Nat.le_of_ble_eq_true rfl)) rfl rfl ?_
                        refine pm_R_op pm_M92 (pc_q := 215) (st_q := [.int 1, .int 9, .long z11866, .int a2, .int z11783, .int z11807, .ref 33]) (pm_q92_1 (Nat.le_of_ble_eq_true rfl)) rfl rfl ?_
                        refine pm_R_op pm_M92 (pc_q := 216) (st_q := [.int 10, .long z11866, .int a2, .int z11783, .int z11807, .ref 33]) (pm_q92_1 (Nat.le_of_ble_eq_true rfl)) rfl rfl ?_
                        refine pm_R_cv pm_M92 (pc_q := 219) (a := 33) (ra := [.int 10, .long z11866, .int a2, .int z11783, .int z11807]) (rest := []) (ls_q := [.ref 33, .int z11807, .int z11783, .int a2, .long z11866, pm_no, .int 10, pm_no, pm_no, pm_no, pm_no, pm_no, pm_no, pm_no, pm_no, pm_no, pm_no, pm_no]) (pm_q92_1 (Nat.le_of_ble_eq_true rfl)) rfl (Or.inl rfl) pm_M92 T11857.e33 rfl (by decide) (T11857.lt (by decide)) rfl rfl (Nat.le_of_ble_eq_true rfl) rfl rfl ?_
                        refine cl_c92_10 (d := d + 0) G T11857 B11809 (sf_weak B11785 (by decide) (by decide)) (sf_weak B20 (by decide) (by decide)) ol orr eE5 (Int32.lt_iff_toInt_lt.mpr (cl_aux15 _ _ _ _ e11784 (Int32.lt_iff_toInt_lt.mp (Int32.not_le.mp c8827)) (Int32.lt_iff_toInt_lt.mp P2))) P2 (fun r11867 m11869 h11870 T11871 F11872 W11873 => ?_)
                        have F11874 := F11860.trans (N := 0) (S := 0) F11872 (by decide) (by decide) (by decide)
                        have W11875 : rf_W [14, 15] m m11869 := W11861.trans W11873 (by decide)
                        show pm_R _ 92 219 [.ref 33, .int a0, .int a1, .int a2, .long a3, pm_no, .int 9, .long y7_11755, pm_no, .int x9_8826, .int x10_11755, .long z11814, pm_no, .long 0, pm_no, .int 0, .int r11853, pm_no] [.int r11867] _ _
                        refine pm_R_lo pm_M92 (pc_q := 221) (ls_q := [.ref 33, .int a0, .int a1, .int a2, .long a3, pm_no, .int 9, .long y7_11755, pm_no, .int x9_8826, .int x10_11755, .long z11814, pm_no, .long 0, pm_no, .int 0, .int r11853, .int r11867]) (st_q := []) (pm_q92_2 (Nat.le_of_ble_eq_true rfl)) rfl rfl ?_
                        refine pm_R_lo pm_M92 (pc_q := 222) (pm_q92_2 (Nat.le_of_ble_eq_true rfl)) rfl rfl ?_
                        refine pm_R_lo pm_M92 (pc_q := 224) (pm_q92_2 (Nat.le_of_ble_eq_true rfl)) rfl rfl ?_
                        refine cl_R_put33 G pm_M92 T11871 (k := 14) (pc_q := 227) (pm_q92_2 (Nat.le_of_ble_eq_true rfl)) rfl rfl (by decide) rfl rfl (sf_any _) rfl rfl rfl rfl rfl (fun h11876 m11879 em11880 T11877 F11878 => ?_)
                        have F11881 := F11878.cl (ck := ck) T11871.1
                        have F11882 := F11874.trans (N := 0) (S := 0) F11881 (by decide) (by decide) (by decide)
                        have B11883 : sf_B 0 9 (m11879 14) := by rw [em11880]; exact B11781
                        have ek11884 : (m11879 14).toInt = (x10_11755).toInt := by rw [em11880]; rfl
                        have W11885 : rf_W [14, 15] m m11879 := by rw [em11880]; exact W11875.put (by decide)
                        refine pm_R_lo pm_M92 (pc_q := 228) (pm_q92_2 (Nat.le_of_ble_eq_true rfl)) rfl rfl ?_
                        refine pm_R_lo pm_M92 (pc_q := 230) (pm_q92_2 (Nat.le_of_ble_eq_true rfl)) rfl rfl ?_
                        refine pm_R_op pm_M92 (pc_q := 231) (st_q := [.int 1, .int x9_8826, .ref 33]) (pm_q92_2 (Nat.le_of_ble_eq_true rfl)) rfl rfl ?_
                        refine sf_R_iaddV pm_M92 (pc_q := 232) (pm_q92_2 (Nat.le_of_ble_eq_true rfl)) rfl B8829 sf_k1 (by decide) (by decide) e11784 ?_
                        refine pm_R_lo pm_M92 (pc_q := 233) (pm_q92_2 (Nat.le_of_ble_eq_true rfl)) rfl rfl ?_
                        refine sf_R_isub pm_M92 (pc_q := 234) (pm_q92_2 (Nat.le_of_ble_eq_true rfl)) rfl B11785 B19 (by decide) (by decide) (fun z11886 e11887 B11888 => ?_)
                        refine cl_R_put33 G pm_M92 T11877 (k := 15) (pc_q := 237) (pm_q92_2 (Nat.le_of_ble_eq_true rfl)) rfl rfl (by decide) rfl rfl (sf_any _) rfl rfl rfl rfl rfl (fun h11889 m11892 em11893 T11890 F11891 => ?_)
                        have F11894 := F11891.cl (ck := ck) T11877.1
                        have F11895 := F11882.trans (N := 0) (S := 0) F11894 (by decide) (by decide) (by decide)
                        have B11896 : sf_B 0 9 (m11892 14) := by rw [em11893]; exact B11883
                        have ek11897 : (m11892 14).toInt = (x10_11755).toInt := by rw [em11893]; exact ek11884
                        have B11898 : sf_B (-9) 11 (m11892 15) := by rw [em11893]; exact B11888
                        have ek11899 : (m11892 15).toInt = (z11886).toInt := by rw [em11893]; rfl
                        have W11900 : rf_W [14, 15] m m11892 := by rw [em11893]; exact W11885.put (by decide)
                        refine pm_R_lo pm_M92 (pc_q := 238) (pm_q92_2 (Nat.le_of_ble_eq_true rfl)) rfl rfl ?_
                        refine pm_R_get pm_M92 (pc_q := 241) (v := .ref lo) (pm_q92_2 (Nat.le_of_ble_eq_true rfl)) rfl T11890.e33 (by decide) (T11890.lt (by decide)) (by show some (va_rf (o 1)) = _; rw [ol]; rfl) rfl ?_
                        refine pm_R_get pm_M92 (pc_q := 244) (v := .ref (lo + 3)) (pm_q92_2 (Nat.le_of_ble_eq_true rfl)) rfl (T11890.im hkl (by decide) (by decide) eE11767) (G.ge hkl (by decide)) (T11890.al hkl (by decide)) rfl rfl ?_
                        refine pm_R_lo pm_M92 (pc_q := 246) (pm_q92_2 (Nat.le_of_ble_eq_true rfl)) rfl rfl ?_
                        refine pm_R_op pm_M92 (pc_q := 247) (st_q := [.int 4, .int x10_11755, .ref (lo + 3)]) (pm_q92_2 (Nat.le_of_ble_eq_true rfl)) rfl rfl ?_
                        refine sf_R_imulV pm_M92 (pc_q := 248) (pm_q92_2 (Nat.le_of_ble_eq_true rfl)) rfl B11781 sf_k4 (by decide) (by decide) (by decide) e11802 ?_
                        refine pm_R_op pm_M92 (pc_q := 249) (st_q := [.int 3, .int z11801, .ref (lo + 3)]) (pm_q92_2 (Nat.le_of_ble_eq_true rfl)) rfl rfl ?_
                        refine sf_R_iadd pm_M92 (pc_q := 250) (pm_q92_2 (Nat.le_of_ble_eq_true rfl)) rfl B11803 sf_k3 (by decide) (by decide) (fun z11901 e11902 B11903 => ?_)
                        have q11907 := cl_in4 (n := rc11756) (Nat.le_trans h11764 (by decide)) (Int32.not_le.mp c11777) (cl_aux9 _ _ _ e11802 e11902) B11781 (by decide) (by decide)
                        obtain ⟨z11904, ez11905⟩ : ∃ y, fr11761 (Int32.toNatClampNeg z11901) = y := ⟨_, rfl⟩
                        refine pm_R_iald pm_M92 (pc_q := 251) (v := z11904) (pm_q92_2 (Nat.le_of_ble_eq_true rfl)) (T11890.im kq11776.2.2.1 (by decide) (by decide) eE11770) (T11890.al kq11776.2.2.1 (by decide)) q11907.1 ez11905 rfl ?_
                        refine pm_R_lo pm_M92 (pc_q := 253) (pm_q92_2 (Nat.le_of_ble_eq_true rfl)) rfl rfl ?_
                        refine pm_R_lo pm_M92 (pc_q := 255) (pm_q92_2 (Nat.le_of_ble_eq_true rfl)) rfl rfl ?_
                        refine pm_R_cs pm_M92 (pc_q := 258) (ra := [.int r11867, .int r11853, .int z11904]) (rest := []) (ls_q := [.int z11904, .int r11853, .int r11867]) (pm_q92_2 (Nat.le_of_ble_eq_true rfl)) rfl (Or.inr rfl) pm_M88 rfl rfl (Nat.le_of_ble_eq_true rfl) rfl rfl ?_
                        refine cl_c88_u (d := d + 5)  (fun r11908 => ?_)
                        show pm_R _ 92 258 [.ref 33, .int a0, .int a1, .int a2, .long a3, pm_no, .int 9, .long y7_11755, pm_no, .int x9_8826, .int x10_11755, .long z11814, pm_no, .long 0, pm_no, .int 0, .int r11853, .int r11867] [.int r11908] _ _
                        exact pm_R_ret pm_M92 (r := some (.int r11908)) (pm_q92_2 (Nat.le_of_ble_eq_true rfl)) (pm_ret_i _) (K r11908 m11892 h11889 T11890 F11895 W11900)
                      · have B11915 : sf_B 0 0 z11841 := sf_eqL (Classical.not_not.mp c11843) sf_k0
                        have B11916 : lf_B (-1) (-1) z11814 := lf_eqB e11842 B11915 (⟨by decide, by decide⟩ : lf_B (-1) (-1) (-1))
                        refine pm_R_op pm_M92 (pc_q := 130) (st_q := [.int 1]) (pm_q92_1 (Nat.le_of_ble_eq_true rfl)) rfl rfl ?_
                        refine pm_R_br pm_M92 (pc_q := 134) (pm_q92_1 (Nat.le_of_ble_eq_true rfl)) rfl ?_
                        refine pm_R_lo pm_M92 (pc_q := 136) (ls_q := [.ref 33, .int a0, .int a1, .int a2, .long a3, pm_no, .int 9, .long y7_11755, pm_no, .int x9_8826, .int x10_11755, .long z11814, pm_no, .long 0, pm_no, .int 1, pm_no, pm_no]) (st_q := []) (pm_q92_1 (Nat.le_of_ble_eq_true rfl)) rfl rfl ?_
                        refine pm_R_lo pm_M92 (pc_q := 137) (pm_q92_1 (Nat.le_of_ble_eq_true rfl)) rfl rfl ?_
                        refine pm_R_lo pm_M92 (pc_q := 138) (pm_q92_1 (Nat.le_of_ble_eq_true rfl)) rfl rfl ?_
                        refine pm_R_get pm_M92 (pc_q := 141) (v := .ref lo) (pm_q92_1 (Nat.le_of_ble_eq_true rfl)) rfl T.e33 (by decide) (T.lt (by decide)) (by show some (va_rf (o 1)) = _; rw [ol]; rfl) rfl ?_
                        refine pm_R_get pm_M92 (pc_q := 144) (v := .ref (lo + 3)) (pm_q92_1 (Nat.le_of_ble_eq_true rfl)) rfl (T.im hkl (by decide) (by decide) eE11767) (G.ge hkl (by decide)) (T.al hkl (by decide)) rfl rfl ?_
                        refine pm_R_lo pm_M92 (pc_q := 146) (pm_q92_1 (Nat.le_of_ble_eq_true rfl)) rfl rfl ?_
                        refine pm_R_op pm_M92 (pc_q := 147) (st_q := [.int 4, .int x10_11755, .ref (lo + 3), .ref 33]) (pm_q92_1 (Nat.le_of_ble_eq_true rfl)) rfl rfl ?_
                        refine sf_R_imulV pm_M92 (pc_q := 148) (pm_q92_1 (Nat.le_of_ble_eq_true rfl)) rfl B11781 sf_k4 (by decide) (by decide) (by decide) e11802 ?_
                        refine pm_R_op pm_M92 (pc_q := 149) (st_q := [.int 1, .int z11801, .ref (lo + 3), .ref 33]) (pm_q92_1 (Nat.le_of_ble_eq_true rfl)) rfl rfl ?_
                        refine sf_R_iadd pm_M92 (pc_q := 150) (pm_q92_1 (Nat.le_of_ble_eq_true rfl)) rfl B11803 sf_k1 (by decide) (by decide) (fun z11917 e11918 B11919 => ?_)
                        have q11923 := cl_in4 (n := rc11756) (Nat.le_trans h11764 (by decide)) (Int32.not_le.mp c11777) (cl_aux7 _ _ _ e11802 e11918) B11781 (by decide) (by decide)
                        obtain ⟨z11920, ez11921⟩ : ∃ y, fr11761 (Int32.toNatClampNeg z11917) = y := ⟨_, rfl⟩
                        have B11922 : sf_B 0 5 z11920 := ez11921 ▸ q11923.2.2 ▸ (b11773 _ q11923.2.1).2.1
                        refine pm_R_iald pm_M92 (pc_q := 151) (v := z11920) (pm_q92_1 (Nat.le_of_ble_eq_true rfl)) (T.im kq11776.2.2.1 (by decide) (by decide) eE11770) (T.al kq11776.2.2.1 (by decide)) q11923.1 ez11921 rfl ?_
                        refine pm_R_lo pm_M92 (pc_q := 152) (pm_q92_1 (Nat.le_of_ble_eq_true rfl)) rfl rfl ?_
                        refine pm_R_lo pm_M92 (pc_q := 154) (pm_q92_1 (Nat.le_of_ble_eq_true rfl)) rfl rfl ?_
                        refine pm_R_lo pm_M92 (pc_q := 156) (pm_q92_1 (Nat.le_of_ble_eq_true rfl)) rfl rfl ?_
                        refine pm_R_br pm_M92 (pc_q := 159) (st_q := [.int x9_8826, .int a1, .int z11920, .ref 33]) (pm_q92_1 (Nat.le_of_ble_eq_true rfl)) rfl ?_
                        refine pm_R_op pm_M92 (pc_q := 160) (st_q := [.long 0, .int x9_8826, .int a1, .int z11920, .ref 33]) (pm_q92_1 (Nat.le_of_ble_eq_true rfl)) rfl rfl ?_
                        refine pm_R_br pm_M92 (pc_q := 168) (pm_q92_1 (Nat.le_of_ble_eq_true rfl)) rfl ?_
                        refine pm_R_lo pm_M92 (pc_q := 170) (pm_q92_1 (Nat.le_of_ble_eq_true rfl)) rfl rfl ?_
                        refine pm_R_op pm_M92 (pc_q := 171) (st_q := [.int 1, .int 9, .long 0, .int x9_8826, .int a1, .int z11920, .ref 33]) (pm_q92_1 (Nat.le_of_ble_eq_true rfl)) rfl rfl ?_
                        refine pm_R_op pm_M92 (pc_q := 172) (st_q := [.int 10, .long 0, .int x9_8826, .int a1, .int z11920, .ref 33]) (pm_q92_1 (Nat.le_of_ble_eq_true rfl)) rfl rfl ?_
                        refine pm_R_cv pm_M92 (pc_q := 175) (a := 33) (ra := [.int 10, .long 0, .int x9_8826, .int a1, .int z11920]) (rest := []) (ls_q := [.ref 33, .int z11920, .int a1, .int x9_8826, .long 0, pm_no, .int 10, pm_no, pm_no, pm_no, pm_no, pm_no, pm_no, pm_no, pm_no, pm_no, pm_no, pm_no]) (pm_q92_1 (Nat.le_of_ble_eq_true rfl)) rfl (Or.inl rfl) pm_M92 T.e33 rfl (by decide) (T.lt (by decide)) rfl rfl (Nat.le_of_ble_eq_true rfl) rfl rfl ?_
                        refine cl_c92_10 (d := d + 0) G T B11922 (sf_weak B19 (by decide) (by decide)) (sf_weak B8829 (by decide) (by decide)) ol orr eE5 P1 (Int32.lt_iff_toInt_lt.mpr (cl_aux14 _ _ _ (Int32.lt_iff_toInt_lt.mp (Int32.not_le.mp c8827)) (Int32.lt_iff_toInt_lt.mp P2))) (fun r11924 m11926 h11927 T11928 F11929 W11930 => ?_)
                        have F11931 := (cl_F.refl (ck := ck) (A := [33, 35]) (n := 0) (s := 0) T.1).trans (N := 0) (S := 0) F11929 (by decide) (by decide) (by decide)
                        have W11932 : rf_W [14, 15] m m11926 := (rf_W.refl [14, 15] m).trans W11930 (by decide)
                        show pm_R _ 92 175 [.ref 33, .int a0, .int a1, .int a2, .long a3, pm_no, .int 9, .long y7_11755, pm_no, .int x9_8826, .int x10_11755, .long z11814, pm_no, .long 0, pm_no, .int 1, pm_no, pm_no] [.int r11924] _ _
                        refine pm_R_lo pm_M92 (pc_q := 177) (ls_q := [.ref 33, .int a0, .int a1, .int a2, .long a3, pm_no, .int 9, .long y7_11755, pm_no, .int x9_8826, .int x10_11755, .long z11814, pm_no, .long 0, pm_no, .int 1, .int r11924, pm_no]) (st_q := []) (pm_q92_1 (Nat.le_of_ble_eq_true rfl)) rfl rfl ?_
                        refine pm_R_lo pm_M92 (pc_q := 178) (pm_q92_1 (Nat.le_of_ble_eq_true rfl)) rfl rfl ?_
                        refine pm_R_lo pm_M92 (pc_q := 179) (pm_q92_1 (Nat.le_of_ble_eq_true rfl)) rfl rfl ?_
                        refine pm_R_get pm_M92 (pc_q := 182) (v := .ref lo) (pm_q92_1 (Nat.le_of_ble_eq_true rfl)) rfl T11928.e33 (by decide) (T11928.lt (by decide)) (by show some (va_rf (o 1)) = _; rw [ol]; rfl) rfl ?_
                        refine pm_R_get pm_M92 (pc_q := 185) (v := .ref (lo + 3)) (pm_q92_1 (Nat.le_of_ble_eq_true rfl)) rfl (T11928.im hkl (by decide) (by decide) eE11767) (G.ge hkl (by decide)) (T11928.al hkl (by decide)) rfl rfl ?_
                        refine pm_R_lo pm_M92 (pc_q := 187) (pm_q92_1 (Nat.le_of_ble_eq_true rfl)) rfl rfl ?_
                        refine pm_R_op pm_M92 (pc_q := 188) (st_q := [.int 4, .int x10_11755, .ref (lo + 3), .ref 33]) (pm_q92_1 (Nat.le_of_ble_eq_true rfl)) rfl rfl ?_
                        refine sf_R_imulV pm_M92 (pc_q := 189) (pm_q92_1 (Nat.le_of_ble_eq_true rfl)) rfl B11781 sf_k4 (by decide) (by decide) (by decide) e11802 ?_
                        refine pm_R_op pm_M92 (pc_q := 190) (st_q := [.int 2, .int z11801, .ref (lo + 3), .ref 33]) (pm_q92_1 (Nat.le_of_ble_eq_true rfl)) rfl rfl ?_
                        refine sf_R_iaddV pm_M92 (pc_q := 191) (pm_q92_1 (Nat.le_of_ble_eq_true rfl)) rfl B11803 sf_k2 (by decide) (by decide) e11805 ?_
                        have q11936 := cl_in4 (n := rc11756) (Nat.le_trans h11764 (by decide)) (Int32.not_le.mp c11777) (cl_aux6 _ _ _ e11802 e11805) B11781 (by decide) (by decide)
                        refine pm_R_iald pm_M92 (pc_q := 192) (v := z11807) (pm_q92_1 (Nat.le_of_ble_eq_true rfl)) (T11928.im kq11776.2.2.1 (by decide) (by decide) eE11770) (T11928.al kq11776.2.2.1 (by decide)) q11936.1 ez11808 rfl ?_
                        refine pm_R_lo pm_M92 (pc_q := 194) (pm_q92_1 (Nat.le_of_ble_eq_true rfl)) rfl rfl ?_
                        refine pm_R_op pm_M92 (pc_q := 195) (st_q := [.int 1, .int x9_8826, .int z11807, .ref 33]) (pm_q92_1 (Nat.le_of_ble_eq_true rfl)) rfl rfl ?_
                        refine sf_R_iaddV pm_M92 (pc_q := 196) (pm_q92_1 (Nat.le_of_ble_eq_true rfl)) rfl B8829 sf_k1 (by decide) (by decide) e11784 ?_
                        refine pm_R_lo pm_M92 (pc_q := 197) (pm_q92_1 (Nat.le_of_ble_eq_true rfl)) rfl rfl ?_
                        refine pm_R_lo pm_M92 (pc_q := 199) (pm_q92_1 (Nat.le_of_ble_eq_true rfl)) rfl rfl ?_
                        refine pm_R_br pm_M92 (pc_q := 202) (st_q := [.int a2, .int z11783, .int z11807, .ref 33]) (pm_q92_1 (Nat.le_of_ble_eq_true rfl)) rfl ?_
                        refine pm_R_lo pm_M92 (pc_q := 204) (pm_q92_1 (Nat.le_of_ble_eq_true rfl)) rfl rfl ?_
                        refine pm_R_br pm_M92 (pc_q := 212) (pm_q92_1 (Nat.le_of_ble_eq_true rfl)) rfl ?_
                        refine pm_R_lo pm_M92 (pc_q := 214) (pm_q92_1 (Nat.le_of_ble_eq_true rfl)) rfl rfl ?_
                        refine pm_R_op pm_M92 (pc_q := 215) (st_q := [.int 1, .int 9, .long y7_11755, .int a2, .int z11783, .int z11807, .ref 33]) (pm_q92_1 (Nat.le_of_ble_eq_true rfl)) rfl rfl ?_
                        refine pm_R_op pm_M92 (pc_q := 216) (st_q := [.int 10, .long y7_11755, .int a2, .int z11783, .int z11807, .ref 33]) (pm_q92_1 (Nat.le_of_ble_eq_true rfl)) rfl rfl ?_
                        refine pm_R_cv pm_M92 (pc_q := 219) (a := 33) (ra := [.int 10, .long y7_11755, .int a2, .int z11783, .int z11807]) (rest := []) (ls_q := [.ref 33, .int z11807, .int z11783, .int a2, .long y7_11755, pm_no, .int 10, pm_no, pm_no, pm_no, pm_no, pm_no, pm_no, pm_no, pm_no, pm_no, pm_no, pm_no]) (pm_q92_1 (Nat.le_of_ble_eq_true rfl)) rfl (Or.inl rfl) pm_M92 T11928.e33 rfl (by decide) (T11928.lt (by decide)) rfl rfl (Nat.le_of_ble_eq_true rfl) rfl rfl ?_
                        refine cl_c92_10 (d := d + 0) G T11928 B11809 (sf_weak B11785 (by decide) (by decide)) (sf_weak B20 (by decide) (by decide)) ol orr eE5 (Int32.lt_iff_toInt_lt.mpr (cl_aux15 _ _ _ _ e11784 (Int32.lt_iff_toInt_lt.mp (Int32.not_le.mp c8827)) (Int32.lt_iff_toInt_lt.mp P2))) P2 (fun r11937 m11939 h11940 T11941 F11942 W11943 => ?_)
                        have F11944 := F11931.trans (N := 0) (S := 0) F11942 (by decide) (by decide) (by decide)
                        have W11945 : rf_W [14, 15] m m11939 := W11932.trans W11943 (by decide)
                        show pm_R _ 92 219 [.ref 33, .int a0, .int a1, .int a2, .long a3, pm_no, .int 9, .long y7_11755, pm_no, .int x9_8826, .int x10_11755, .long z11814, pm_no, .long 0, pm_no, .int 1, .int r11924, pm_no] [.int r11937] _ _
                        refine pm_R_lo pm_M92 (pc_q := 221) (ls_q := [.ref 33, .int a0, .int a1, .int a2, .long a3, pm_no, .int 9, .long y7_11755, pm_no, .int x9_8826, .int x10_11755, .long z11814, pm_no, .long 0, pm_no, .int 1, .int r11924, .int r11937]) (st_q := []) (pm_q92_2 (Nat.le_of_ble_eq_true rfl)) rfl rfl ?_
                        refine pm_R_lo pm_M92 (pc_q := 222) (pm_q92_2 (Nat.le_of_ble_eq_true rfl)) rfl rfl ?_
                        refine pm_R_lo pm_M92 (pc_q := 224) (pm_q92_2 (Nat.le_of_ble_eq_true rfl)) rfl rfl ?_
                        refine cl_R_put33 G pm_M92 T11941 (k := 14) (pc_q := 227) (pm_q92_2 (Nat.le_of_ble_eq_true rfl)) rfl rfl (by decide) rfl rfl (sf_any _) rfl rfl rfl rfl rfl (fun h11946 m11949 em11950 T11947 F11948 => ?_)
                        have F11951 := F11948.cl (ck := ck) T11941.1
                        have F11952 := F11944.trans (N := 0) (S := 0) F11951 (by decide) (by decide) (by decide)
                        have B11953 : sf_B 0 9 (m11949 14) := by rw [em11950]; exact B11781
                        have ek11954 : (m11949 14).toInt = (x10_11755).toInt := by rw [em11950]; rfl
                        have W11955 : rf_W [14, 15] m m11949 := by rw [em11950]; exact W11945.put (by decide)
                        refine pm_R_lo pm_M92 (pc_q := 228) (pm_q92_2 (Nat.le_of_ble_eq_true rfl)) rfl rfl ?_
                        refine pm_R_lo pm_M92 (pc_q := 230) (pm_q92_2 (Nat.le_of_ble_eq_true rfl)) rfl rfl ?_
                        refine pm_R_op pm_M92 (pc_q := 231) (st_q := [.int 1, .int x9_8826, .ref 33]) (pm_q92_2 (Nat.le_of_ble_eq_true rfl)) rfl rfl ?_
                        refine sf_R_iaddV pm_M92 (pc_q := 232) (pm_q92_2 (Nat.le_of_ble_eq_true rfl)) rfl B8829 sf_k1 (by decide) (by decide) e11784 ?_
                        refine pm_R_lo pm_M92 (pc_q := 233) (pm_q92_2 (Nat.le_of_ble_eq_true rfl)) rfl rfl ?_
                        refine sf_R_isub pm_M92 (pc_q := 234) (pm_q92_2 (Nat.le_of_ble_eq_true rfl)) rfl B11785 B19 (by decide) (by decide) (fun z11956 e11957 B11958 => ?_)
                        refine cl_R_put33 G pm_M92 T11947 (k := 15) (pc_q := 237) (pm_q92_2 (Nat.le_of_ble_eq_true rfl)) rfl rfl (by decide) rfl rfl (sf_any _) rfl rfl rfl rfl rfl (fun h11959 m11962 em11963 T11960 F11961 => ?_)
                        have F11964 := F11961.cl (ck := ck) T11947.1
                        have F11965 := F11952.trans (N := 0) (S := 0) F11964 (by decide) (by decide) (by decide)
                        have B11966 : sf_B 0 9 (m11962 14) := by rw [em11963]; exact B11953
                        have ek11967 : (m11962 14).toInt = (x10_11755).toInt := by rw [em11963]; exact ek11954
                        have B11968 : sf_B (-9) 11 (m11962 15) := by rw [em11963]; exact B11958
                        have ek11969 : (m11962 15).toInt = (z11956).toInt := by rw [em11963]; rfl
                        have W11970 : rf_W [14, 15] m m11962 := by rw [em11963]; exact W11955.put (by decide)
                        refine pm_R_lo pm_M92 (pc_q := 238) (pm_q92_2 (Nat.le_of_ble_eq_true rfl)) rfl rfl ?_
                        refine pm_R_get pm_M92 (pc_q := 241) (v := .ref lo) (pm_q92_2 (Nat.le_of_ble_eq_true rfl)) rfl T11960.e33 (by decide) (T11960.lt (by decide)) (by show some (va_rf (o 1)) = _; rw [ol]; rfl) rfl ?_
                        refine pm_R_get pm_M92 (pc_q := 244) (v := .ref (lo + 3)) (pm_q92_2 (Nat.le_of_ble_eq_true rfl)) rfl (T11960.im hkl (by decide) (by decide) eE11767) (G.ge hkl (by decide)) (T11960.al hkl (by decide)) rfl rfl ?_
                        refine pm_R_lo pm_M92 (pc_q := 246) (pm_q92_2 (Nat.le_of_ble_eq_true rfl)) rfl rfl ?_
                        refine pm_R_op pm_M92 (pc_q := 247) (st_q := [.int 4, .int x10_11755, .ref (lo + 3)]) (pm_q92_2 (Nat.le_of_ble_eq_true rfl)) rfl rfl ?_
                        refine sf_R_imulV pm_M92 (pc_q := 248) (pm_q92_2 (Nat.le_of_ble_eq_true rfl)) rfl B11781 sf_k4 (by decide) (by decide) (by decide) e11802 ?_
                        refine pm_R_op pm_M92 (pc_q := 249) (st_q := [.int 3, .int z11801, .ref (lo + 3)]) (pm_q92_2 (Nat.le_of_ble_eq_true rfl)) rfl rfl ?_
                        refine sf_R_iadd pm_M92 (pc_q := 250) (pm_q92_2 (Nat.le_of_ble_eq_true rfl)) rfl B11803 sf_k3 (by decide) (by decide) (fun z11971 e11972 B11973 => ?_)
                        have q11977 := cl_in4 (n := rc11756) (Nat.le_trans h11764 (by decide)) (Int32.not_le.mp c11777) (cl_aux9 _ _ _ e11802 e11972) B11781 (by decide) (by decide)
                        obtain ⟨z11974, ez11975⟩ : ∃ y, fr11761 (Int32.toNatClampNeg z11971) = y := ⟨_, rfl⟩
                        refine pm_R_iald pm_M92 (pc_q := 251) (v := z11974) (pm_q92_2 (Nat.le_of_ble_eq_true rfl)) (T11960.im kq11776.2.2.1 (by decide) (by decide) eE11770) (T11960.al kq11776.2.2.1 (by decide)) q11977.1 ez11975 rfl ?_
                        refine pm_R_lo pm_M92 (pc_q := 253) (pm_q92_2 (Nat.le_of_ble_eq_true rfl)) rfl rfl ?_
                        refine pm_R_lo pm_M92 (pc_q := 255) (pm_q92_2 (Nat.le_of_ble_eq_true rfl)) rfl rfl ?_
                        refine pm_R_cs pm_M92 (pc_q := 258) (ra := [.int r11937, .int r11924, .int z11974]) (rest := []) (ls_q := [.int z11974, .int r11924, .int r11937]) (pm_q92_2 (Nat.le_of_ble_eq_true rfl)) rfl (Or.inr rfl) pm_M88 rfl rfl (Nat.le_of_ble_eq_true rfl) rfl rfl ?_
                        refine cl_c88_u (d := d + 5)  (fun r11978 => ?_)
                        show pm_R _ 92 258 [.ref 33, .int a0, .int a1, .int a2, .long a3, pm_no, .int 9, .long y7_11755, pm_no, .int x9_8826, .int x10_11755, .long z11814, pm_no, .long 0, pm_no, .int 1, .int r11924, .int r11937] [.int r11978] _ _
                        exact pm_R_ret pm_M92 (r := some (.int r11978)) (pm_q92_2 (Nat.le_of_ble_eq_true rfl)) (pm_ret_i _) (K r11978 m11962 h11959 T11960 F11965 W11970)
                    · have B11985 : sf_B 0 2147483647 z11835 := sf_leR (Int32.not_lt.mp c11837) sf_k0 (sf_any z11835)
                      have k11986 := lf_ge e11836 B11985 (by decide)
                      have B11987 : lf_B 0 9223372036854775807 y7_11755 := lf_geB k11986 (⟨by decide, by decide⟩ : lf_B 0 0 0) (lf_any _)
                      refine pm_R_lo pm_M92 (pc_q := 113) rfl rfl rfl ?_
                      refine pm_R_ldc2 pm_M92 (pc_q := 116) (pm_q92_1 (Nat.le_of_ble_eq_true rfl)) rfl rfl ?_
                      refine sf_R_lcmp pm_M92 (pc_q := 117) (pm_q92_1 (Nat.le_of_ble_eq_true rfl)) rfl (fun z11988 e11989 => ?_)
                      have B11990 : sf_B 1 2147483647 z11988 := lf_cmpGt e11989 (⟨by decide, by decide⟩ : lf_B 0 0 0) (⟨by decide, by decide⟩ : lf_B (-1) (-1) (-1)) (by decide)
                      refine pm_R_ifc pm_M92 (t := 259) (pc_q := 120) (pm_q92_1 (Nat.le_of_ble_eq_true rfl)) rfl rfl (fun c11991 => ?_) (fun c11991 => absurd (Classical.not_not.mp c11991) (sf_neq1 B11990 sf_k0 (by decide)))
                      have k11992 := sf_lneC e11989 c11991
                      refine pm_R_lo pm_M92 (pc_q := 261) (pm_q92_2 (Nat.le_of_ble_eq_true rfl)) rfl rfl ?_
                      refine pm_R_lo pm_M92 (pc_q := 263) (pm_q92_2 (Nat.le_of_ble_eq_true rfl)) rfl rfl ?_
                      refine sf_R_lsubN pm_M92 (pc_q := 264) (pm_q92_2 (Nat.le_of_ble_eq_true rfl)) rfl B11987 (⟨by decide, by decide⟩ : lf_B 0 0 0) (by decide) k11986 (fun z11993 e11994 B11995 => ?_)
                      refine pm_R_lo pm_M92 (pc_q := 266) (ls_q := [.ref 33, .int a0, .int a1, .int a2, .long a3, pm_no, .int 9, .long z11993, pm_no, .int x9_8826, .int x10_11755, .long z11814, pm_no, .long 0, pm_no, pm_no, pm_no, pm_no]) (st_q := []) (pm_q92_2 (Nat.le_of_ble_eq_true rfl)) rfl rfl ?_
                      refine sf_R_iinc pm_M92 (pc_q := 269) (ls_q := fun z => [.ref 33, .int a0, .int a1, .int a2, .long a3, pm_no, .int 9, .long z11993, pm_no, .int x9_8826, .int z, .long z11814, pm_no, .long 0, pm_no, pm_no, pm_no, pm_no]) (pm_q92_2 (Nat.le_of_ble_eq_true rfl)) B11781 rfl (by decide) (by decide) (by decide) (fun _ => rfl) rfl (fun z11996 e11997 B11998 => ?_)
                      show pm_R _ 92 269 [.ref 33, .int a0, .int a1, .int a2, .long a3, pm_no, .int 9, .long z11993, pm_no, .int x9_8826, .int z11996, .long z11814, pm_no, .long 0, pm_no, pm_no, pm_no, pm_no] [] _ _
                      refine pm_R_br pm_M92 (pc_q := 37) (pm_q92_2 (Nat.le_of_ble_eq_true rfl)) rfl ?_
                      exact ih_11755 _ (sf_up hN_11755 e11997 B11781 (by decide) (by decide)) z11996 z11993 (.long z11814) (pm_no) (.long 0) (pm_no) (sf_weak B11998 (by decide) (by decide)) rfl rfl rfl
                · refine pm_R_lo pm_M92 (pc_q := 77) rfl rfl rfl ?_
                  refine pm_R_lo pm_M92 (pc_q := 79) rfl rfl rfl ?_
                  refine pm_R_lo pm_M92 (pc_q := 80) rfl rfl rfl ?_
                  refine pm_R_lo pm_M92 (pc_q := 82) rfl rfl rfl ?_
                  refine pm_R_cv pm_M92 (pc_q := 85) (a := 33) (ra := [.int x9_8826, .int a1, .int x10_11755]) (rest := []) (ls_q := [.ref 33, .int x10_11755, .int a1, .int x9_8826]) rfl rfl (Or.inl rfl) pm_M75 T.e33 rfl (by decide) (T.lt (by decide)) rfl rfl (Nat.le_of_ble_eq_true rfl) rfl rfl ?_
                  refine pm_R_lo pm_M75 (pc_q := 1) rfl rfl rfl ?_
                  refine pm_R_get pm_M75 (pc_q := 4) (v := .ref 34) rfl rfl T.e33 (by decide) (T.lt (by decide)) rfl rfl ?_
                  refine pm_R_lo pm_M75 (pc_q := 5) rfl rfl rfl ?_
                  refine pm_R_lo pm_M75 (pc_q := 6) rfl rfl rfl ?_
                  refine pm_R_cs pm_M75 (pc_q := 9) (ra := [.int x9_8826, .int a1]) (rest := [.ref 34]) (ls_q := [.int a1, .int x9_8826]) rfl rfl (Or.inr rfl) pm_M73 rfl rfl (Nat.le_of_ble_eq_true rfl) rfl rfl ?_
                  refine pm_R_lo pm_M73 (pc_q := 1) rfl rfl rfl ?_
                  refine pm_R_lo pm_M73 (pc_q := 2) rfl rfl rfl ?_
                  refine pm_R_op pm_M73 (pc_q := 3) (st_q := [.int 1, .int x9_8826, .int x9_8826]) rfl rfl rfl ?_
                  refine sf_R_iaddV pm_M73 (pc_q := 4) rfl rfl B8829 sf_k1 (by decide) (by decide) e11784 ?_
                  refine sf_R_imul pm_M73 (pc_q := 5) rfl rfl B8829 B11785 (by decide) (by decide) (by decide) (fun z11999 e12000 B12001 => ?_)
                  refine pm_R_op pm_M73 (pc_q := 6) (st_q := [.int 2, .int z11999]) rfl rfl rfl ?_
                  refine sf_R_idiv pm_M73 (pc_q := 7) rfl rfl B12001 sf_k2 (by decide) (by decide) (fun z12002 e12003 B12004 => ?_)
                  refine pm_R_lo pm_M73 (pc_q := 8) rfl rfl rfl ?_
                  refine sf_R_iadd pm_M73 (pc_q := 9) rfl rfl B12004 B19 (by decide) (by decide) (fun z12005 e12006 B12007 => ?_)
                  refine pm_R_ret pm_M73 (r := some (.int z12005)) rfl (pm_ret_i _) ?_
                  show pm_R _ 75 9 [.ref 33, .int x10_11755, .int a1, .int x9_8826] [.int z12005, .ref 34] _ _
                  refine pm_R_op pm_M75 (pc_q := 11) (st_q := [.int 6, .int z12005, .ref 34]) rfl rfl rfl ?_
                  refine sf_R_imul pm_M75 (pc_q := 12) rfl rfl B12007 sf_k6 (by decide) (by decide) (by decide) (fun z12008 e12009 B12010 => ?_)
                  refine pm_R_lo pm_M75 (pc_q := 13) rfl rfl rfl ?_
                  refine pm_R_get pm_M75 (pc_q := 16) (v := .ref lo) rfl rfl T.e33 (by decide) (T.lt (by decide)) (by show some (va_rf (o 1)) = _; rw [ol]; rfl) rfl ?_
                  refine pm_R_get pm_M75 (pc_q := 19) (v := .ref (lo + 3)) rfl rfl (T.im hkl (by decide) (by decide) eE11767) (G.ge hkl (by decide)) (T.al hkl (by decide)) rfl rfl ?_
                  refine pm_R_lo pm_M75 (pc_q := 20) rfl rfl rfl ?_
                  refine pm_R_op pm_M75 (pc_q := 21) (st_q := [.int 4, .int x10_11755, .ref (lo + 3), .int z12008, .ref 34]) rfl rfl rfl ?_
                  refine sf_R_imulV pm_M75 (pc_q := 22) rfl rfl B11781 sf_k4 (by decide) (by decide) (by decide) e11802 ?_
                  refine pm_R_op pm_M75 (pc_q := 23) (st_q := [.int 1, .int z11801, .ref (lo + 3), .int z12008, .ref 34]) rfl rfl rfl ?_
                  refine sf_R_iadd pm_M75 (pc_q := 24) rfl rfl B11803 sf_k1 (by decide) (by decide) (fun z12011 e12012 B12013 => ?_)
                  have q12017 := cl_in4 (n := rc11756) (Nat.le_trans h11764 (by decide)) (Int32.not_le.mp c11777) (cl_aux7 _ _ _ e11802 e12012) B11781 (by decide) (by decide)
                  obtain ⟨z12014, ez12015⟩ : ∃ y, fr11761 (Int32.toNatClampNeg z12011) = y := ⟨_, rfl⟩
                  have B12016 : sf_B 0 5 z12014 := ez12015 ▸ q12017.2.2 ▸ (b11773 _ q12017.2.1).2.1
                  refine pm_R_iald pm_M75 (pc_q := 25) (v := z12014) rfl (T.im kq11776.2.2.1 (by decide) (by decide) eE11770) (T.al kq11776.2.2.1 (by decide)) q12017.1 ez12015 rfl ?_
                  refine sf_R_iadd pm_M75 (pc_q := 26) rfl rfl B12010 B12016 (by decide) (by decide) (fun z12018 e12019 B12020 => ?_)
                  obtain ⟨z12021, ez12022⟩ : ∃ y, f11817 (Int32.toNatClampNeg z12018) = y := ⟨_, rfl⟩
                  refine pm_R_lald pm_M75 (pc_q := 27) (v := z12021) rfl e11818 (by decide) (T.lt (by decide)) (sf_in B12020 (by decide) (by decide)) ez12022 rfl ?_
                  refine pm_R_ret pm_M75 (r := some (.long z12021)) rfl rfl ?_
                  show pm_R _ 92 85 [.ref 33, .int a0, .int a1, .int a2, .long a3, pm_no, .int 9, .long y7_11755, pm_no, .int x9_8826, .int x10_11755, .long z11814, pm_no, g13_11755, g14_11755, pm_no, pm_no, pm_no] [.long z12021] _ _
                  refine pm_R_lo pm_M92 (pc_q := 87) rfl rfl rfl ?_
                  refine pm_R_cs pm_M92 (pc_q := 90) (ra := [.long z11814, .long z12021]) (rest := []) (ls_q := [.long z12021, pm_no, .long z11814, pm_no]) rfl rfl (Or.inr rfl) pm_M77 rfl rfl (Nat.le_of_ble_eq_true rfl) rfl rfl ?_
                  refine cl_c77 (d := d + 5)  (fun r12024 => ?_)
                  show pm_R _ 92 90 [.ref 33, .int a0, .int a1, .int a2, .long a3, pm_no, .int 9, .long y7_11755, pm_no, .int x9_8826, .int x10_11755, .long z11814, pm_no, g13_11755, g14_11755, pm_no, pm_no, pm_no] [.long r12024] _ _
                  refine pm_R_br pm_M92 (pc_q := 94) rfl rfl ?_
                  refine pm_R_lo pm_M92 (pc_q := 96) (ls_q := [.ref 33, .int a0, .int a1, .int a2, .long a3, pm_no, .int 9, .long y7_11755, pm_no, .int x9_8826, .int x10_11755, .long z11814, pm_no, .long r12024, pm_no, pm_no, pm_no, pm_no]) (st_q := []) rfl rfl rfl ?_
                  refine pm_R_lo pm_M92 (pc_q := 98) rfl rfl rfl ?_
                  refine pm_R_op pm_M92 (pc_q := 99) (st_q := [.long 0, .long z11814]) rfl rfl rfl ?_
                  refine sf_R_lcmp pm_M92 (pc_q := 100) rfl rfl (fun z12031 e12032 => ?_)
                  refine pm_R_ifc pm_M92 (t := 259) (pc_q := 103) rfl rfl rfl (fun c12033 => ?_) (fun c12033 => ?_)
                  · have B12034 : sf_B 0 0 z12031 := sf_eqL c12033 sf_k0
                    have B12035 : lf_B 0 0 z11814 := lf_eqB e12032 B12034 (⟨by decide, by decide⟩ : lf_B 0 0 0)
                    refine pm_R_lo pm_M92 (pc_q := 261) (pm_q92_2 (Nat.le_of_ble_eq_true rfl)) rfl rfl ?_
                    refine pm_R_lo pm_M92 (pc_q := 263) (pm_q92_2 (Nat.le_of_ble_eq_true rfl)) rfl rfl ?_
                    refine sf_R_lany pm_M92 (pc_q := 264) (st := []) (pm_q92_2 (Nat.le_of_ble_eq_true rfl)) rfl rfl (fun z12036 => ?_)
                    refine pm_R_lo pm_M92 (pc_q := 266) (ls_q := [.ref 33, .int a0, .int a1, .int a2, .long a3, pm_no, .int 9, .long z12036, pm_no, .int x9_8826, .int x10_11755, .long z11814, pm_no, .long r12024, pm_no, pm_no, pm_no, pm_no]) (st_q := []) (pm_q92_2 (Nat.le_of_ble_eq_true rfl)) rfl rfl ?_
                    refine sf_R_iinc pm_M92 (pc_q := 269) (ls_q := fun z => [.ref 33, .int a0, .int a1, .int a2, .long a3, pm_no, .int 9, .long z12036, pm_no, .int x9_8826, .int z, .long z11814, pm_no, .long r12024, pm_no, pm_no, pm_no, pm_no]) (pm_q92_2 (Nat.le_of_ble_eq_true rfl)) B11781 rfl (by decide) (by decide) (by decide) (fun _ => rfl) rfl (fun z12037 e12038 B12039 => ?_)
                    show pm_R _ 92 269 [.ref 33, .int a0, .int a1, .int a2, .long a3, pm_no, .int 9, .long z12036, pm_no, .int x9_8826, .int z12037, .long z11814, pm_no, .long r12024, pm_no, pm_no, pm_no, pm_no] [] _ _
                    refine pm_R_br pm_M92 (pc_q := 37) (pm_q92_2 (Nat.le_of_ble_eq_true rfl)) rfl ?_
                    exact ih_11755 _ (sf_up hN_11755 e12038 B11781 (by decide) (by decide)) z12037 z12036 (.long z11814) (pm_no) (.long r12024) (pm_no) (sf_weak B12039 (by decide) (by decide)) rfl rfl rfl
                  · have k12040 := sf_lneC e12032 c12033
                    refine pm_R_lo pm_M92 (pc_q := 105) rfl rfl rfl ?_
                    refine pm_R_lo pm_M92 (pc_q := 107) rfl rfl rfl ?_
                    refine sf_R_lcmp pm_M92 (pc_q := 108) rfl rfl (fun z12041 e12042 => ?_)
                    refine pm_R_ifc pm_M92 (t := 120) (pc_q := 111) rfl rfl rfl (fun c12043 => ?_) (fun c12043 => ?_)
                    · have B12044 : sf_B (-2147483648) (-1) z12041 := sf_ltL c12043 (sf_any z12041) sf_k0
                      have k12045 := lf_lt e12042 B12044 (by decide)
                      have k12046 := sf_lneB e12042 B12044 (by decide)
                      refine pm_R_lo pm_M92 (pc_q := 122) (pm_q92_1 (Nat.le_of_ble_eq_true rfl)) rfl rfl ?_
                      refine pm_R_ldc2 pm_M92 (pc_q := 125) (pm_q92_1 (Nat.le_of_ble_eq_true rfl)) rfl rfl ?_
                      refine sf_R_lcmp pm_M92 (pc_q := 126) (pm_q92_1 (Nat.le_of_ble_eq_true rfl)) rfl (fun z12047 e12048 => ?_)
                      refine pm_R_ifc pm_M92 (t := 133) (pc_q := 129) (pm_q92_1 (Nat.le_of_ble_eq_true rfl)) rfl rfl (fun c12049 => ?_) (fun c12049 => ?_)
                      · have k12050 := sf_lneC e12048 c12049
                        refine pm_R_op pm_M92 (pc_q := 134) (st_q := [.int 0]) (pm_q92_1 (Nat.le_of_ble_eq_true rfl)) rfl rfl ?_
                        refine pm_R_lo pm_M92 (pc_q := 136) (ls_q := [.ref 33, .int a0, .int a1, .int a2, .long a3, pm_no, .int 9, .long y7_11755, pm_no, .int x9_8826, .int x10_11755, .long z11814, pm_no, .long r12024, pm_no, .int 0, pm_no, pm_no]) (st_q := []) (pm_q92_1 (Nat.le_of_ble_eq_true rfl)) rfl rfl ?_
                        refine pm_R_lo pm_M92 (pc_q := 137) (pm_q92_1 (Nat.le_of_ble_eq_true rfl)) rfl rfl ?_
                        refine pm_R_lo pm_M92 (pc_q := 138) (pm_q92_1 (Nat.le_of_ble_eq_true rfl)) rfl rfl ?_
                        refine pm_R_get pm_M92 (pc_q := 141) (v := .ref lo) (pm_q92_1 (Nat.le_of_ble_eq_true rfl)) rfl T.e33 (by decide) (T.lt (by decide)) (by show some (va_rf (o 1)) = _; rw [ol]; rfl) rfl ?_
                        refine pm_R_get pm_M92 (pc_q := 144) (v := .ref (lo + 3)) (pm_q92_1 (Nat.le_of_ble_eq_true rfl)) rfl (T.im hkl (by decide) (by decide) eE11767) (G.ge hkl (by decide)) (T.al hkl (by decide)) rfl rfl ?_
                        refine pm_R_lo pm_M92 (pc_q := 146) (pm_q92_1 (Nat.le_of_ble_eq_true rfl)) rfl rfl ?_
                        refine pm_R_op pm_M92 (pc_q := 147) (st_q := [.int 4, .int x10_11755, .ref (lo + 3), .ref 33]) (pm_q92_1 (Nat.le_of_ble_eq_true rfl)) rfl rfl ?_
                        refine sf_R_imulV pm_M92 (pc_q := 148) (pm_q92_1 (Nat.le_of_ble_eq_true rfl)) rfl B11781 sf_k4 (by decide) (by decide) (by decide) e11802 ?_
                        refine pm_R_op pm_M92 (pc_q := 149) (st_q := [.int 1, .int z11801, .ref (lo + 3), .ref 33]) (pm_q92_1 (Nat.le_of_ble_eq_true rfl)) rfl rfl ?_
                        refine sf_R_iaddV pm_M92 (pc_q := 150) (pm_q92_1 (Nat.le_of_ble_eq_true rfl)) rfl B11803 sf_k1 (by decide) (by decide) e12012 ?_
                        have q12054 := cl_in4 (n := rc11756) (Nat.le_trans h11764 (by decide)) (Int32.not_le.mp c11777) (cl_aux7 _ _ _ e11802 e12012) B11781 (by decide) (by decide)
                        refine pm_R_iald pm_M92 (pc_q := 151) (v := z12014) (pm_q92_1 (Nat.le_of_ble_eq_true rfl)) (T.im kq11776.2.2.1 (by decide) (by decide) eE11770) (T.al kq11776.2.2.1 (by decide)) q12054.1 ez12015 rfl ?_
                        refine pm_R_lo pm_M92 (pc_q := 152) (pm_q92_1 (Nat.le_of_ble_eq_true rfl)) rfl rfl ?_
                        refine pm_R_lo pm_M92 (pc_q := 154) (pm_q92_1 (Nat.le_of_ble_eq_true rfl)) rfl rfl ?_
                        refine pm_R_lo pm_M92 (pc_q := 156) (pm_q92_1 (Nat.le_of_ble_eq_true rfl)) rfl rfl ?_
                        refine pm_R_br pm_M92 (pc_q := 163) (st_q := [.int x9_8826, .int a1, .int z12014, .ref 33]) (pm_q92_1 (Nat.le_of_ble_eq_true rfl)) rfl ?_
                        refine pm_R_lo pm_M92 (pc_q := 165) (pm_q92_1 (Nat.le_of_ble_eq_true rfl)) rfl rfl ?_
                        refine pm_R_lo pm_M92 (pc_q := 167) (pm_q92_1 (Nat.le_of_ble_eq_true rfl)) rfl rfl ?_
                        refine sf_R_ldivA pm_M92 (pc_q := 168) (pm_q92_1 (Nat.le_of_ble_eq_true rfl)) rfl k12040 (fun z12055 => ?_)
                        refine pm_R_lo pm_M92 (pc_q := 170) (pm_q92_1 (Nat.le_of_ble_eq_true rfl)) rfl rfl ?_
                        refine pm_R_op pm_M92 (pc_q := 171) (st_q := [.int 1, .int 9, .long z12055, .int x9_8826, .int a1, .int z12014, .ref 33]) (pm_q92_1 (Nat.le_of_ble_eq_true rfl)) rfl rfl ?_
                        refine pm_R_op pm_M92 (pc_q := 172) (st_q := [.int 10, .long z12055, .int x9_8826, .int a1, .int z12014, .ref 33]) (pm_q92_1 (Nat.le_of_ble_eq_true rfl)) rfl rfl ?_
                        refine pm_R_cv pm_M92 (pc_q := 175) (a := 33) (ra := [.int 10, .long z12055, .int x9_8826, .int a1, .int z12014]) (rest := []) (ls_q := [.ref 33, .int z12014, .int a1, .int x9_8826, .long z12055, pm_no, .int 10, pm_no, pm_no, pm_no, pm_no, pm_no, pm_no, pm_no, pm_no, pm_no, pm_no, pm_no]) (pm_q92_1 (Nat.le_of_ble_eq_true rfl)) rfl (Or.inl rfl) pm_M92 T.e33 rfl (by decide) (T.lt (by decide)) rfl rfl (Nat.le_of_ble_eq_true rfl) rfl rfl ?_
                        refine cl_c92_10 (d := d + 0) G T B12016 (sf_weak B19 (by decide) (by decide)) (sf_weak B8829 (by decide) (by decide)) ol orr eE5 P1 (Int32.lt_iff_toInt_lt.mpr (cl_aux14 _ _ _ (Int32.lt_iff_toInt_lt.mp (Int32.not_le.mp c8827)) (Int32.lt_iff_toInt_lt.mp P2))) (fun r12056 m12058 h12059 T12060 F12061 W12062 => ?_)
                        have F12063 := (cl_F.refl (ck := ck) (A := [33, 35]) (n := 0) (s := 0) T.1).trans (N := 0) (S := 0) F12061 (by decide) (by decide) (by decide)
                        have W12064 : rf_W [14, 15] m m12058 := (rf_W.refl [14, 15] m).trans W12062 (by decide)
                        show pm_R _ 92 175 [.ref 33, .int a0, .int a1, .int a2, .long a3, pm_no, .int 9, .long y7_11755, pm_no, .int x9_8826, .int x10_11755, .long z11814, pm_no, .long r12024, pm_no, .int 0, pm_no, pm_no] [.int r12056] _ _
                        refine pm_R_lo pm_M92 (pc_q := 177) (ls_q := [.ref 33, .int a0, .int a1, .int a2, .long a3, pm_no, .int 9, .long y7_11755, pm_no, .int x9_8826, .int x10_11755, .long z11814, pm_no, .long r12024, pm_no, .int 0, .int r12056, pm_no]) (st_q := []) (pm_q92_1 (Nat.le_of_ble_eq_true rfl)) rfl rfl ?_
                        refine pm_R_lo pm_M92 (pc_q := 178) (pm_q92_1 (Nat.le_of_ble_eq_true rfl)) rfl rfl ?_
                        refine pm_R_lo pm_M92 (pc_q := 179) (pm_q92_1 (Nat.le_of_ble_eq_true rfl)) rfl rfl ?_
                        refine pm_R_get pm_M92 (pc_q := 182) (v := .ref lo) (pm_q92_1 (Nat.le_of_ble_eq_true rfl)) rfl T12060.e33 (by decide) (T12060.lt (by decide)) (by show some (va_rf (o 1)) = _; rw [ol]; rfl) rfl ?_
                        refine pm_R_get pm_M92 (pc_q := 185) (v := .ref (lo + 3)) (pm_q92_1 (Nat.le_of_ble_eq_true rfl)) rfl (T12060.im hkl (by decide) (by decide) eE11767) (G.ge hkl (by decide)) (T12060.al hkl (by decide)) rfl rfl ?_
                        refine pm_R_lo pm_M92 (pc_q := 187) (pm_q92_1 (Nat.le_of_ble_eq_true rfl)) rfl rfl ?_
                        refine pm_R_op pm_M92 (pc_q := 188) (st_q := [.int 4, .int x10_11755, .ref (lo + 3), .ref 33]) (pm_q92_1 (Nat.le_of_ble_eq_true rfl)) rfl rfl ?_
                        refine sf_R_imulV pm_M92 (pc_q := 189) (pm_q92_1 (Nat.le_of_ble_eq_true rfl)) rfl B11781 sf_k4 (by decide) (by decide) (by decide) e11802 ?_
                        refine pm_R_op pm_M92 (pc_q := 190) (st_q := [.int 2, .int z11801, .ref (lo + 3), .ref 33]) (pm_q92_1 (Nat.le_of_ble_eq_true rfl)) rfl rfl ?_
                        refine sf_R_iaddV pm_M92 (pc_q := 191) (pm_q92_1 (Nat.le_of_ble_eq_true rfl)) rfl B11803 sf_k2 (by decide) (by decide) e11805 ?_
                        have q12068 := cl_in4 (n := rc11756) (Nat.le_trans h11764 (by decide)) (Int32.not_le.mp c11777) (cl_aux6 _ _ _ e11802 e11805) B11781 (by decide) (by decide)
                        refine pm_R_iald pm_M92 (pc_q := 192) (v := z11807) (pm_q92_1 (Nat.le_of_ble_eq_true rfl)) (T12060.im kq11776.2.2.1 (by decide) (by decide) eE11770) (T12060.al kq11776.2.2.1 (by decide)) q12068.1 ez11808 rfl ?_
                        refine pm_R_lo pm_M92 (pc_q := 194) (pm_q92_1 (Nat.le_of_ble_eq_true rfl)) rfl rfl ?_
                        refine pm_R_op pm_M92 (pc_q := 195) (st_q := [.int 1, .int x9_8826, .int z11807, .ref 33]) (pm_q92_1 (Nat.le_of_ble_eq_true rfl)) rfl rfl ?_
                        refine sf_R_iaddV pm_M92 (pc_q := 196) (pm_q92_1 (Nat.le_of_ble_eq_true rfl)) rfl B8829 sf_k1 (by decide) (by decide) e11784 ?_
                        refine pm_R_lo pm_M92 (pc_q := 197) (pm_q92_1 (Nat.le_of_ble_eq_true rfl)) rfl rfl ?_
                        refine pm_R_lo pm_M92 (pc_q := 199) (pm_q92_1 (Nat.le_of_ble_eq_true rfl)) rfl rfl ?_
                        refine pm_R_br pm_M92 (pc_q := 207) (st_q := [.int a2, .int z11783, .int z11807, .ref 33]) (pm_q92_1 (Nat.le_of_ble_eq_true rfl)) rfl ?_
                        refine pm_R_lo pm_M92 (pc_q := 209) (pm_q92_1 (Nat.le_of_ble_eq_true rfl)) rfl rfl ?_
                        refine pm_R_lo pm_M92 (pc_q := 211) (pm_q92_1 (Nat.le_of_ble_eq_true rfl)) rfl rfl ?_
                        refine sf_R_lremA pm_M92 (pc_q := 212) (pm_q92_1 (Nat.le_of_ble_eq_true rfl)) rfl k12040 (fun z12069 => ?_)
                        refine pm_R_lo pm_M92 (pc_q := 214) (pm_q92_1 (Nat.le_of_ble_eq_true rfl)) rfl rfl ?_
                        refine pm_R_op pm_M92 (pc_q := 215) (st_q := [.int 1, .int 9, .long z12069, .int a2, .int z11783, .int z11807, .ref 33]) (pm_q92_1 (Nat.le_of_ble_eq_true rfl)) rfl rfl ?_
                        refine pm_R_op pm_M92 (pc_q := 216) (st_q := [.int 10, .long z12069, .int a2, .int z11783, .int z11807, .ref 33]) (pm_q92_1 (Nat.le_of_ble_eq_true rfl)) rfl rfl ?_
                        refine pm_R_cv pm_M92 (pc_q := 219) (a := 33) (ra := [.int 10, .long z12069, .int a2, .int z11783, .int z11807]) (rest := []) (ls_q := [.ref 33, .int z11807, .int z11783, .int a2, .long z12069, pm_no, .int 10, pm_no, pm_no, pm_no, pm_no, pm_no, pm_no, pm_no, pm_no, pm_no, pm_no, pm_no]) (pm_q92_1 (Nat.le_of_ble_eq_true rfl)) rfl (Or.inl rfl) pm_M92 T12060.e33 rfl (by decide) (T12060.lt (by decide)) rfl rfl (Nat.le_of_ble_eq_true rfl) rfl rfl ?_
                        refine cl_c92_10 (d := d + 0) G T12060 B11809 (sf_weak B11785 (by decide) (by decide)) (sf_weak B20 (by decide) (by decide)) ol orr eE5 (Int32.lt_iff_toInt_lt.mpr (cl_aux15 _ _ _ _ e11784 (Int32.lt_iff_toInt_lt.mp (Int32.not_le.mp c8827)) (Int32.lt_iff_toInt_lt.mp P2))) P2 (fun r12070 m12072 h12073 T12074 F12075 W12076 => ?_)
                        have F12077 := F12063.trans (N := 0) (S := 0) F12075 (by decide) (by decide) (by decide)
                        have W12078 : rf_W [14, 15] m m12072 := W12064.trans W12076 (by decide)
                        show pm_R _ 92 219 [.ref 33, .int a0, .int a1, .int a2, .long a3, pm_no, .int 9, .long y7_11755, pm_no, .int x9_8826, .int x10_11755, .long z11814, pm_no, .long r12024, pm_no, .int 0, .int r12056, pm_no] [.int r12070] _ _
                        refine pm_R_lo pm_M92 (pc_q := 221) (ls_q := [.ref 33, .int a0, .int a1, .int a2, .long a3, pm_no, .int 9, .long y7_11755, pm_no, .int x9_8826, .int x10_11755, .long z11814, pm_no, .long r12024, pm_no, .int 0, .int r12056, .int r12070]) (st_q := []) (pm_q92_2 (Nat.le_of_ble_eq_true rfl)) rfl rfl ?_
                        refine pm_R_lo pm_M92 (pc_q := 222) (pm_q92_2 (Nat.le_of_ble_eq_true rfl)) rfl rfl ?_
                        refine pm_R_lo pm_M92 (pc_q := 224) (pm_q92_2 (Nat.le_of_ble_eq_true rfl)) rfl rfl ?_
                        refine cl_R_put33 G pm_M92 T12074 (k := 14) (pc_q := 227) (pm_q92_2 (Nat.le_of_ble_eq_true rfl)) rfl rfl (by decide) rfl rfl (sf_any _) rfl rfl rfl rfl rfl (fun h12079 m12082 em12083 T12080 F12081 => ?_)
                        have F12084 := F12081.cl (ck := ck) T12074.1
                        have F12085 := F12077.trans (N := 0) (S := 0) F12084 (by decide) (by decide) (by decide)
                        have B12086 : sf_B 0 9 (m12082 14) := by rw [em12083]; exact B11781
                        have ek12087 : (m12082 14).toInt = (x10_11755).toInt := by rw [em12083]; rfl
                        have W12088 : rf_W [14, 15] m m12082 := by rw [em12083]; exact W12078.put (by decide)
                        refine pm_R_lo pm_M92 (pc_q := 228) (pm_q92_2 (Nat.le_of_ble_eq_true rfl)) rfl rfl ?_
                        refine pm_R_lo pm_M92 (pc_q := 230) (pm_q92_2 (Nat.le_of_ble_eq_true rfl)) rfl rfl ?_
                        refine pm_R_op pm_M92 (pc_q := 231) (st_q := [.int 1, .int x9_8826, .ref 33]) (pm_q92_2 (Nat.le_of_ble_eq_true rfl)) rfl rfl ?_
                        refine sf_R_iaddV pm_M92 (pc_q := 232) (pm_q92_2 (Nat.le_of_ble_eq_true rfl)) rfl B8829 sf_k1 (by decide) (by decide) e11784 ?_
                        refine pm_R_lo pm_M92 (pc_q := 233) (pm_q92_2 (Nat.le_of_ble_eq_true rfl)) rfl rfl ?_
                        refine sf_R_isub pm_M92 (pc_q := 234) (pm_q92_2 (Nat.le_of_ble_eq_true rfl)) rfl B11785 B19 (by decide) (by decide) (fun z12089 e12090 B12091 => ?_)
                        refine cl_R_put33 G pm_M92 T12080 (k := 15) (pc_q := 237) (pm_q92_2 (Nat.le_of_ble_eq_true rfl)) rfl rfl (by decide) rfl rfl (sf_any _) rfl rfl rfl rfl rfl (fun h12092 m12095 em12096 T12093 F12094 => ?_)
                        have F12097 := F12094.cl (ck := ck) T12080.1
                        have F12098 := F12085.trans (N := 0) (S := 0) F12097 (by decide) (by decide) (by decide)
                        have B12099 : sf_B 0 9 (m12095 14) := by rw [em12096]; exact B12086
                        have ek12100 : (m12095 14).toInt = (x10_11755).toInt := by rw [em12096]; exact ek12087
                        have B12101 : sf_B (-9) 11 (m12095 15) := by rw [em12096]; exact B12091
                        have ek12102 : (m12095 15).toInt = (z12089).toInt := by rw [em12096]; rfl
                        have W12103 : rf_W [14, 15] m m12095 := by rw [em12096]; exact W12088.put (by decide)
                        refine pm_R_lo pm_M92 (pc_q := 238) (pm_q92_2 (Nat.le_of_ble_eq_true rfl)) rfl rfl ?_
                        refine pm_R_get pm_M92 (pc_q := 241) (v := .ref lo) (pm_q92_2 (Nat.le_of_ble_eq_true rfl)) rfl T12093.e33 (by decide) (T12093.lt (by decide)) (by show some (va_rf (o 1)) = _; rw [ol]; rfl) rfl ?_
                        refine pm_R_get pm_M92 (pc_q := 244) (v := .ref (lo + 3)) (pm_q92_2 (Nat.le_of_ble_eq_true rfl)) rfl (T12093.im hkl (by decide) (by decide) eE11767) (G.ge hkl (by decide)) (T12093.al hkl (by decide)) rfl rfl ?_
                        refine pm_R_lo pm_M92 (pc_q := 246) (pm_q92_2 (Nat.le_of_ble_eq_true rfl)) rfl rfl ?_
                        refine pm_R_op pm_M92 (pc_q := 247) (st_q := [.int 4, .int x10_11755, .ref (lo + 3)]) (pm_q92_2 (Nat.le_of_ble_eq_true rfl)) rfl rfl ?_
                        refine sf_R_imulV pm_M92 (pc_q := 248) (pm_q92_2 (Nat.le_of_ble_eq_true rfl)) rfl B11781 sf_k4 (by decide) (by decide) (by decide) e11802 ?_
                        refine pm_R_op pm_M92 (pc_q := 249) (st_q := [.int 3, .int z11801, .ref (lo + 3)]) (pm_q92_2 (Nat.le_of_ble_eq_true rfl)) rfl rfl ?_
                        refine sf_R_iadd pm_M92 (pc_q := 250) (pm_q92_2 (Nat.le_of_ble_eq_true rfl)) rfl B11803 sf_k3 (by decide) (by decide) (fun z12104 e12105 B12106 => ?_)
                        have q12110 := cl_in4 (n := rc11756) (Nat.le_trans h11764 (by decide)) (Int32.not_le.mp c11777) (cl_aux9 _ _ _ e11802 e12105) B11781 (by decide) (by decide)
                        obtain ⟨z12107, ez12108⟩ : ∃ y, fr11761 (Int32.toNatClampNeg z12104) = y := ⟨_, rfl⟩
                        refine pm_R_iald pm_M92 (pc_q := 251) (v := z12107) (pm_q92_2 (Nat.le_of_ble_eq_true rfl)) (T12093.im kq11776.2.2.1 (by decide) (by decide) eE11770) (T12093.al kq11776.2.2.1 (by decide)) q12110.1 ez12108 rfl ?_
                        refine pm_R_lo pm_M92 (pc_q := 253) (pm_q92_2 (Nat.le_of_ble_eq_true rfl)) rfl rfl ?_
                        refine pm_R_lo pm_M92 (pc_q := 255) (pm_q92_2 (Nat.le_of_ble_eq_true rfl)) rfl rfl ?_
                        refine pm_R_cs pm_M92 (pc_q := 258) (ra := [.int r12070, .int r12056, .int z12107]) (rest := []) (ls_q := [.int z12107, .int r12056, .int r12070]) (pm_q92_2 (Nat.le_of_ble_eq_true rfl)) rfl (Or.inr rfl) pm_M88 rfl rfl (Nat.le_of_ble_eq_true rfl) rfl rfl ?_
                        refine cl_c88_u (d := d + 5)  (fun r12111 => ?_)
                        show pm_R _ 92 258 [.ref 33, .int a0, .int a1, .int a2, .long a3, pm_no, .int 9, .long y7_11755, pm_no, .int x9_8826, .int x10_11755, .long z11814, pm_no, .long r12024, pm_no, .int 0, .int r12056, .int r12070] [.int r12111] _ _
                        exact pm_R_ret pm_M92 (r := some (.int r12111)) (pm_q92_2 (Nat.le_of_ble_eq_true rfl)) (pm_ret_i _) (K r12111 m12095 h12092 T12093 F12098 W12103)
                      · have B12118 : sf_B 0 0 z12047 := sf_eqL (Classical.not_not.mp c12049) sf_k0
                        have B12119 : lf_B (-1) (-1) z11814 := lf_eqB e12048 B12118 (⟨by decide, by decide⟩ : lf_B (-1) (-1) (-1))
                        refine pm_R_op pm_M92 (pc_q := 130) (st_q := [.int 1]) (pm_q92_1 (Nat.le_of_ble_eq_true rfl)) rfl rfl ?_
                        refine pm_R_br pm_M92 (pc_q := 134) (pm_q92_1 (Nat.le_of_ble_eq_true rfl)) rfl ?_
                        refine pm_R_lo pm_M92 (pc_q := 136) (ls_q := [.ref 33, .int a0, .int a1, .int a2, .long a3, pm_no, .int 9, .long y7_11755, pm_no, .int x9_8826, .int x10_11755, .long z11814, pm_no, .long r12024, pm_no, .int 1, pm_no, pm_no]) (st_q := []) (pm_q92_1 (Nat.le_of_ble_eq_true rfl)) rfl rfl ?_
                        refine pm_R_lo pm_M92 (pc_q := 137) (pm_q92_1 (Nat.le_of_ble_eq_true rfl)) rfl rfl ?_
                        refine pm_R_lo pm_M92 (pc_q := 138) (pm_q92_1 (Nat.le_of_ble_eq_true rfl)) rfl rfl ?_
                        refine pm_R_get pm_M92 (pc_q := 141) (v := .ref lo) (pm_q92_1 (Nat.le_of_ble_eq_true rfl)) rfl T.e33 (by decide) (T.lt (by decide)) (by show some (va_rf (o 1)) = _; rw [ol]; rfl) rfl ?_
                        refine pm_R_get pm_M92 (pc_q := 144) (v := .ref (lo + 3)) (pm_q92_1 (Nat.le_of_ble_eq_true rfl)) rfl (T.im hkl (by decide) (by decide) eE11767) (G.ge hkl (by decide)) (T.al hkl (by decide)) rfl rfl ?_
                        refine pm_R_lo pm_M92 (pc_q := 146) (pm_q92_1 (Nat.le_of_ble_eq_true rfl)) rfl rfl ?_
                        refine pm_R_op pm_M92 (pc_q := 147) (st_q := [.int 4, .int x10_11755, .ref (lo + 3), .ref 33]) (pm_q92_1 (Nat.le_of_ble_eq_true rfl)) rfl rfl ?_
                        refine sf_R_imulV pm_M92 (pc_q := 148) (pm_q92_1 (Nat.le_of_ble_eq_true rfl)) rfl B11781 sf_k4 (by decide) (by decide) (by decide) e11802 ?_
                        refine pm_R_op pm_M92 (pc_q := 149) (st_q := [.int 1, .int z11801, .ref (lo + 3), .ref 33]) (pm_q92_1 (Nat.le_of_ble_eq_true rfl)) rfl rfl ?_
                        refine sf_R_iaddV pm_M92 (pc_q := 150) (pm_q92_1 (Nat.le_of_ble_eq_true rfl)) rfl B11803 sf_k1 (by decide) (by decide) e12012 ?_
                        have q12123 := cl_in4 (n := rc11756) (Nat.le_trans h11764 (by decide)) (Int32.not_le.mp c11777) (cl_aux7 _ _ _ e11802 e12012) B11781 (by decide) (by decide)
                        refine pm_R_iald pm_M92 (pc_q := 151) (v := z12014) (pm_q92_1 (Nat.le_of_ble_eq_true rfl)) (T.im kq11776.2.2.1 (by decide) (by decide) eE11770) (T.al kq11776.2.2.1 (by decide)) q12123.1 ez12015 rfl ?_
                        refine pm_R_lo pm_M92 (pc_q := 152) (pm_q92_1 (Nat.le_of_ble_eq_true rfl)) rfl rfl ?_
                        refine pm_R_lo pm_M92 (pc_q := 154) (pm_q92_1 (Nat.le_of_ble_eq_true rfl)) rfl rfl ?_
                        refine pm_R_lo pm_M92 (pc_q := 156) (pm_q92_1 (Nat.le_of_ble_eq_true rfl)) rfl rfl ?_
                        refine pm_R_br pm_M92 (pc_q := 159) (st_q := [.int x9_8826, .int a1, .int z12014, .ref 33]) (pm_q92_1 (Nat.le_of_ble_eq_true rfl)) rfl ?_
                        refine pm_R_op pm_M92 (pc_q := 160) (st_q := [.long 0, .int x9_8826, .int a1, .int z12014, .ref 33]) (pm_q92_1 (Nat.le_of_ble_eq_true rfl)) rfl rfl ?_
                        refine pm_R_br pm_M92 (pc_q := 168) (pm_q92_1 (Nat.le_of_ble_eq_true rfl)) rfl ?_
                        refine pm_R_lo pm_M92 (pc_q := 170) (pm_q92_1 (Nat.le_of_ble_eq_true rfl)) rfl rfl ?_
                        refine pm_R_op pm_M92 (pc_q := 171) (st_q := [.int 1, .int 9, .long 0, .int x9_8826, .int a1, .int z12014, .ref 33]) (pm_q92_1 (Nat.le_of_ble_eq_true rfl)) rfl rfl ?_
                        refine pm_R_op pm_M92 (pc_q := 172) (st_q := [.int 10, .long 0, .int x9_8826, .int a1, .int z12014, .ref 33]) (pm_q92_1 (Nat.le_of_ble_eq_true rfl)) rfl rfl ?_
                        refine pm_R_cv pm_M92 (pc_q := 175) (a := 33) (ra := [.int 10, .long 0, .int x9_8826, .int a1, .int z12014]) (rest := []) (ls_q := [.ref 33, .int z12014, .int a1, .int x9_8826, .long 0, pm_no, .int 10, pm_no, pm_no, pm_no, pm_no, pm_no, pm_no, pm_no, pm_no, pm_no, pm_no, pm_no]) (pm_q92_1 (Nat.le_of_ble_eq_true rfl)) rfl (Or.inl rfl) pm_M92 T.e33 rfl (by decide) (T.lt (by decide)) rfl rfl (Nat.le_of_ble_eq_true rfl) rfl rfl ?_
                        refine cl_c92_10 (d := d + 0) G T B12016 (sf_weak B19 (by decide) (by decide)) (sf_weak B8829 (by decide) (by decide)) ol orr eE5 P1 (Int32.lt_iff_toInt_lt.mpr (cl_aux14 _ _ _ (Int32.lt_iff_toInt_lt.mp (Int32.not_le.mp c8827)) (Int32.lt_iff_toInt_lt.mp P2))) (fun r12124 m12126 h12127 T12128 F12129 W12130 => ?_)
                        have F12131 := (cl_F.refl (ck := ck) (A := [33, 35]) (n := 0) (s := 0) T.1).trans (N := 0) (S := 0) F12129 (by decide) (by decide) (by decide)
                        have W12132 : rf_W [14, 15] m m12126 := (rf_W.refl [14, 15] m).trans W12130 (by decide)
                        show pm_R _ 92 175 [.ref 33, .int a0, .int a1, .int a2, .long a3, pm_no, .int 9, .long y7_11755, pm_no, .int x9_8826, .int x10_11755, .long z11814, pm_no, .long r12024, pm_no, .int 1, pm_no, pm_no] [.int r12124] _ _
                        refine pm_R_lo pm_M92 (pc_q := 177) (ls_q := [.ref 33, .int a0, .int a1, .int a2, .long a3, pm_no, .int 9, .long y7_11755, pm_no, .int x9_8826, .int x10_11755, .long z11814, pm_no, .long r12024, pm_no, .int 1, .int r12124, pm_no]) (st_q := []) (pm_q92_1 (Nat.le_of_ble_eq_true rfl)) rfl rfl ?_
                        refine pm_R_lo pm_M92 (pc_q := 178) (pm_q92_1 (Nat.le_of_ble_eq_true rfl)) rfl rfl ?_
                        refine pm_R_lo pm_M92 (pc_q := 179) (pm_q92_1 (Nat.le_of_ble_eq_true rfl)) rfl rfl ?_
                        refine pm_R_get pm_M92 (pc_q := 182) (v := .ref lo) (pm_q92_1 (Nat.le_of_ble_eq_true rfl)) rfl T12128.e33 (by decide) (T12128.lt (by decide)) (by show some (va_rf (o 1)) = _; rw [ol]; rfl) rfl ?_
                        refine pm_R_get pm_M92 (pc_q := 185) (v := .ref (lo + 3)) (pm_q92_1 (Nat.le_of_ble_eq_true rfl)) rfl (T12128.im hkl (by decide) (by decide) eE11767) (G.ge hkl (by decide)) (T12128.al hkl (by decide)) rfl rfl ?_
                        refine pm_R_lo pm_M92 (pc_q := 187) (pm_q92_1 (Nat.le_of_ble_eq_true rfl)) rfl rfl ?_
                        refine pm_R_op pm_M92 (pc_q := 188) (st_q := [.int 4, .int x10_11755, .ref (lo + 3), .ref 33]) (pm_q92_1 (Nat.le_of_ble_eq_true rfl)) rfl rfl ?_
                        refine sf_R_imulV pm_M92 (pc_q := 189) (pm_q92_1 (Nat.le_of_ble_eq_true rfl)) rfl B11781 sf_k4 (by decide) (by decide) (by decide) e11802 ?_
                        refine pm_R_op pm_M92 (pc_q := 190) (st_q := [.int 2, .int z11801, .ref (lo + 3), .ref 33]) (pm_q92_1 (Nat.le_of_ble_eq_true rfl)) rfl rfl ?_
                        refine sf_R_iaddV pm_M92 (pc_q := 191) (pm_q92_1 (Nat.le_of_ble_eq_true rfl)) rfl B11803 sf_k2 (by decide) (by decide) e11805 ?_
                        have q12136 := cl_in4 (n := rc11756) (Nat.le_trans h11764 (by decide)) (Int32.not_le.mp c11777) (cl_aux6 _ _ _ e11802 e11805) B11781 (by decide) (by decide)
                        refine pm_R_iald pm_M92 (pc_q := 192) (v := z11807) (pm_q92_1 (Nat.le_of_ble_eq_true rfl)) (T12128.im kq11776.2.2.1 (by decide) (by decide) eE11770) (T12128.al kq11776.2.2.1 (by decide)) q12136.1 ez11808 rfl ?_
                        refine pm_R_lo pm_M92 (pc_q := 194) (pm_q92_1 (Nat.le_of_ble_eq_true rfl)) rfl rfl ?_
                        refine pm_R_op pm_M92 (pc_q := 195) (st_q := [.int 1, .int x9_8826, .int z11807, .ref 33]) (pm_q92_1 (Nat.le_of_ble_eq_true rfl)) rfl rfl ?_
                        refine sf_R_iaddV pm_M92 (pc_q := 196) (pm_q92_1 (Nat.le_of_ble_eq_true rfl)) rfl B8829 sf_k1 (by decide) (by decide) e11784 ?_
                        refine pm_R_lo pm_M92 (pc_q := 197) (pm_q92_1 (Nat.le_of_ble_eq_true rfl)) rfl rfl ?_
                        refine pm_R_lo pm_M92 (pc_q := 199) (pm_q92_1 (Nat.le_of_ble_eq_true rfl)) rfl rfl ?_
                        refine pm_R_br pm_M92 (pc_q := 202) (st_q := [.int a2, .int z11783, .int z11807, .ref 33]) (pm_q92_1 (Nat.le_of_ble_eq_true rfl)) rfl ?_
                        refine pm_R_lo pm_M92 (pc_q := 204) (pm_q92_1 (Nat.le_of_ble_eq_true rfl)) rfl rfl ?_
                        refine pm_R_br pm_M92 (pc_q := 212) (pm_q92_1 (Nat.le_of_ble_eq_true rfl)) rfl ?_
                        refine pm_R_lo pm_M92 (pc_q := 214) (pm_q92_1 (Nat.le_of_ble_eq_true rfl)) rfl rfl ?_
                        refine pm_R_op pm_M92 (pc_q := 215) (st_q := [.int 1, .int 9, .long y7_11755, .int a2, .int z11783, .int z11807, .ref 33]) (pm_q92_1 (Nat.le_of_ble_eq_true rfl)) rfl rfl ?_
                        refine pm_R_op pm_M92 (pc_q := 216) (st_q := [.int 10, .long y7_11755, .int a2, .int z11783, .int z11807, .ref 33]) (pm_q92_1 (Nat.le_of_ble_eq_true rfl)) rfl rfl ?_
                        refine pm_R_cv pm_M92 (pc_q := 219) (a := 33) (ra := [.int 10, .long y7_11755, .int a2, .int z11783, .int z11807]) (rest := []) (ls_q := [.ref 33, .int z11807, .int z11783, .int a2, .long y7_11755, pm_no, .int 10, pm_no, pm_no, pm_no, pm_no, pm_no, pm_no, pm_no, pm_no, pm_no, pm_no, pm_no]) (pm_q92_1 (Nat.le_of_ble_eq_true rfl)) rfl (Or.inl rfl) pm_M92 T12128.e33 rfl (by decide) (T12128.lt (by decide)) rfl rfl (Nat.le_of_ble_eq_true rfl) rfl rfl ?_
                        refine cl_c92_10 (d := d + 0) G T12128 B11809 (sf_weak B11785 (by decide) (by decide)) (sf_weak B20 (by decide) (by decide)) ol orr eE5 (Int32.lt_iff_toInt_lt.mpr (cl_aux15 _ _ _ _ e11784 (Int32.lt_iff_toInt_lt.mp (Int32.not_le.mp c8827)) (Int32.lt_iff_toInt_lt.mp P2))) P2 (fun r12137 m12139 h12140 T12141 F12142 W12143 => ?_)
                        have F12144 := F12131.trans (N := 0) (S := 0) F12142 (by decide) (by decide) (by decide)
                        have W12145 : rf_W [14, 15] m m12139 := W12132.trans W12143 (by decide)
                        show pm_R _ 92 219 [.ref 33, .int a0, .int a1, .int a2, .long a3, pm_no, .int 9, .long y7_11755, pm_no, .int x9_8826, .int x10_11755, .long z11814, pm_no, .long r12024, pm_no, .int 1, .int r12124, pm_no] [.int r12137] _ _
                        refine pm_R_lo pm_M92 (pc_q := 221) (ls_q := [.ref 33, .int a0, .int a1, .int a2, .long a3, pm_no, .int 9, .long y7_11755, pm_no, .int x9_8826, .int x10_11755, .long z11814, pm_no, .long r12024, pm_no, .int 1, .int r12124, .int r12137]) (st_q := []) (pm_q92_2 (Nat.le_of_ble_eq_true rfl)) rfl rfl ?_
                        refine pm_R_lo pm_M92 (pc_q := 222) (pm_q92_2 (Nat.le_of_ble_eq_true rfl)) rfl rfl ?_
                        refine pm_R_lo pm_M92 (pc_q := 224) (pm_q92_2 (Nat.le_of_ble_eq_true rfl)) rfl rfl ?_
                        refine cl_R_put33 G pm_M92 T12141 (k := 14) (pc_q := 227) (pm_q92_2 (Nat.le_of_ble_eq_true rfl)) rfl rfl (by decide) rfl rfl (sf_any _) rfl rfl rfl rfl rfl (fun h12146 m12149 em12150 T12147 F12148 => ?_)
                        have F12151 := F12148.cl (ck := ck) T12141.1
                        have F12152 := F12144.trans (N := 0) (S := 0) F12151 (by decide) (by decide) (by decide)
                        have B12153 : sf_B 0 9 (m12149 14) := by rw [em12150]; exact B11781
                        have ek12154 : (m12149 14).toInt = (x10_11755).toInt := by rw [em12150]; rfl
                        have W12155 : rf_W [14, 15] m m12149 := by rw [em12150]; exact W12145.put (by decide)
                        refine pm_R_lo pm_M92 (pc_q := 228) (pm_q92_2 (Nat.le_of_ble_eq_true rfl)) rfl rfl ?_
                        refine pm_R_lo pm_M92 (pc_q := 230) (pm_q92_2 (Nat.le_of_ble_eq_true rfl)) rfl rfl ?_
                        refine pm_R_op pm_M92 (pc_q := 231) (st_q := [.int 1, .int x9_8826, .ref 33]) (pm_q92_2 (Nat.le_of_ble_eq_true rfl)) rfl rfl ?_
                        refine sf_R_iaddV pm_M92 (pc_q := 232) (pm_q92_2 (Nat.le_of_ble_eq_true rfl)) rfl B8829 sf_k1 (by decide) (by decide) e11784 ?_
                        refine pm_R_lo pm_M92 (pc_q := 233) (pm_q92_2 (Nat.le_of_ble_eq_true rfl)) rfl rfl ?_
                        refine sf_R_isub pm_M92 (pc_q := 234) (pm_q92_2 (Nat.le_of_ble_eq_true rfl)) rfl B11785 B19 (by decide) (by decide) (fun z12156 e12157 B12158 => ?_)
                        refine cl_R_put33 G pm_M92 T12147 (k := 15) (pc_q := 237) (pm_q92_2 (Nat.le_of_ble_eq_true rfl)) rfl rfl (by decide) rfl rfl (sf_any _) rfl rfl rfl rfl rfl (fun h12159 m12162 em12163 T12160 F12161 => ?_)
                        have F12164 := F12161.cl (ck := ck) T12147.1
                        have F12165 := F12152.trans (N := 0) (S := 0) F12164 (by decide) (by decide) (by decide)
                        have B12166 : sf_B 0 9 (m12162 14) := by rw [em12163]; exact B12153
                        have ek12167 : (m12162 14).toInt = (x10_11755).toInt := by rw [em12163]; exact ek12154
                        have B12168 : sf_B (-9) 11 (m12162 15) := by rw [em12163]; exact B12158
                        have ek12169 : (m12162 15).toInt = (z12156).toInt := by rw [em12163]; rfl
                        have W12170 : rf_W [14, 15] m m12162 := by rw [em12163]; exact W12155.put (by decide)
                        refine pm_R_lo pm_M92 (pc_q := 238) (pm_q92_2 (Nat.le_of_ble_eq_true rfl)) rfl rfl ?_
                        refine pm_R_get pm_M92 (pc_q := 241) (v := .ref lo) (pm_q92_2 (Nat.le_of_ble_eq_true rfl)) rfl T12160.e33 (by decide) (T12160.lt (by decide)) (by show some (va_rf (o 1)) = _; rw [ol]; rfl) rfl ?_
                        refine pm_R_get pm_M92 (pc_q := 244) (v := .ref (lo + 3)) (pm_q92_2 (Nat.le_of_ble_eq_true rfl)) rfl (T12160.im hkl (by decide) (by decide) eE11767) (G.ge hkl (by decide)) (T12160.al hkl (by decide)) rfl rfl ?_
                        refine pm_R_lo pm_M92 (pc_q := 246) (pm_q92_2 (Nat.le_of_ble_eq_true rfl)) rfl rfl ?_
                        refine pm_R_op pm_M92 (pc_q := 247) (st_q := [.int 4, .int x10_11755, .ref (lo + 3)]) (pm_q92_2 (Nat.le_of_ble_eq_true rfl)) rfl rfl ?_
                        refine sf_R_imulV pm_M92 (pc_q := 248) (pm_q92_2 (Nat.le_of_ble_eq_true rfl)) rfl B11781 sf_k4 (by decide) (by decide) (by decide) e11802 ?_
                        refine pm_R_op pm_M92 (pc_q := 249) (st_q := [.int 3, .int z11801, .ref (lo + 3)]) (pm_q92_2 (Nat.le_of_ble_eq_true rfl)) rfl rfl ?_
                        refine sf_R_iadd pm_M92 (pc_q := 250) (pm_q92_2 (Nat.le_of_ble_eq_true rfl)) rfl B11803 sf_k3 (by decide) (by decide) (fun z12171 e12172 B12173 => ?_)
                        have q12177 := cl_in4 (n := rc11756) (Nat.le_trans h11764 (by decide)) (Int32.not_le.mp c11777) (cl_aux9 _ _ _ e11802 e12172) B11781 (by decide) (by decide)
                        obtain ⟨z12174, ez12175⟩ : ∃ y, fr11761 (Int32.toNatClampNeg z12171) = y := ⟨_, rfl⟩
                        refine pm_R_iald pm_M92 (pc_q := 251) (v := z12174) (pm_q92_2 (Nat.le_of_ble_eq_true rfl)) (T12160.im kq11776.2.2.1 (by decide) (by decide) eE11770) (T12160.al kq11776.2.2.1 (by decide)) q12177.1 ez12175 rfl ?_
                        refine pm_R_lo pm_M92 (pc_q := 253) (pm_q92_2 (Nat.le_of_ble_eq_true rfl)) rfl rfl ?_
                        refine pm_R_lo pm_M92 (pc_q := 255) (pm_q92_2 (Nat.le_of_ble_eq_true rfl)) rfl rfl ?_
                        refine pm_R_cs pm_M92 (pc_q := 258) (ra := [.int r12137, .int r12124, .int z12174]) (rest := []) (ls_q := [.int z12174, .int r12124, .int r12137]) (pm_q92_2 (Nat.le_of_ble_eq_true rfl)) rfl (Or.inr rfl) pm_M88 rfl rfl (Nat.le_of_ble_eq_true rfl) rfl rfl ?_
                        refine cl_c88_u (d := d + 5)  (fun r12178 => ?_)
                        show pm_R _ 92 258 [.ref 33, .int a0, .int a1, .int a2, .long a3, pm_no, .int 9, .long y7_11755, pm_no, .int x9_8826, .int x10_11755, .long z11814, pm_no, .long r12024, pm_no, .int 1, .int r12124, .int r12137] [.int r12178] _ _
                        exact pm_R_ret pm_M92 (r := some (.int r12178)) (pm_q92_2 (Nat.le_of_ble_eq_true rfl)) (pm_ret_i _) (K r12178 m12162 h12159 T12160 F12165 W12170)
                    · have B12185 : sf_B 0 2147483647 z12041 := sf_leR (Int32.not_lt.mp c12043) sf_k0 (sf_any z12041)
                      have k12186 := lf_ge e12042 B12185 (by decide)
                      refine pm_R_lo pm_M92 (pc_q := 113) rfl rfl rfl ?_
                      refine pm_R_ldc2 pm_M92 (pc_q := 116) (pm_q92_1 (Nat.le_of_ble_eq_true rfl)) rfl rfl ?_
                      refine sf_R_lcmp pm_M92 (pc_q := 117) (pm_q92_1 (Nat.le_of_ble_eq_true rfl)) rfl (fun z12187 e12188 => ?_)
                      refine pm_R_ifc pm_M92 (t := 259) (pc_q := 120) (pm_q92_1 (Nat.le_of_ble_eq_true rfl)) rfl rfl (fun c12189 => ?_) (fun c12189 => ?_)
                      · have k12190 := sf_lneC e12188 c12189
                        refine pm_R_lo pm_M92 (pc_q := 261) (pm_q92_2 (Nat.le_of_ble_eq_true rfl)) rfl rfl ?_
                        refine pm_R_lo pm_M92 (pc_q := 263) (pm_q92_2 (Nat.le_of_ble_eq_true rfl)) rfl rfl ?_
                        refine sf_R_lany pm_M92 (pc_q := 264) (st := []) (pm_q92_2 (Nat.le_of_ble_eq_true rfl)) rfl rfl (fun z12191 => ?_)
                        refine pm_R_lo pm_M92 (pc_q := 266) (ls_q := [.ref 33, .int a0, .int a1, .int a2, .long a3, pm_no, .int 9, .long z12191, pm_no, .int x9_8826, .int x10_11755, .long z11814, pm_no, .long r12024, pm_no, pm_no, pm_no, pm_no]) (st_q := []) (pm_q92_2 (Nat.le_of_ble_eq_true rfl)) rfl rfl ?_
                        refine sf_R_iinc pm_M92 (pc_q := 269) (ls_q := fun z => [.ref 33, .int a0, .int a1, .int a2, .long a3, pm_no, .int 9, .long z12191, pm_no, .int x9_8826, .int z, .long z11814, pm_no, .long r12024, pm_no, pm_no, pm_no, pm_no]) (pm_q92_2 (Nat.le_of_ble_eq_true rfl)) B11781 rfl (by decide) (by decide) (by decide) (fun _ => rfl) rfl (fun z12192 e12193 B12194 => ?_)
                        show pm_R _ 92 269 [.ref 33, .int a0, .int a1, .int a2, .long a3, pm_no, .int 9, .long z12191, pm_no, .int x9_8826, .int z12192, .long z11814, pm_no, .long r12024, pm_no, pm_no, pm_no, pm_no] [] _ _
                        refine pm_R_br pm_M92 (pc_q := 37) (pm_q92_2 (Nat.le_of_ble_eq_true rfl)) rfl ?_
                        exact ih_11755 _ (sf_up hN_11755 e12193 B11781 (by decide) (by decide)) z12192 z12191 (.long z11814) (pm_no) (.long r12024) (pm_no) (sf_weak B12194 (by decide) (by decide)) rfl rfl rfl
                      · have B12195 : sf_B 0 0 z12187 := sf_eqL (Classical.not_not.mp c12189) sf_k0
                        have B12196 : lf_B (-1) (-1) r12024 := lf_eqB e12188 B12195 (⟨by decide, by decide⟩ : lf_B (-1) (-1) (-1))
                        refine pm_R_lo pm_M92 (pc_q := 122) (pm_q92_1 (Nat.le_of_ble_eq_true rfl)) rfl rfl ?_
                        refine pm_R_ldc2 pm_M92 (pc_q := 125) (pm_q92_1 (Nat.le_of_ble_eq_true rfl)) rfl rfl ?_
                        refine sf_R_lcmp pm_M92 (pc_q := 126) (pm_q92_1 (Nat.le_of_ble_eq_true rfl)) rfl (fun z12197 e12198 => ?_)
                        refine pm_R_ifc pm_M92 (t := 133) (pc_q := 129) (pm_q92_1 (Nat.le_of_ble_eq_true rfl)) rfl rfl (fun c12199 => ?_) (fun c12199 => ?_)
                        · have k12200 := sf_lneC e12198 c12199
                          refine pm_R_op pm_M92 (pc_q := 134) (st_q := [.int 0]) (pm_q92_1 (Nat.le_of_ble_eq_true rfl)) rfl rfl ?_
                          refine pm_R_lo pm_M92 (pc_q := 136) (ls_q := [.ref 33, .int a0, .int a1, .int a2, .long a3, pm_no, .int 9, .long y7_11755, pm_no, .int x9_8826, .int x10_11755, .long z11814, pm_no, .long r12024, pm_no, .int 0, pm_no, pm_no]) (st_q := []) (pm_q92_1 (Nat.le_of_ble_eq_true rfl)) rfl rfl ?_
                          refine pm_R_lo pm_M92 (pc_q := 137) (pm_q92_1 (Nat.le_of_ble_eq_true rfl)) rfl rfl ?_
                          refine pm_R_lo pm_M92 (pc_q := 138) (pm_q92_1 (Nat.le_of_ble_eq_true rfl)) rfl rfl ?_
                          refine pm_R_get pm_M92 (pc_q := 141) (v := .ref lo) (pm_q92_1 (Nat.le_of_ble_eq_true rfl)) rfl T.e33 (by decide) (T.lt (by decide)) (by show some (va_rf (o 1)) = _; rw [ol]; rfl) rfl ?_
                          refine pm_R_get pm_M92 (pc_q := 144) (v := .ref (lo + 3)) (pm_q92_1 (Nat.le_of_ble_eq_true rfl)) rfl (T.im hkl (by decide) (by decide) eE11767) (G.ge hkl (by decide)) (T.al hkl (by decide)) rfl rfl ?_
                          refine pm_R_lo pm_M92 (pc_q := 146) (pm_q92_1 (Nat.le_of_ble_eq_true rfl)) rfl rfl ?_
                          refine pm_R_op pm_M92 (pc_q := 147) (st_q := [.int 4, .int x10_11755, .ref (lo + 3), .ref 33]) (pm_q92_1 (Nat.le_of_ble_eq_true rfl)) rfl rfl ?_
                          refine sf_R_imulV pm_M92 (pc_q := 148) (pm_q92_1 (Nat.le_of_ble_eq_true rfl)) rfl B11781 sf_k4 (by decide) (by decide) (by decide) e11802 ?_
                          refine pm_R_op pm_M92 (pc_q := 149) (st_q := [.int 1, .int z11801, .ref (lo + 3), .ref 33]) (pm_q92_1 (Nat.le_of_ble_eq_true rfl)) rfl rfl ?_
                          refine sf_R_iaddV pm_M92 (pc_q := 150) (pm_q92_1 (Nat.le_of_ble_eq_true rfl)) rfl B11803 sf_k1 (by decide) (by decide) e12012 ?_
                          have q12204 := cl_in4 (n := rc11756) (Nat.le_trans h11764 (by decide)) (Int32.not_le.mp c11777) (cl_aux7 _ _ _ e11802 e12012) B11781 (by decide) (by decide)
                          refine pm_R_iald pm_M92 (pc_q := 151) (v := z12014) (pm_q92_1 (Nat.le_of_ble_eq_true rfl)) (T.im kq11776.2.2.1 (by decide) (by decide) eE11770) (T.al kq11776.2.2.1 (by decide)) q12204.1 ez12015 rfl ?_
                          refine pm_R_lo pm_M92 (pc_q := 152) (pm_q92_1 (Nat.le_of_ble_eq_true rfl)) rfl rfl ?_
                          refine pm_R_lo pm_M92 (pc_q := 154) (pm_q92_1 (Nat.le_of_ble_eq_true rfl)) rfl rfl ?_
                          refine pm_R_lo pm_M92 (pc_q := 156) (pm_q92_1 (Nat.le_of_ble_eq_true rfl)) rfl rfl ?_
                          refine pm_R_br pm_M92 (pc_q := 163) (st_q := [.int x9_8826, .int a1, .int z12014, .ref 33]) (pm_q92_1 (Nat.le_of_ble_eq_true rfl)) rfl ?_
                          refine pm_R_lo pm_M92 (pc_q := 165) (pm_q92_1 (Nat.le_of_ble_eq_true rfl)) rfl rfl ?_
                          refine pm_R_lo pm_M92 (pc_q := 167) (pm_q92_1 (Nat.le_of_ble_eq_true rfl)) rfl rfl ?_
                          refine sf_R_ldivA pm_M92 (pc_q := 168) (pm_q92_1 (Nat.le_of_ble_eq_true rfl)) rfl k12040 (fun z12205 => ?_)
                          refine pm_R_lo pm_M92 (pc_q := 170) (pm_q92_1 (Nat.le_of_ble_eq_true rfl)) rfl rfl ?_
                          refine pm_R_op pm_M92 (pc_q := 171) (st_q := [.int 1, .int 9, .long z12205, .int x9_8826, .int a1, .int z12014, .ref 33]) (pm_q92_1 (Nat.le_of_ble_eq_true rfl)) rfl rfl ?_
                          refine pm_R_op pm_M92 (pc_q := 172) (st_q := [.int 10, .long z12205, .int x9_8826, .int a1, .int z12014, .ref 33]) (pm_q92_1 (Nat.le_of_ble_eq_true rfl)) rfl rfl ?_
                          refine pm_R_cv pm_M92 (pc_q := 175) (a := 33) (ra := [.int 10, .long z12205, .int x9_8826, .int a1, .int z12014]) (rest := []) (ls_q := [.ref 33, .int z12014, .int a1, .int x9_8826, .long z12205, pm_no, .int 10, pm_no, pm_no, pm_no, pm_no, pm_no, pm_no, pm_no, pm_no, pm_no, pm_no, pm_no]) (pm_q92_1 (Nat.le_of_ble_eq_true rfl)) rfl (Or.inl rfl) pm_M92 T.e33 rfl (by decide) (T.lt (by decide)) rfl rfl (Nat.le_of_ble_eq_true rfl) rfl rfl ?_
                          refine cl_c92_10 (d := d + 0) G T B12016 (sf_weak B19 (by decide) (by decide)) (sf_weak B8829 (by decide) (by decide)) ol orr eE5 P1 (Int32.lt_iff_toInt_lt.mpr (cl_aux14 _ _ _ (Int32.lt_iff_toInt_lt.mp (Int32.not_le.mp c8827)) (Int32.lt_iff_toInt_lt.mp P2))) (fun r12206 m12208 h12209 T12210 F12211 W12212 => ?_)
                          have F12213 := (cl_F.refl (ck := ck) (A := [33, 35]) (n := 0) (s := 0) T.1).trans (N := 0) (S := 0) F12211 (by decide) (by decide) (by decide)
                          have W12214 : rf_W [14, 15] m m12208 := (rf_W.refl [14, 15] m).trans W12212 (by decide)
                          show pm_R _ 92 175 [.ref 33, .int a0, .int a1, .int a2, .long a3, pm_no, .int 9, .long y7_11755, pm_no, .int x9_8826, .int x10_11755, .long z11814, pm_no, .long r12024, pm_no, .int 0, pm_no, pm_no] [.int r12206] _ _
                          refine pm_R_lo pm_M92 (pc_q := 177) (ls_q := [.ref 33, .int a0, .int a1, .int a2, .long a3, pm_no, .int 9, .long y7_11755, pm_no, .int x9_8826, .int x10_11755, .long z11814, pm_no, .long r12024, pm_no, .int 0, .int r12206, pm_no]) (st_q := []) (pm_q92_1 (Nat.le_of_ble_eq_true rfl)) rfl rfl ?_
                          refine pm_R_lo pm_M92 (pc_q := 178) (pm_q92_1 (Nat.le_of_ble_eq_true rfl)) rfl rfl ?_
                          refine pm_R_lo pm_M92 (pc_q := 179) (pm_q92_1 (Nat.le_of_ble_eq_true rfl)) rfl rfl ?_
                          refine pm_R_get pm_M92 (pc_q := 182) (v := .ref lo) (pm_q92_1 (Nat.le_of_ble_eq_true rfl)) rfl T12210.e33 (by decide) (T12210.lt (by decide)) (by show some (va_rf (o 1)) = _; rw [ol]; rfl) rfl ?_
                          refine pm_R_get pm_M92 (pc_q := 185) (v := .ref (lo + 3)) (pm_q92_1 (Nat.le_of_ble_eq_true rfl)) rfl (T12210.im hkl (by decide) (by decide) eE11767) (G.ge hkl (by decide)) (T12210.al hkl (by decide)) rfl rfl ?_
                          refine pm_R_lo pm_M92 (pc_q := 187) (pm_q92_1 (Nat.le_of_ble_eq_true rfl)) rfl rfl ?_
                          refine pm_R_op pm_M92 (pc_q := 188) (st_q := [.int 4, .int x10_11755, .ref (lo + 3), .ref 33]) (pm_q92_1 (Nat.le_of_ble_eq_true rfl)) rfl rfl ?_
                          refine sf_R_imulV pm_M92 (pc_q := 189) (pm_q92_1 (Nat.le_of_ble_eq_true rfl)) rfl B11781 sf_k4 (by decide) (by decide) (by decide) e11802 ?_
                          refine pm_R_op pm_M92 (pc_q := 190) (st_q := [.int 2, .int z11801, .ref (lo + 3), .ref 33]) (pm_q92_1 (Nat.le_of_ble_eq_true rfl)) rfl rfl ?_
                          refine sf_R_iaddV pm_M92 (pc_q := 191) (pm_q92_1 (Nat.le_of_ble_eq_true rfl)) rfl B11803 sf_k2 (by decide) (by decide) e11805 ?_
                          have q12218 := cl_in4 (n := rc11756) (Nat.le_trans h11764 (by decide)) (Int32.not_le.mp c11777) (cl_aux6 _ _ _ e11802 e11805) B11781 (by decide) (by decide)
                          refine pm_R_iald pm_M92 (pc_q := 192) (v := z11807) (pm_q92_1 (Nat.le_of_ble_eq_true rfl)) (T12210.im kq11776.2.2.1 (by decide) (by decide) eE11770) (T12210.al kq11776.2.2.1 (by decide)) q12218.1 ez11808 rfl ?_
                          refine pm_R_lo pm_M92 (pc_q := 194) (pm_q92_1 (Nat.le_of_ble_eq_true rfl)) rfl rfl ?_
                          refine pm_R_op pm_M92 (pc_q := 195) (st_q := [.int 1, .int x9_8826, .int z11807, .ref 33]) (pm_q92_1 (Nat.le_of_ble_eq_true rfl)) rfl rfl ?_
                          refine sf_R_iaddV pm_M92 (pc_q := 196) (pm_q92_1 (Nat.le_of_ble_eq_true rfl)) rfl B8829 sf_k1 (by decide) (by decide) e11784 ?_
                          refine pm_R_lo pm_M92 (pc_q := 197) (pm_q92_1 (Nat.le_of_ble_eq_true rfl)) rfl rfl ?_
                          refine pm_R_lo pm_M92 (pc_q := 199) (pm_q92_1 (Nat.le_of_ble_eq_true rfl)) rfl rfl ?_
                          refine pm_R_br pm_M92 (pc_q := 207) (st_q := [.int a2, .int z11783, .int z11807, .ref 33]) (pm_q92_1 (Nat.le_of_ble_eq_true rfl)) rfl ?_
                          refine pm_R_lo pm_M92 (pc_q := 209) (pm_q92_1 (Nat.le_of_ble_eq_true rfl)) rfl rfl ?_
                          refine pm_R_lo pm_M92 (pc_q := 211) (pm_q92_1 (Nat.le_of_ble_eq_true rfl)) rfl rfl ?_
                          refine sf_R_lremA pm_M92 (pc_q := 212) (pm_q92_1 (Nat.le_of_ble_eq_true rfl)) rfl k12040 (fun z12219 => ?_)
                          refine pm_R_lo pm_M92 (pc_q := 214) (pm_q92_1 (Nat.le_of_ble_eq_true rfl)) rfl rfl ?_
                          refine pm_R_op pm_M92 (pc_q := 215) (st_q := [.int 1, .int 9, .long z12219, .int a2, .int z11783, .int z11807, .ref 33]) (pm_q92_1 (Nat.le_of_ble_eq_true rfl)) rfl rfl ?_
                          refine pm_R_op pm_M92 (pc_q := 216) (st_q := [.int 10, .long z12219, .int a2, .int z11783, .int z11807, .ref 33]) (pm_q92_1 (Nat.le_of_ble_eq_true rfl)) rfl rfl ?_
                          refine pm_R_cv pm_M92 (pc_q := 219) (a := 33) (ra := [.int 10, .long z12219, .int a2, .int z11783, .int z11807]) (rest := []) (ls_q := [.ref 33, .int z11807, .int z11783, .int a2, .long z12219, pm_no, .int 10, pm_no, pm_no, pm_no, pm_no, pm_no, pm_no, pm_no, pm_no, pm_no, pm_no, pm_no]) (pm_q92_1 (Nat.le_of_ble_eq_true rfl)) rfl (Or.inl rfl) pm_M92 T12210.e33 rfl (by decide) (T12210.lt (by decide)) rfl rfl (Nat.le_of_ble_eq_true rfl) rfl rfl ?_
                          refine cl_c92_10 (d := d + 0) G T12210 B11809 (sf_weak B11785 (by decide) (by decide)) (sf_weak B20 (by decide) (by decide)) ol orr eE5 (Int32.lt_iff_toInt_lt.mpr (cl_aux15 _ _ _ _ e11784 (Int32.lt_iff_toInt_lt.mp (Int32.not_le.mp c8827)) (Int32.lt_iff_toInt_lt.mp P2))) P2 (fun r12220 m12222 h12223 T12224 F12225 W12226 => ?_)
                          have F12227 := F12213.trans (N := 0) (S := 0) F12225 (by decide) (by decide) (by decide)
                          have W12228 : rf_W [14, 15] m m12222 := W12214.trans W12226 (by decide)
                          show pm_R _ 92 219 [.ref 33, .int a0, .int a1, .int a2, .long a3, pm_no, .int 9, .long y7_11755, pm_no, .int x9_8826, .int x10_11755, .long z11814, pm_no, .long r12024, pm_no, .int 0, .int r12206, pm_no] [.int r12220] _ _
                          refine pm_R_lo pm_M92 (pc_q := 221) (ls_q := [.ref 33, .int a0, .int a1, .int a2, .long a3, pm_no, .int 9, .long y7_11755, pm_no, .int x9_8826, .int x10_11755, .long z11814, pm_no, .long r12024, pm_no, .int 0, .int r12206, .int r12220]) (st_q := []) (pm_q92_2 (Nat.le_of_ble_eq_true rfl)) rfl rfl ?_
                          refine pm_R_lo pm_M92 (pc_q := 222) (pm_q92_2 (Nat.le_of_ble_eq_true rfl)) rfl rfl ?_
                          refine pm_R_lo pm_M92 (pc_q := 224) (pm_q92_2 (Nat.le_of_ble_eq_true rfl)) rfl rfl ?_
                          refine cl_R_put33 G pm_M92 T12224 (k := 14) (pc_q := 227) (pm_q92_2 (Nat.le_of_ble_eq_true rfl)) rfl rfl (by decide) rfl rfl (sf_any _) rfl rfl rfl rfl rfl (fun h12229 m12232 em12233 T12230 F12231 => ?_)
                          have F12234 := F12231.cl (ck := ck) T12224.1
                          have F12235 := F12227.trans (N := 0) (S := 0) F12234 (by decide) (by decide) (by decide)
                          have B12236 : sf_B 0 9 (m12232 14) := by rw [em12233]; exact B11781
                          have ek12237 : (m12232 14).toInt = (x10_11755).toInt := by rw [em12233]; rfl
                          have W12238 : rf_W [14, 15] m m12232 := by rw [em12233]; exact W12228.put (by decide)
                          refine pm_R_lo pm_M92 (pc_q := 228) (pm_q92_2 (Nat.le_of_ble_eq_true rfl)) rfl rfl ?_
                          refine pm_R_lo pm_M92 (pc_q := 230) (pm_q92_2 (Nat.le_of_ble_eq_true rfl)) rfl rfl ?_
                          refine pm_R_op pm_M92 (pc_q := 231) (st_q := [.int 1, .int x9_8826, .ref 33]) (pm_q92_2 (Nat.le_of_ble_eq_true rfl)) rfl rfl ?_
                          refine sf_R_iaddV pm_M92 (pc_q := 232) (pm_q92_2 (Nat.le_of_ble_eq_true rfl)) rfl B8829 sf_k1 (by decide) (by decide) e11784 ?_
                          refine pm_R_lo pm_M92 (pc_q := 233) (pm_q92_2 (Nat.le_of_ble_eq_true rfl)) rfl rfl ?_
                          refine sf_R_isub pm_M92 (pc_q := 234) (pm_q92_2 (Nat.le_of_ble_eq_true rfl)) rfl B11785 B19 (by decide) (by decide) (fun z12239 e12240 B12241 => ?_)
                          refine cl_R_put33 G pm_M92 T12230 (k := 15) (pc_q := 237) (pm_q92_2 (Nat.le_of_ble_eq_true rfl)) rfl rfl (by decide) rfl rfl (sf_any _) rfl rfl rfl rfl rfl (fun h12242 m12245 em12246 T12243 F12244 => ?_)
                          have F12247 := F12244.cl (ck := ck) T12230.1
                          have F12248 := F12235.trans (N := 0) (S := 0) F12247 (by decide) (by decide) (by decide)
                          have B12249 : sf_B 0 9 (m12245 14) := by rw [em12246]; exact B12236
                          have ek12250 : (m12245 14).toInt = (x10_11755).toInt := by rw [em12246]; exact ek12237
                          have B12251 : sf_B (-9) 11 (m12245 15) := by rw [em12246]; exact B12241
                          have ek12252 : (m12245 15).toInt = (z12239).toInt := by rw [em12246]; rfl
                          have W12253 : rf_W [14, 15] m m12245 := by rw [em12246]; exact W12238.put (by decide)
                          refine pm_R_lo pm_M92 (pc_q := 238) (pm_q92_2 (Nat.le_of_ble_eq_true rfl)) rfl rfl ?_
                          refine pm_R_get pm_M92 (pc_q := 241) (v := .ref lo) (pm_q92_2 (Nat.le_of_ble_eq_true rfl)) rfl T12243.e33 (by decide) (T12243.lt (by decide)) (by show some (va_rf (o 1)) = _; rw [ol]; rfl) rfl ?_
                          refine pm_R_get pm_M92 (pc_q := 244) (v := .ref (lo + 3)) (pm_q92_2 (Nat.le_of_ble_eq_true rfl)) rfl (T12243.im hkl (by decide) (by decide) eE11767) (G.ge hkl (by decide)) (T12243.al hkl (by decide)) rfl rfl ?_
                          refine pm_R_lo pm_M92 (pc_q := 246) (pm_q92_2 (Nat.le_of_ble_eq_true rfl)) rfl rfl ?_
                          refine pm_R_op pm_M92 (pc_q := 247) (st_q := [.int 4, .int x10_11755, .ref (lo + 3)]) (pm_q92_2 (Nat.le_of_ble_eq_true rfl)) rfl rfl ?_
                          refine sf_R_imulV pm_M92 (pc_q := 248) (pm_q92_2 (Nat.le_of_ble_eq_true rfl)) rfl B11781 sf_k4 (by decide) (by decide) (by decide) e11802 ?_
                          refine pm_R_op pm_M92 (pc_q := 249) (st_q := [.int 3, .int z11801, .ref (lo + 3)]) (pm_q92_2 (Nat.le_of_ble_eq_true rfl)) rfl rfl ?_
                          refine sf_R_iadd pm_M92 (pc_q := 250) (pm_q92_2 (Nat.le_of_ble_eq_true rfl)) rfl B11803 sf_k3 (by decide) (by decide) (fun z12254 e12255 B12256 => ?_)
                          have q12260 := cl_in4 (n := rc11756) (Nat.le_trans h11764 (by decide)) (Int32.not_le.mp c11777) (cl_aux9 _ _ _ e11802 e12255) B11781 (by decide) (by decide)
                          obtain ⟨z12257, ez12258⟩ : ∃ y, fr11761 (Int32.toNatClampNeg z12254) = y := ⟨_, rfl⟩
                          refine pm_R_iald pm_M92 (pc_q := 251) (v := z12257) (pm_q92_2 (Nat.le_of_ble_eq_true rfl)) (T12243.im kq11776.2.2.1 (by decide) (by decide) eE11770) (T12243.al kq11776.2.2.1 (by decide)) q12260.1 ez12258 rfl ?_
                          refine pm_R_lo pm_M92 (pc_q := 253) (pm_q92_2 (Nat.le_of_ble_eq_true rfl)) rfl rfl ?_
                          refine pm_R_lo pm_M92 (pc_q := 255) (pm_q92_2 (Nat.le_of_ble_eq_true rfl)) rfl rfl ?_
                          refine pm_R_cs pm_M92 (pc_q := 258) (ra := [.int r12220, .int r12206, .int z12257]) (rest := []) (ls_q := [.int z12257, .int r12206, .int r12220]) (pm_q92_2 (Nat.le_of_ble_eq_true rfl)) rfl (Or.inr rfl) pm_M88 rfl rfl (Nat.le_of_ble_eq_true rfl) rfl rfl ?_
                          refine cl_c88_u (d := d + 5)  (fun r12261 => ?_)
                          show pm_R _ 92 258 [.ref 33, .int a0, .int a1, .int a2, .long a3, pm_no, .int 9, .long y7_11755, pm_no, .int x9_8826, .int x10_11755, .long z11814, pm_no, .long r12024, pm_no, .int 0, .int r12206, .int r12220] [.int r12261] _ _
                          exact pm_R_ret pm_M92 (r := some (.int r12261)) (pm_q92_2 (Nat.le_of_ble_eq_true rfl)) (pm_ret_i _) (K r12261 m12245 h12242 T12243 F12248 W12253)
                        · have B12268 : sf_B 0 0 z12197 := sf_eqL (Classical.not_not.mp c12199) sf_k0
                          have B12269 : lf_B (-1) (-1) z11814 := lf_eqB e12198 B12268 (⟨by decide, by decide⟩ : lf_B (-1) (-1) (-1))
                          refine pm_R_op pm_M92 (pc_q := 130) (st_q := [.int 1]) (pm_q92_1 (Nat.le_of_ble_eq_true rfl)) rfl rfl ?_
                          refine pm_R_br pm_M92 (pc_q := 134) (pm_q92_1 (Nat.le_of_ble_eq_true rfl)) rfl ?_
                          refine pm_R_lo pm_M92 (pc_q := 136) (ls_q := [.ref 33, .int a0, .int a1, .int a2, .long a3, pm_no, .int 9, .long y7_11755, pm_no, .int x9_8826, .int x10_11755, .long z11814, pm_no, .long r12024, pm_no, .int 1, pm_no, pm_no]) (st_q := []) (pm_q92_1 (Nat.le_of_ble_eq_true rfl)) rfl rfl ?_
                          refine pm_R_lo pm_M92 (pc_q := 137) (pm_q92_1 (Nat.le_of_ble_eq_true rfl)) rfl rfl ?_
                          refine pm_R_lo pm_M92 (pc_q := 138) (pm_q92_1 (Nat.le_of_ble_eq_true rfl)) rfl rfl ?_
                          refine pm_R_get pm_M92 (pc_q := 141) (v := .ref lo) (pm_q92_1 (Nat.le_of_ble_eq_true rfl)) rfl T.e33 (by decide) (T.lt (by decide)) (by show some (va_rf (o 1)) = _; rw [ol]; rfl) rfl ?_
                          refine pm_R_get pm_M92 (pc_q := 144) (v := .ref (lo + 3)) (pm_q92_1 (Nat.le_of_ble_eq_true rfl)) rfl (T.im hkl (by decide) (by decide) eE11767) (G.ge hkl (by decide)) (T.al hkl (by decide)) rfl rfl ?_
                          refine pm_R_lo pm_M92 (pc_q := 146) (pm_q92_1 (Nat.le_of_ble_eq_true rfl)) rfl rfl ?_
                          refine pm_R_op pm_M92 (pc_q := 147) (st_q := [.int 4, .int x10_11755, .ref (lo + 3), .ref 33]) (pm_q92_1 (Nat.le_of_ble_eq_true rfl)) rfl rfl ?_
                          refine sf_R_imulV pm_M92 (pc_q := 148) (pm_q92_1 (Nat.le_of_ble_eq_true rfl)) rfl B11781 sf_k4 (by decide) (by decide) (by decide) e11802 ?_
                          refine pm_R_op pm_M92 (pc_q := 149) (st_q := [.int 1, .int z11801, .ref (lo + 3), .ref 33]) (pm_q92_1 (Nat.le_of_ble_eq_true rfl)) rfl rfl ?_
                          refine sf_R_iaddV pm_M92 (pc_q := 150) (pm_q92_1 (Nat.le_of_ble_eq_true rfl)) rfl B11803 sf_k1 (by decide) (by decide) e12012 ?_
                          have q12273 := cl_in4 (n := rc11756) (Nat.le_trans h11764 (by decide)) (Int32.not_le.mp c11777) (cl_aux7 _ _ _ e11802 e12012) B11781 (by decide) (by decide)
                          refine pm_R_iald pm_M92 (pc_q := 151) (v := z12014) (pm_q92_1 (Nat.le_of_ble_eq_true rfl)) (T.im kq11776.2.2.1 (by decide) (by decide) eE11770) (T.al kq11776.2.2.1 (by decide)) q12273.1 ez12015 rfl ?_
                          refine pm_R_lo pm_M92 (pc_q := 152) (pm_q92_1 (Nat.le_of_ble_eq_true rfl)) rfl rfl ?_
                          refine pm_R_lo pm_M92 (pc_q := 154) (pm_q92_1 (Nat.le_of_ble_eq_true rfl)) rfl rfl ?_
                          refine pm_R_lo pm_M92 (pc_q := 156) (pm_q92_1 (Nat.le_of_ble_eq_true rfl)) rfl rfl ?_
                          refine pm_R_br pm_M92 (pc_q := 159) (st_q := [.int x9_8826, .int a1, .int z12014, .ref 33]) (pm_q92_1 (Nat.le_of_ble_eq_true rfl)) rfl ?_
                          refine pm_R_op pm_M92 (pc_q := 160) (st_q := [.long 0, .int x9_8826, .int a1, .int z12014, .ref 33]) (pm_q92_1 (Nat.le_of_ble_eq_true rfl)) rfl rfl ?_
                          refine pm_R_br pm_M92 (pc_q := 168) (pm_q92_1 (Nat.le_of_ble_eq_true rfl)) rfl ?_
                          refine pm_R_lo pm_M92 (pc_q := 170) (pm_q92_1 (Nat.le_of_ble_eq_true rfl)) rfl rfl ?_
                          refine pm_R_op pm_M92 (pc_q := 171) (st_q := [.int 1, .int 9, .long 0, .int x9_8826, .int a1, .int z12014, .ref 33]) (pm_q92_1 (Nat.le_of_ble_eq_true rfl)) rfl rfl ?_
                          refine pm_R_op pm_M92 (pc_q := 172) (st_q := [.int 10, .long 0, .int x9_8826, .int a1, .int z12014, .ref 33]) (pm_q92_1 (Nat.le_of_ble_eq_true rfl)) rfl rfl ?_
                          refine pm_R_cv pm_M92 (pc_q := 175) (a := 33) (ra := [.int 10, .long 0, .int x9_8826, .int a1, .int z12014]) (rest := []) (ls_q := [.ref 33, .int z12014, .int a1, .int x9_8826, .long 0, pm_no, .int 10, pm_no, pm_no, pm_no, pm_no, pm_no, pm_no, pm_no, pm_no, pm_no, pm_no, pm_no]) (pm_q92_1 (Nat.le_of_ble_eq_true rfl)) rfl (Or.inl rfl) pm_M92 T.e33 rfl (by decide) (T.lt (by decide)) rfl rfl (Nat.le_of_ble_eq_true rfl) rfl rfl ?_
                          refine cl_c92_10 (d := d + 0) G T B12016 (sf_weak B19 (by decide) (by decide)) (sf_weak B8829 (by decide) (by decide)) ol orr eE5 P1 (Int32.lt_iff_toInt_lt.mpr (cl_aux14 _ _ _ (Int32.lt_iff_toInt_lt.mp (Int32.not_le.mp c8827)) (Int32.lt_iff_toInt_lt.mp P2))) (fun r12274 m12276 h12277 T12278 F12279 W12280 => ?_)
                          have F12281 := (cl_F.refl (ck := ck) (A := [33, 35]) (n := 0) (s := 0) T.1).trans (N := 0) (S := 0) F12279 (by decide) (by decide) (by decide)
                          have W12282 : rf_W [14, 15] m m12276 := (rf_W.refl [14, 15] m).trans W12280 (by decide)
                          show pm_R _ 92 175 [.ref 33, .int a0, .int a1, .int a2, .long a3, pm_no, .int 9, .long y7_11755, pm_no, .int x9_8826, .int x10_11755, .long z11814, pm_no, .long r12024, pm_no, .int 1, pm_no, pm_no] [.int r12274] _ _
                          refine pm_R_lo pm_M92 (pc_q := 177) (ls_q := [.ref 33, .int a0, .int a1, .int a2, .long a3, pm_no, .int 9, .long y7_11755, pm_no, .int x9_8826, .int x10_11755, .long z11814, pm_no, .long r12024, pm_no, .int 1, .int r12274, pm_no]) (st_q := []) (pm_q92_1 (Nat.le_of_ble_eq_true rfl)) rfl rfl ?_
                          refine pm_R_lo pm_M92 (pc_q := 178) (pm_q92_1 (Nat.le_of_ble_eq_true rfl)) rfl rfl ?_
                          refine pm_R_lo pm_M92 (pc_q := 179) (pm_q92_1 (Nat.le_of_ble_eq_true rfl)) rfl rfl ?_
                          refine pm_R_get pm_M92 (pc_q := 182) (v := .ref lo) (pm_q92_1 (Nat.le_of_ble_eq_true rfl)) rfl T12278.e33 (by decide) (T12278.lt (by decide)) (by show some (va_rf (o 1)) = _; rw [ol]; rfl) rfl ?_
                          refine pm_R_get pm_M92 (pc_q := 185) (v := .ref (lo + 3)) (pm_q92_1 (Nat.le_of_ble_eq_true rfl)) rfl (T12278.im hkl (by decide) (by decide) eE11767) (G.ge hkl (by decide)) (T12278.al hkl (by decide)) rfl rfl ?_
                          refine pm_R_lo pm_M92 (pc_q := 187) (pm_q92_1 (Nat.le_of_ble_eq_true rfl)) rfl rfl ?_
                          refine pm_R_op pm_M92 (pc_q := 188) (st_q := [.int 4, .int x10_11755, .ref (lo + 3), .ref 33]) (pm_q92_1 (Nat.le_of_ble_eq_true rfl)) rfl rfl ?_
                          refine sf_R_imulV pm_M92 (pc_q := 189) (pm_q92_1 (Nat.le_of_ble_eq_true rfl)) rfl B11781 sf_k4 (by decide) (by decide) (by decide) e11802 ?_
                          refine pm_R_op pm_M92 (pc_q := 190) (st_q := [.int 2, .int z11801, .ref (lo + 3), .ref 33]) (pm_q92_1 (Nat.le_of_ble_eq_true rfl)) rfl rfl ?_
                          refine sf_R_iaddV pm_M92 (pc_q := 191) (pm_q92_1 (Nat.le_of_ble_eq_true rfl)) rfl B11803 sf_k2 (by decide) (by decide) e11805 ?_
                          have q12286 := cl_in4 (n := rc11756) (Nat.le_trans h11764 (by decide)) (Int32.not_le.mp c11777) (cl_aux6 _ _ _ e11802 e11805) B11781 (by decide) (by decide)
                          refine pm_R_iald pm_M92 (pc_q := 192) (v := z11807) (pm_q92_1 (Nat.le_of_ble_eq_true rfl)) (T12278.im kq11776.2.2.1 (by decide) (by decide) eE11770) (T12278.al kq11776.2.2.1 (by decide)) q12286.1 ez11808 rfl ?_
                          refine pm_R_lo pm_M92 (pc_q := 194) (pm_q92_1 (Nat.le_of_ble_eq_true rfl)) rfl rfl ?_
                          refine pm_R_op pm_M92 (pc_q := 195) (st_q := [.int 1, .int x9_8826, .int z11807, .ref 33]) (pm_q92_1 (Nat.le_of_ble_eq_true rfl)) rfl rfl ?_
                          refine sf_R_iaddV pm_M92 (pc_q := 196) (pm_q92_1 (Nat.le_of_ble_eq_true rfl)) rfl B8829 sf_k1 (by decide) (by decide) e11784 ?_
                          refine pm_R_lo pm_M92 (pc_q := 197) (pm_q92_1 (Nat.le_of_ble_eq_true rfl)) rfl rfl ?_
                          refine pm_R_lo pm_M92 (pc_q := 199) (pm_q92_1 (Nat.le_of_ble_eq_true rfl)) rfl rfl ?_
                          refine pm_R_br pm_M92 (pc_q := 202) (st_q := [.int a2, .int z11783, .int z11807, .ref 33]) (pm_q92_1 (Nat.le_of_ble_eq_true rfl)) rfl ?_
                          refine pm_R_lo pm_M92 (pc_q := 204) (pm_q92_1 (Nat.le_of_ble_eq_true rfl)) rfl rfl ?_
                          refine pm_R_br pm_M92 (pc_q := 212) (pm_q92_1 (Nat.le_of_ble_eq_true rfl)) rfl ?_
                          refine pm_R_lo pm_M92 (pc_q := 214) (pm_q92_1 (Nat.le_of_ble_eq_true rfl)) rfl rfl ?_
                          refine pm_R_op pm_M92 (pc_q := 215) (st_q := [.int 1, .int 9, .long y7_11755, .int a2, .int z11783, .int z11807, .ref 33]) (pm_q92_1 (Nat.le_of_ble_eq_true rfl)) rfl rfl ?_
                          refine pm_R_op pm_M92 (pc_q := 216) (st_q := [.int 10, .long y7_11755, .int a2, .int z11783, .int z11807, .ref 33]) (pm_q92_1 (Nat.le_of_ble_eq_true rfl)) rfl rfl ?_
                          refine pm_R_cv pm_M92 (pc_q := 219) (a := 33) (ra := [.int 10, .long y7_11755, .int a2, .int z11783, .int z11807]) (rest := []) (ls_q := [.ref 33, .int z11807, .int z11783, .int a2, .long y7_11755, pm_no, .int 10, pm_no, pm_no, pm_no, pm_no, pm_no, pm_no, pm_no, pm_no, pm_no, pm_no, pm_no]) (pm_q92_1 (Nat.le_of_ble_eq_true rfl)) rfl (Or.inl rfl) pm_M92 T12278.e33 rfl (by decide) (T12278.lt (by decide)) rfl rfl (Nat.le_of_ble_eq_true rfl) rfl rfl ?_
                          refine cl_c92_10 (d := d + 0) G T12278 B11809 (sf_weak B11785 (by decide) (by decide)) (sf_weak B20 (by decide) (by decide)) ol orr eE5 (Int32.lt_iff_toInt_lt.mpr (cl_aux15 _ _ _ _ e11784 (Int32.lt_iff_toInt_lt.mp (Int32.not_le.mp c8827)) (Int32.lt_iff_toInt_lt.mp P2))) P2 (fun r12287 m12289 h12290 T12291 F12292 W12293 => ?_)
                          have F12294 := F12281.trans (N := 0) (S := 0) F12292 (by decide) (by decide) (by decide)
                          have W12295 : rf_W [14, 15] m m12289 := W12282.trans W12293 (by decide)
                          show pm_R _ 92 219 [.ref 33, .int a0, .int a1, .int a2, .long a3, pm_no, .int 9, .long y7_11755, pm_no, .int x9_8826, .int x10_11755, .long z11814, pm_no, .long r12024, pm_no, .int 1, .int r12274, pm_no] [.int r12287] _ _
                          refine pm_R_lo pm_M92 (pc_q := 221) (ls_q := [.ref 33, .int a0, .int a1, .int a2, .long a3, pm_no, .int 9, .long y7_11755, pm_no, .int x9_8826, .int x10_11755, .long z11814, pm_no, .long r12024, pm_no, .int 1, .int r12274, .int r12287]) (st_q := []) (pm_q92_2 (Nat.le_of_ble_eq_true rfl)) rfl rfl ?_
                          refine pm_R_lo pm_M92 (pc_q := 222) (pm_q92_2 (Nat.le_of_ble_eq_true rfl)) rfl rfl ?_
                          refine pm_R_lo pm_M92 (pc_q := 224) (pm_q92_2 (Nat.le_of_ble_eq_true rfl)) rfl rfl ?_
                          refine cl_R_put33 G pm_M92 T12291 (k := 14) (pc_q := 227) (pm_q92_2 (Nat.le_of_ble_eq_true rfl)) rfl rfl (by decide) rfl rfl (sf_any _) rfl rfl rfl rfl rfl (fun h12296 m12299 em12300 T12297 F12298 => ?_)
                          have F12301 := F12298.cl (ck := ck) T12291.1
                          have F12302 := F12294.trans (N := 0) (S := 0) F12301 (by decide) (by decide) (by decide)
                          have B12303 : sf_B 0 9 (m12299 14) := by rw [em12300]; exact B11781
                          have ek12304 : (m12299 14).toInt = (x10_11755).toInt := by rw [em12300]; rfl
                          have W12305 : rf_W [14, 15] m m12299 := by rw [em12300]; exact W12295.put (by decide)
                          refine pm_R_lo pm_M92 (pc_q := 228) (pm_q92_2 (Nat.le_of_ble_eq_true rfl)) rfl rfl ?_
                          refine pm_R_lo pm_M92 (pc_q := 230) (pm_q92_2 (Nat.le_of_ble_eq_true rfl)) rfl rfl ?_
                          refine pm_R_op pm_M92 (pc_q := 231) (st_q := [.int 1, .int x9_8826, .ref 33]) (pm_q92_2 (Nat.le_of_ble_eq_true rfl)) rfl rfl ?_
                          refine sf_R_iaddV pm_M92 (pc_q := 232) (pm_q92_2 (Nat.le_of_ble_eq_true rfl)) rfl B8829 sf_k1 (by decide) (by decide) e11784 ?_
                          refine pm_R_lo pm_M92 (pc_q := 233) (pm_q92_2 (Nat.le_of_ble_eq_true rfl)) rfl rfl ?_
                          refine sf_R_isub pm_M92 (pc_q := 234) (pm_q92_2 (Nat.le_of_ble_eq_true rfl)) rfl B11785 B19 (by decide) (by decide) (fun z12306 e12307 B12308 => ?_)
                          refine cl_R_put33 G pm_M92 T12297 (k := 15) (pc_q := 237) (pm_q92_2 (Nat.le_of_ble_eq_true rfl)) rfl rfl (by decide) rfl rfl (sf_any _) rfl rfl rfl rfl rfl (fun h12309 m12312 em12313 T12310 F12311 => ?_)
                          have F12314 := F12311.cl (ck := ck) T12297.1
                          have F12315 := F12302.trans (N := 0) (S := 0) F12314 (by decide) (by decide) (by decide)
                          have B12316 : sf_B 0 9 (m12312 14) := by rw [em12313]; exact B12303
                          have ek12317 : (m12312 14).toInt = (x10_11755).toInt := by rw [em12313]; exact ek12304
                          have B12318 : sf_B (-9) 11 (m12312 15) := by rw [em12313]; exact B12308
                          have ek12319 : (m12312 15).toInt = (z12306).toInt := by rw [em12313]; rfl
                          have W12320 : rf_W [14, 15] m m12312 := by rw [em12313]; exact W12305.put (by decide)
                          refine pm_R_lo pm_M92 (pc_q := 238) (pm_q92_2 (Nat.le_of_ble_eq_true rfl)) rfl rfl ?_
                          refine pm_R_get pm_M92 (pc_q := 241) (v := .ref lo) (pm_q92_2 (Nat.le_of_ble_eq_true rfl)) rfl T12310.e33 (by decide) (T12310.lt (by decide)) (by show some (va_rf (o 1)) = _; rw [ol]; rfl) rfl ?_
                          refine pm_R_get pm_M92 (pc_q := 244) (v := .ref (lo + 3)) (pm_q92_2 (Nat.le_of_ble_eq_true rfl)) rfl (T12310.im hkl (by decide) (by decide) eE11767) (G.ge hkl (by decide)) (T12310.al hkl (by decide)) rfl rfl ?_
                          refine pm_R_lo pm_M92 (pc_q := 246) (pm_q92_2 (Nat.le_of_ble_eq_true rfl)) rfl rfl ?_
                          refine pm_R_op pm_M92 (pc_q := 247) (st_q := [.int 4, .int x10_11755, .ref (lo + 3)]) (pm_q92_2 (Nat.le_of_ble_eq_true rfl)) rfl rfl ?_
                          refine sf_R_imulV pm_M92 (pc_q := 248) (pm_q92_2 (Nat.le_of_ble_eq_true rfl)) rfl B11781 sf_k4 (by decide) (by decide) (by decide) e11802 ?_
                          refine pm_R_op pm_M92 (pc_q := 249) (st_q := [.int 3, .int z11801, .ref (lo + 3)]) (pm_q92_2 (Nat.le_of_ble_eq_true rfl)) rfl rfl ?_
                          refine sf_R_iadd pm_M92 (pc_q := 250) (pm_q92_2 (Nat.le_of_ble_eq_true rfl)) rfl B11803 sf_k3 (by decide) (by decide) (fun z12321 e12322 B12323 => ?_)
                          have q12327 := cl_in4 (n := rc11756) (Nat.le_trans h11764 (by decide)) (Int32.not_le.mp c11777) (cl_aux9 _ _ _ e11802 e12322) B11781 (by decide) (by decide)
                          obtain ⟨z12324, ez12325⟩ : ∃ y, fr11761 (Int32.toNatClampNeg z12321) = y := ⟨_, rfl⟩
                          refine pm_R_iald pm_M92 (pc_q := 251) (v := z12324) (pm_q92_2 (Nat.le_of_ble_eq_true rfl)) (T12310.im kq11776.2.2.1 (by decide) (by decide) eE11770) (T12310.al kq11776.2.2.1 (by decide)) q12327.1 ez12325 rfl ?_
                          refine pm_R_lo pm_M92 (pc_q := 253) (pm_q92_2 (Nat.le_of_ble_eq_true rfl)) rfl rfl ?_
                          refine pm_R_lo pm_M92 (pc_q := 255) (pm_q92_2 (Nat.le_of_ble_eq_true rfl)) rfl rfl ?_
                          refine pm_R_cs pm_M92 (pc_q := 258) (ra := [.int r12287, .int r12274, .int z12324]) (rest := []) (ls_q := [.int z12324, .int r12274, .int r12287]) (pm_q92_2 (Nat.le_of_ble_eq_true rfl)) rfl (Or.inr rfl) pm_M88 rfl rfl (Nat.le_of_ble_eq_true rfl) rfl rfl ?_
                          refine cl_c88_u (d := d + 5)  (fun r12328 => ?_)
                          show pm_R _ 92 258 [.ref 33, .int a0, .int a1, .int a2, .long a3, pm_no, .int 9, .long y7_11755, pm_no, .int x9_8826, .int x10_11755, .long z11814, pm_no, .long r12024, pm_no, .int 1, .int r12274, .int r12287] [.int r12328] _ _
                          exact pm_R_ret pm_M92 (r := some (.int r12328)) (pm_q92_2 (Nat.le_of_ble_eq_true rfl)) (pm_ret_i _) (K r12328 m12312 h12309 T12310 F12315 W12320)
          exact L_11755 _ 0 y7_8826 (g11_8826) (g12_8826) (g13_8826) (g14_8826) (sf_weak sf_k0 (by decide) (by decide)) Cg12_8826 Cg14_8826 rfl
    exact L_8826 _ a1 a3 (pm_no) (pm_no) (pm_no) (pm_no) (pm_no) (sf_weak B19 (by decide) (by decide)) rfl rfl rfl rfl

set_option maxRecDepth 100000 in
set_option maxHeartbeats 4000000 in
/-- SilentTable$TreeChart.pick -/
theorem cl_c92_8 {d : Nat} {ck : cl_K} {E : Nat → pm_E} {m : Nat → Int32} {o : Nat → Option Nat} {h : pm_H} {Q : Option Value → pm_H → Prop} {a0 : Int32} {a1 : Int32} {a2 : Int32} {a3 : Int64} (G : cl_G ck E) (T : cl_T ck E m o h) (Ba0 : sf_B 0 5 a0) (Ba1 : sf_B 0 11 a1) (Ba2 : sf_B 0 11 a2) {lo ro : Nat} (ol : o 1 = some lo) (orr : o 2 = some ro) {n : Nat} (en : E ro = .inr (5, [.int (Int32.ofNat n), .ref (ro + 1)])) (Q1 : a1 < Int32.ofNat n) (Q2 : a2 < Int32.ofNat n) (K : ∀ (r : Int32) (m_q : Nat → Int32) (h_q : pm_H), cl_T ck E m_q o h_q → cl_F ck [33, 35] 0 0 h h_q → rf_W [14, 15] m m_q → Q (some (.int r)) h_q) : pm_R (d + 7) 92 0 [.ref 33, .int a0, .int a1, .int a2, .long a3, pm_no, .int 8, pm_no, pm_no, pm_no, pm_no, pm_no, pm_no, pm_no, pm_no, pm_no, pm_no, pm_no] [] h Q := by
  have hkl := T.oo.2.1 _ ol
  have hkr := T.oo.2.2 _ orr
  obtain ⟨n1, f2, h3, h4, eE5, eE6, b7⟩ := (G.2.2.1 ro hkr).2
  have kq8 := (G.2.2.1 ro hkr).1
  have P1 : a1 < (Int32.ofNat n1) := by rw [cl_rowN eE5 en]; exact Q1
  have P2 : a2 < (Int32.ofNat n1) := by rw [cl_rowN eE5 en]; exact Q2
  refine pm_R_lo pm_M92 (pc_q := 1) rfl rfl rfl ?_
  refine pm_R_lo pm_M92 (pc_q := 2) rfl rfl rfl ?_
  refine pm_R_icmp pm_M92 (t := 12) (pc_q := 5) rfl rfl rfl (fun c9 => ?_) (fun c9 => ?_)
  · skip
    refine pm_R_lo pm_M92 (pc_q := 13) rfl rfl rfl ?_
    refine pm_R_lo pm_M92 (pc_q := 14) rfl rfl rfl ?_
    refine pm_R_lo pm_M92 (pc_q := 15) rfl rfl rfl ?_
    refine pm_R_lo pm_M92 (pc_q := 17) rfl rfl rfl ?_
    refine pm_R_cv pm_M92 (pc_q := 20) (a := 33) (ra := [.long a3, .int a1, .int a0]) (rest := []) (ls_q := [.ref 33, .int a0, .int a1, .long a3, pm_no, pm_no, pm_no, pm_no]) rfl rfl (Or.inl rfl) pm_M93 T.e33 rfl (by decide) (T.lt (by decide)) rfl rfl (Nat.le_of_ble_eq_true rfl) rfl rfl ?_
    refine cl_c93 (d := d + 6) G T Ba0 Ba1 ol orr eE5 P1 (fun r10 m12 h13 T14 F15 W16 B11 => ?_)
    have F17 := (cl_F.refl (ck := ck) (A := [33, 35]) (n := 0) (s := 0) T.1).trans (N := 0) (S := 0) F15 (by decide) (by decide) (by decide)
    have W18 : rf_W [14, 15] m m12 := (rf_W.refl [14, 15] m).trans W16 (by decide)
    show pm_R _ 92 20 [.ref 33, .int a0, .int a1, .int a2, .long a3, pm_no, .int 8, pm_no, pm_no, pm_no, pm_no, pm_no, pm_no, pm_no, pm_no, pm_no, pm_no, pm_no] [.int r10] _ _
    exact pm_R_ret pm_M92 (r := some (.int r10)) rfl (pm_ret_i _) (K r10 m12 h13 T14 F17 W18)
  · have B19 : sf_B 0 10 a1 := sf_ltL (Int32.not_le.mp c9) Ba1 Ba2
    have B20 : sf_B 1 11 a2 := sf_ltR (Int32.not_le.mp c9) Ba1 Ba2
    refine pm_R_lo pm_M92 (pc_q := 7) rfl rfl rfl ?_
    refine pm_R_op pm_M92 (pc_q := 9) (st_q := [.int 12, .int 8]) rfl rfl rfl ?_
    refine pm_R_br pm_M92 (pc_q := 21) (st_q := []) rfl rfl ?_
    refine pm_R_lo pm_M92 (pc_q := 23) rfl rfl rfl ?_
    refine pm_R_lo pm_M92 (pc_q := 25) (ls_q := [.ref 33, .int a0, .int a1, .int a2, .long a3, pm_no, .int 8, .long a3, pm_no, pm_no, pm_no, pm_no, pm_no, pm_no, pm_no, pm_no, pm_no, pm_no]) (st_q := []) rfl rfl rfl ?_
    refine pm_R_lo pm_M92 (pc_q := 26) rfl rfl rfl ?_
    refine pm_R_lo pm_M92 (pc_q := 28) (ls_q := [.ref 33, .int a0, .int a1, .int a2, .long a3, pm_no, .int 8, .long a3, pm_no, .int a1, pm_no, pm_no, pm_no, pm_no, pm_no, pm_no, pm_no, pm_no]) (st_q := []) rfl rfl rfl ?_
    have L_8826 : ∀ (N : Nat) (x9_8826 : Int32) (y7_8826 : Int64) (g10_8826 : Value) (g11_8826 : Value) (g12_8826 : Value) (g13_8826 : Value) (g14_8826 : Value), sf_B 0 11 x9_8826 → g10_8826.category = 1 → g12_8826.category = 1 → g14_8826.category = 1 → (11 - x9_8826.toInt).toNat = N → pm_R (d + 7) 92 28 [.ref 33, .int a0, .int a1, .int a2, .long a3, pm_no, .int 8, .long y7_8826, pm_no, .int x9_8826, g10_8826, g11_8826, g12_8826, g13_8826, g14_8826, pm_no, pm_no, pm_no] [] h Q := by
      intro N
      induction N using Nat.strongRecOn with
      | ind N ih_8826 =>
        intro x9_8826 y7_8826 g10_8826 g11_8826 g12_8826 g13_8826 g14_8826 Bx9_8826 Cg10_8826 Cg12_8826 Cg14_8826 hN_8826
        refine pm_R_lo pm_M92 (pc_q := 30) rfl rfl rfl ?_
        refine pm_R_lo pm_M92 (pc_q := 31) rfl rfl rfl ?_
        refine pm_R_icmp pm_M92 (t := 278) (pc_q := 34) rfl rfl rfl (fun c8827 => ?_) (fun c8827 => ?_)
        · have B8828 : sf_B 1 11 x9_8826 := sf_leR c8827 B20 Bx9_8826
          refine pm_R_op pm_M92 (pc_q := 279) (st_q := [.int (-1)]) (pm_q92_2 (Nat.le_of_ble_eq_true rfl)) rfl rfl ?_
          exact pm_R_ret pm_M92 (r := some (.int (-1))) (pm_q92_2 (Nat.le_of_ble_eq_true rfl)) rfl (K (-1) m h T (cl_F.refl (ck := ck) (A := [33, 35]) (n := 0) (s := 0) T.1) (rf_W.refl [14, 15] m))
        · have B8829 : sf_B 0 10 x9_8826 := sf_ltL (Int32.not_le.mp c8827) Bx9_8826 B20
          refine pm_R_op pm_M92 (pc_q := 35) (st_q := [.int 0]) rfl rfl rfl ?_
          refine pm_R_lo pm_M92 (pc_q := 37) (ls_q := [.ref 33, .int a0, .int a1, .int a2, .long a3, pm_no, .int 8, .long y7_8826, pm_no, .int x9_8826, .int 0, g11_8826, g12_8826, g13_8826, g14_8826, pm_no, pm_no, pm_no]) (st_q := []) rfl rfl rfl ?_
          have L_11755 : ∀ (N : Nat) (x10_11755 : Int32) (y7_11755 : Int64) (g11_11755 : Value) (g12_11755 : Value) (g13_11755 : Value) (g14_11755 : Value), sf_B 0 10 x10_11755 → g12_11755.category = 1 → g14_11755.category = 1 → (10 - x10_11755.toInt).toNat = N → pm_R (d + 7) 92 37 [.ref 33, .int a0, .int a1, .int a2, .long a3, pm_no, .int 8, .long y7_11755, pm_no, .int x9_8826, .int x10_11755, g11_11755, g12_11755, g13_11755, g14_11755, pm_no, pm_no, pm_no] [] h Q := by
            intro N
            induction N using Nat.strongRecOn with
            | ind N ih_11755 =>
              intro x10_11755 y7_11755 g11_11755 g12_11755 g13_11755 g14_11755 Bx10_11755 Cg12_11755 Cg14_11755 hN_11755
              refine pm_R_lo pm_M92 (pc_q := 39) rfl rfl rfl ?_
              refine pm_R_lo pm_M92 (pc_q := 40) rfl rfl rfl ?_
              refine pm_R_get pm_M92 (pc_q := 43) (v := .ref lo) rfl rfl T.e33 (by decide) (T.lt (by decide)) (by show some (va_rf (o 1)) = _; rw [ol]; rfl) rfl ?_
              obtain ⟨rc11756, tc11757, rs11758, fv11759, fw11760, fr11761, ft11762, fn11763, h11764, h11765, B11766, eE11767, eE11768, eE11769, eE11770, eE11771, eE11772, b11773, b11774, b11775⟩ := (G.2.1 lo hkl).2.2.2.2.2
              have kq11776 := G.2.1 lo hkl
              refine pm_R_get pm_M92 (pc_q := 46) (v := .int (Int32.ofNat rc11756)) rfl rfl (T.im hkl (by decide) (by decide) eE11767) (G.ge hkl (by decide)) (T.al hkl (by decide)) rfl rfl ?_
              refine pm_R_icmp pm_M92 (t := 272) (pc_q := 49) rfl rfl rfl (fun c11777 => ?_) (fun c11777 => ?_)
              · skip
                refine sf_R_iinc pm_M92 (pc_q := 275) (ls_q := fun z => [.ref 33, .int a0, .int a1, .int a2, .long a3, pm_no, .int 8, .long y7_11755, pm_no, .int z, .int x10_11755, g11_11755, g12_11755, g13_11755, g14_11755, pm_no, pm_no, pm_no]) (pm_q92_2 (Nat.le_of_ble_eq_true rfl)) B8829 rfl (by decide) (by decide) (by decide) (fun _ => rfl) rfl (fun z11778 e11779 B11780 => ?_)
                show pm_R _ 92 275 [.ref 33, .int a0, .int a1, .int a2, .long a3, pm_no, .int 8, .long y7_11755, pm_no, .int z11778, .int x10_11755, g11_11755, g12_11755, g13_11755, g14_11755, pm_no, pm_no, pm_no] [] _ _
                refine pm_R_br pm_M92 (pc_q := 28) (pm_q92_2 (Nat.le_of_ble_eq_true rfl)) rfl ?_
                exact ih_8826 _ (sf_up hN_8826 e11779 B8829 (by decide) (by decide)) z11778 y7_11755 (.int x10_11755) (g11_11755) (g12_11755) (g13_11755) (g14_11755) (sf_weak B11780 (by decide) (by decide)) rfl Cg12_11755 Cg14_11755 rfl
              · have B11781 : sf_B 0 9 x10_11755 := sf_ltL (Int32.not_le.mp c11777) Bx10_11755 (sf_ofB h11764 (by decide))
                have B11782 : sf_B 1 10 (Int32.ofNat rc11756) := sf_ltR (Int32.not_le.mp c11777) Bx10_11755 (sf_ofB h11764 (by decide))
                refine pm_R_lo pm_M92 (pc_q := 50) rfl rfl rfl ?_
                refine pm_R_lo pm_M92 (pc_q := 52) rfl rfl rfl ?_
                refine pm_R_lo pm_M92 (pc_q := 54) rfl rfl rfl ?_
                refine pm_R_lo pm_M92 (pc_q := 55) rfl rfl rfl ?_
                refine pm_R_cv pm_M92 (pc_q := 58) (a := 33) (ra := [.int a2, .int x9_8826, .int x10_11755]) (rest := []) (ls_q := [.ref 33, .int x10_11755, .int x9_8826, .int a2]) rfl rfl (Or.inl rfl) pm_M76 T.e33 rfl (by decide) (T.lt (by decide)) rfl rfl (Nat.le_of_ble_eq_true rfl) rfl rfl ?_
                refine pm_R_lo pm_M76 (pc_q := 1) rfl rfl rfl ?_
                refine pm_R_get pm_M76 (pc_q := 4) (v := .ref 34) rfl rfl T.e33 (by decide) (T.lt (by decide)) rfl rfl ?_
                refine pm_R_lo pm_M76 (pc_q := 5) rfl rfl rfl ?_
                refine pm_R_op pm_M76 (pc_q := 6) (st_q := [.int 1, .int x9_8826, .ref 34]) rfl rfl rfl ?_
                refine sf_R_iadd pm_M76 (pc_q := 7) rfl rfl B8829 sf_k1 (by decide) (by decide) (fun z11783 e11784 B11785 => ?_)
                refine pm_R_lo pm_M76 (pc_q := 8) rfl rfl rfl ?_
                refine pm_R_cs pm_M76 (pc_q := 11) (ra := [.int a2, .int z11783]) (rest := [.ref 34]) (ls_q := [.int z11783, .int a2]) rfl rfl (Or.inr rfl) pm_M73 rfl rfl (Nat.le_of_ble_eq_true rfl) rfl rfl ?_
                refine pm_R_lo pm_M73 (pc_q := 1) rfl rfl rfl ?_
                refine pm_R_lo pm_M73 (pc_q := 2) rfl rfl rfl ?_
                refine pm_R_op pm_M73 (pc_q := 3) (st_q := [.int 1, .int a2, .int a2]) rfl rfl rfl ?_
                refine sf_R_iadd pm_M73 (pc_q := 4) rfl rfl B20 sf_k1 (by decide) (by decide) (fun z11786 e11787 B11788 => ?_)
                refine sf_R_imul pm_M73 (pc_q := 5) rfl rfl B20 B11788 (by decide) (by decide) (by decide) (fun z11789 e11790 B11791 => ?_)
                refine pm_R_op pm_M73 (pc_q := 6) (st_q := [.int 2, .int z11789]) rfl rfl rfl ?_
                refine sf_R_idiv pm_M73 (pc_q := 7) rfl rfl B11791 sf_k2 (by decide) (by decide) (fun z11792 e11793 B11794 => ?_)
                refine pm_R_lo pm_M73 (pc_q := 8) rfl rfl rfl ?_
                refine sf_R_iadd pm_M73 (pc_q := 9) rfl rfl B11794 B11785 (by decide) (by decide) (fun z11795 e11796 B11797 => ?_)
                refine pm_R_ret pm_M73 (r := some (.int z11795)) rfl (pm_ret_i _) ?_
                show pm_R _ 76 11 [.ref 33, .int x10_11755, .int x9_8826, .int a2] [.int z11795, .ref 34] _ _
                refine pm_R_op pm_M76 (pc_q := 13) (st_q := [.int 6, .int z11795, .ref 34]) rfl rfl rfl ?_
                refine sf_R_imul pm_M76 (pc_q := 14) rfl rfl B11797 sf_k6 (by decide) (by decide) (by decide) (fun z11798 e11799 B11800 => ?_)
                refine pm_R_lo pm_M76 (pc_q := 15) rfl rfl rfl ?_
                refine pm_R_get pm_M76 (pc_q := 18) (v := .ref lo) rfl rfl T.e33 (by decide) (T.lt (by decide)) (by show some (va_rf (o 1)) = _; rw [ol]; rfl) rfl ?_
                refine pm_R_get pm_M76 (pc_q := 21) (v := .ref (lo + 3)) rfl rfl (T.im hkl (by decide) (by decide) eE11767) (G.ge hkl (by decide)) (T.al hkl (by decide)) rfl rfl ?_
                refine pm_R_lo pm_M76 (pc_q := 22) rfl rfl rfl ?_
                refine pm_R_op pm_M76 (pc_q := 23) (st_q := [.int 4, .int x10_11755, .ref (lo + 3), .int z11798, .ref 34]) rfl rfl rfl ?_
                refine sf_R_imul pm_M76 (pc_q := 24) rfl rfl B11781 sf_k4 (by decide) (by decide) (by decide) (fun z11801 e11802 B11803 => ?_)
                refine pm_R_op pm_M76 (pc_q := 25) (st_q := [.int 2, .int z11801, .ref (lo + 3), .int z11798, .ref 34]) rfl rfl rfl ?_
                refine sf_R_iadd pm_M76 (pc_q := 26) rfl rfl B11803 sf_k2 (by decide) (by decide) (fun z11804 e11805 B11806 => ?_)
                have q11810 := cl_in4 (n := rc11756) (Nat.le_trans h11764 (by decide)) (Int32.not_le.mp c11777) (cl_aux6 _ _ _ e11802 e11805) B11781 (by decide) (by decide)
                obtain ⟨z11807, ez11808⟩ : ∃ y, fr11761 (Int32.toNatClampNeg z11804) = y := ⟨_, rfl⟩
                have B11809 : sf_B 0 5 z11807 := ez11808 ▸ q11810.2.2 ▸ (b11773 _ q11810.2.1).2.2
                refine pm_R_iald pm_M76 (pc_q := 27) (v := z11807) rfl (T.im kq11776.2.2.1 (by decide) (by decide) eE11770) (T.al kq11776.2.2.1 (by decide)) q11810.1 ez11808 rfl ?_
                refine sf_R_iadd pm_M76 (pc_q := 28) rfl rfl B11800 B11809 (by decide) (by decide) (fun z11811 e11812 B11813 => ?_)
                obtain ⟨f11817, e11818⟩ := T.C 34 (by decide) (by decide)
                obtain ⟨z11814, ez11815⟩ : ∃ y, f11817 (Int32.toNatClampNeg z11811) = y := ⟨_, rfl⟩
                refine pm_R_lald pm_M76 (pc_q := 29) (v := z11814) rfl e11818 (by decide) (T.lt (by decide)) (sf_in B11813 (by decide) (by decide)) ez11815 rfl ?_
                refine pm_R_ret pm_M76 (r := some (.long z11814)) rfl rfl ?_
                show pm_R _ 92 58 [.ref 33, .int a0, .int a1, .int a2, .long a3, pm_no, .int 8, .long y7_11755, pm_no, .int x9_8826, .int x10_11755, g11_11755, g12_11755, g13_11755, g14_11755, pm_no, pm_no, pm_no] [.long z11814] _ _
                refine pm_R_lo pm_M92 (pc_q := 60) (ls_q := [.ref 33, .int a0, .int a1, .int a2, .long a3, pm_no, .int 8, .long y7_11755, pm_no, .int x9_8826, .int x10_11755, .long z11814, pm_no, g13_11755, g14_11755, pm_no, pm_no, pm_no]) (st_q := []) rfl rfl rfl ?_
                refine pm_R_lo pm_M92 (pc_q := 61) rfl rfl rfl ?_
                refine pm_R_get pm_M92 (pc_q := 64) (v := .ref lo) rfl rfl T.e33 (by decide) (T.lt (by decide)) (by show some (va_rf (o 1)) = _; rw [ol]; rfl) rfl ?_
                refine pm_R_get pm_M92 (pc_q := 67) (v := .ref (lo + 3)) rfl rfl (T.im hkl (by decide) (by decide) eE11767) (G.ge hkl (by decide)) (T.al hkl (by decide)) rfl rfl ?_
                refine pm_R_lo pm_M92 (pc_q := 69) rfl rfl rfl ?_
                refine pm_R_op pm_M92 (pc_q := 70) (st_q := [.int 4, .int x10_11755, .ref (lo + 3)]) rfl rfl rfl ?_
                refine sf_R_imulV pm_M92 (pc_q := 71) rfl rfl B11781 sf_k4 (by decide) (by decide) (by decide) e11802 ?_
                have q11823 := cl_in4 (n := rc11756) (Nat.le_trans h11764 (by decide)) (Int32.not_le.mp c11777) (cl_aux5 _ _ e11802) B11781 (by decide) (by decide)
                obtain ⟨z11820, ez11821⟩ : ∃ y, fr11761 (Int32.toNatClampNeg z11801) = y := ⟨_, rfl⟩
                have B11822 : sf_B 0 5 z11820 := ez11821 ▸ q11823.2.2 ▸ (b11773 _ q11823.2.1).1
                refine pm_R_iald pm_M92 (pc_q := 72) (v := z11820) rfl (T.im kq11776.2.2.1 (by decide) (by decide) eE11770) (T.al kq11776.2.2.1 (by decide)) q11823.1 ez11821 rfl ?_
                refine pm_R_lo pm_M92 (pc_q := 73) rfl rfl rfl ?_
                refine pm_R_icmp pm_M92 (t := 93) (pc_q := 76) rfl rfl rfl (fun c11824 => ?_) (fun c11824 => ?_)
                · skip
                  refine pm_R_op pm_M92 (pc_q := 94) (st_q := [.long 0]) rfl rfl rfl ?_
                  refine pm_R_lo pm_M92 (pc_q := 96) (ls_q := [.ref 33, .int a0, .int a1, .int a2, .long a3, pm_no, .int 8, .long y7_11755, pm_no, .int x9_8826, .int x10_11755, .long z11814, pm_no, .long 0, pm_no, pm_no, pm_no, pm_no]) (st_q := []) rfl rfl rfl ?_
                  refine pm_R_lo pm_M92 (pc_q := 98) rfl rfl rfl ?_
                  refine pm_R_op pm_M92 (pc_q := 99) (st_q := [.long 0, .long z11814]) rfl rfl rfl ?_
                  refine sf_R_lcmp pm_M92 (pc_q := 100) rfl rfl (fun z11825 e11826 => ?_)
                  refine pm_R_ifc pm_M92 (t := 259) (pc_q := 103) rfl rfl rfl (fun c11827 => ?_) (fun c11827 => ?_)
                  · have B11828 : sf_B 0 0 z11825 := sf_eqL c11827 sf_k0
                    have B11829 : lf_B 0 0 z11814 := lf_eqB e11826 B11828 (⟨by decide, by decide⟩ : lf_B 0 0 0)
                    refine pm_R_lo pm_M92 (pc_q := 261) (pm_q92_2 (Nat.le_of_ble_eq_true rfl)) rfl rfl ?_
                    refine pm_R_lo pm_M92 (pc_q := 263) (pm_q92_2 (Nat.le_of_ble_eq_true rfl)) rfl rfl ?_
                    refine sf_R_lany pm_M92 (pc_q := 264) (st := []) (pm_q92_2 (Nat.le_of_ble_eq_true rfl)) rfl rfl (fun z11830 => ?_)
                    refine pm_R_lo pm_M92 (pc_q := 266) (ls_q := [.ref 33, .int a0, .int a1, .int a2, .long a3, pm_no, .int 8, .long z11830, pm_no, .int x9_8826, .int x10_11755, .long z11814, pm_no, .long 0, pm_no, pm_no, pm_no, pm_no]) (st_q := []) (pm_q92_2 (Nat.le_of_ble_eq_true rfl)) rfl rfl ?_
                    refine sf_R_iinc pm_M92 (pc_q := 269) (ls_q := fun z => [.ref 33, .int a0, .int a1, .int a2, .long a3, pm_no, .int 8, .long z11830, pm_no, .int x9_8826, .int z, .long z11814, pm_no, .long 0, pm_no, pm_no, pm_no, pm_no]) (pm_q92_2 (Nat.le_of_ble_eq_true rfl)) B11781 rfl (by decide) (by decide) (by decide) (fun _ => rfl) rfl (fun z11831 e11832 B11833 => ?_)
                    show pm_R _ 92 269 [.ref 33, .int a0, .int a1, .int a2, .long a3, pm_no, .int 8, .long z11830, pm_no, .int x9_8826, .int z11831, .long z11814, pm_no, .long 0, pm_no, pm_no, pm_no, pm_no] [] _ _
                    refine pm_R_br pm_M92 (pc_q := 37) (pm_q92_2 (Nat.le_of_ble_eq_true rfl)) rfl ?_
                    exact ih_11755 _ (sf_up hN_11755 e11832 B11781 (by decide) (by decide)) z11831 z11830 (.long z11814) (pm_no) (.long 0) (pm_no) (sf_weak B11833 (by decide) (by decide)) rfl rfl rfl
                  · have k11834 := sf_lneC e11826 c11827
                    refine pm_R_lo pm_M92 (pc_q := 105) rfl rfl rfl ?_
                    refine pm_R_lo pm_M92 (pc_q := 107) rfl rfl rfl ?_
                    refine sf_R_lcmp pm_M92 (pc_q := 108) rfl rfl (fun z11835 e11836 => ?_)
                    refine pm_R_ifc pm_M92 (t := 120) (pc_q := 111) rfl rfl rfl (fun c11837 => ?_) (fun c11837 => ?_)
                    · have B11838 : sf_B (-2147483648) (-1) z11835 := sf_ltL c11837 (sf_any z11835) sf_k0
                      have k11839 := lf_lt e11836 B11838 (by decide)
                      have k11840 := sf_lneB e11836 B11838 (by decide)
                      refine pm_R_lo pm_M92 (pc_q := 122) (pm_q92_1 (Nat.le_of_ble_eq_true rfl)) rfl rfl ?_
                      refine pm_R_ldc2 pm_M92 (pc_q := 125) (pm_q92_1 (Nat.le_of_ble_eq_true rfl)) rfl rfl ?_
                      refine sf_R_lcmp pm_M92 (pc_q := 126) (pm_q92_1 (Nat.le_of_ble_eq_true rfl)) rfl (fun z11841 e11842 => ?_)
                      refine pm_R_ifc pm_M92 (t := 133) (pc_q := 129) (pm_q92_1 (Nat.le_of_ble_eq_true rfl)) rfl rfl (fun c11843 => ?_) (fun c11843 => ?_)
                      · have k11844 := sf_lneC e11842 c11843
                        refine pm_R_op pm_M92 (pc_q := 134) (st_q := [.int 0]) (pm_q92_1 (Nat.le_of_ble_eq_true rfl)) rfl rfl ?_
                        refine pm_R_lo pm_M92 (pc_q := 136) (ls_q := [.ref 33, .int a0, .int a1, .int a2, .long a3, pm_no, .int 8, .long y7_11755, pm_no, .int x9_8826, .int x10_11755, .long z11814, pm_no, .long 0, pm_no, .int 0, pm_no, pm_no]) (st_q := []) (pm_q92_1 (Nat.le_of_ble_eq_true rfl)) rfl rfl ?_
                        refine pm_R_lo pm_M92 (pc_q := 137) (pm_q92_1 (Nat.le_of_ble_eq_true rfl)) rfl rfl ?_
                        refine pm_R_lo pm_M92 (pc_q := 138) (pm_q92_1 (Nat.le_of_ble_eq_true rfl)) rfl rfl ?_
                        refine pm_R_get pm_M92 (pc_q := 141) (v := .ref lo) (pm_q92_1 (Nat.le_of_ble_eq_true rfl)) rfl T.e33 (by decide) (T.lt (by decide)) (by show some (va_rf (o 1)) = _; rw [ol]; rfl) rfl ?_
                        refine pm_R_get pm_M92 (pc_q := 144) (v := .ref (lo + 3)) (pm_q92_1 (Nat.le_of_ble_eq_true rfl)) rfl (T.im hkl (by decide) (by decide) eE11767) (G.ge hkl (by decide)) (T.al hkl (by decide)) rfl rfl ?_
                        refine pm_R_lo pm_M92 (pc_q := 146) (pm_q92_1 (Nat.le_of_ble_eq_true rfl)) rfl rfl ?_
                        refine pm_R_op pm_M92 (pc_q := 147) (st_q := [.int 4, .int x10_11755, .ref (lo + 3), .ref 33]) (pm_q92_1 (Nat.le_of_ble_eq_true rfl)) rfl rfl ?_
                        refine sf_R_imulV pm_M92 (pc_q := 148) (pm_q92_1 (Nat.le_of_ble_eq_true rfl)) rfl B11781 sf_k4 (by decide) (by decide) (by decide) e11802 ?_
                        refine pm_R_op pm_M92 (pc_q := 149) (st_q := [.int 1, .int z11801, .ref (lo + 3), .ref 33]) (pm_q92_1 (Nat.le_of_ble_eq_true rfl)) rfl rfl ?_
                        refine sf_R_iadd pm_M92 (pc_q := 150) (pm_q92_1 (Nat.le_of_ble_eq_true rfl)) rfl B11803 sf_k1 (by decide) (by decide) (fun z11845 e11846 B11847 => ?_)
                        have q11851 := cl_in4 (n := rc11756) (Nat.le_trans h11764 (by decide)) (Int32.not_le.mp c11777) (cl_aux7 _ _ _ e11802 e11846) B11781 (by decide) (by decide)
                        obtain ⟨z11848, ez11849⟩ : ∃ y, fr11761 (Int32.toNatClampNeg z11845) = y := ⟨_, rfl⟩
                        have B11850 : sf_B 0 5 z11848 := ez11849 ▸ q11851.2.2 ▸ (b11773 _ q11851.2.1).2.1
                        refine pm_R_iald pm_M92 (pc_q := 151) (v := z11848) (pm_q92_1 (Nat.le_of_ble_eq_true rfl)) (T.im kq11776.2.2.1 (by decide) (by decide) eE11770) (T.al kq11776.2.2.1 (by decide)) q11851.1 ez11849 rfl ?_
                        refine pm_R_lo pm_M92 (pc_q := 152) (pm_q92_1 (Nat.le_of_ble_eq_true rfl)) rfl rfl ?_
                        refine pm_R_lo pm_M92 (pc_q := 154) (pm_q92_1 (Nat.le_of_ble_eq_true rfl)) rfl rfl ?_
                        refine pm_R_lo pm_M92 (pc_q := 156) (pm_q92_1 (Nat.le_of_ble_eq_true rfl)) rfl rfl ?_
                        refine pm_R_br pm_M92 (pc_q := 163) (st_q := [.int x9_8826, .int a1, .int z11848, .ref 33]) (pm_q92_1 (Nat.le_of_ble_eq_true rfl)) rfl ?_
                        refine pm_R_lo pm_M92 (pc_q := 165) (pm_q92_1 (Nat.le_of_ble_eq_true rfl)) rfl rfl ?_
                        refine pm_R_lo pm_M92 (pc_q := 167) (pm_q92_1 (Nat.le_of_ble_eq_true rfl)) rfl rfl ?_
                        refine sf_R_ldivA pm_M92 (pc_q := 168) (pm_q92_1 (Nat.le_of_ble_eq_true rfl)) rfl k11834 (fun z11852 => ?_)
                        refine pm_R_lo pm_M92 (pc_q := 170) (pm_q92_1 (Nat.le_of_ble_eq_true rfl)) rfl rfl ?_
                        refine pm_R_op pm_M92 (pc_q := 171) (st_q := [.int 1, .int 8, .long z11852, .int x9_8826, .int a1, .int z11848, .ref 33]) (pm_q92_1 (Nat.le_of_ble_eq_true rfl)) rfl rfl ?_
                        refine pm_R_op pm_M92 (pc_q := 172) (st_q := [.int 9, .long z11852, .int x9_8826, .int a1, .int z11848, .ref 33]) (pm_q92_1 (Nat.le_of_ble_eq_true rfl)) rfl rfl ?_
                        refine pm_R_cv pm_M92 (pc_q := 175) (a := 33) (ra := [.int 9, .long z11852, .int x9_8826, .int a1, .int z11848]) (rest := []) (ls_q := [.ref 33, .int z11848, .int a1, .int x9_8826, .long z11852, pm_no, .int 9, pm_no, pm_no, pm_no, pm_no, pm_no, pm_no, pm_no, pm_no, pm_no, pm_no, pm_no]) (pm_q92_1 (Nat.le_of_ble_eq_true rfl)) rfl (Or.inl rfl) pm_M92 T.e33 rfl (by decide) (T.lt (by decide)) rfl rfl (Nat.le_of_ble_eq_true rfl) rfl rfl ?_
                        refine cl_c92_9 (d := d + 0) G T B11850 (sf_weak B19 (by decide) (by decide)) (sf_weak B8829 (by decide) (by decide)) ol orr eE5 P1 (Int32.lt_iff_toInt_lt.mpr (cl_aux14 _ _ _ (Int32.lt_iff_toInt_lt.mp (Int32.not_le.mp c8827)) (Int32.lt_iff_toInt_lt.mp P2))) (fun r11853 m11855 h11856 T11857 F11858 W11859 => ?_)
                        have F11860 := (cl_F.refl (ck := ck) (A := [33, 35]) (n := 0) (s := 0) T.1).trans (N := 0) (S := 0) F11858 (by decide) (by decide) (by decide)
                        have W11861 : rf_W [14, 15] m m11855 := (rf_W.refl [14, 15] m).trans W11859 (by decide)
                        show pm_R _ 92 175 [.ref 33, .int a0, .int a1, .int a2, .long a3, pm_no, .int 8, .long y7_11755, pm_no, .int x9_8826, .int x10_11755, .long z11814, pm_no, .long 0, pm_no, .int 0, pm_no, pm_no] [.int r11853] _ _
                        refine pm_R_lo pm_M92 (pc_q := 177) (ls_q := [.ref 33, .int a0, .int a1, .int a2, .long a3, pm_no, .int 8, .long y7_11755, pm_no, .int x9_8826, .int x10_11755, .long z11814, pm_no, .long 0, pm_no, .int 0, .int r11853, pm_no]) (st_q := []) (pm_q92_1 (Nat.le_of_ble_eq_true rfl)) rfl rfl ?_
                        refine pm_R_lo pm_M92 (pc_q := 178) (pm_q92_1 (Nat.le_of_ble_eq_true rfl)) rfl rfl ?_
                        refine pm_R_lo pm_M92 (pc_q := 179) (pm_q92_1 (Nat.le_of_ble_eq_true rfl)) rfl rfl ?_
                        refine pm_R_get pm_M92 (pc_q := 182) (v := .ref lo) (pm_q92_1 (Nat.le_of_ble_eq_true rfl)) rfl T11857.e33 (by decide) (T11857.lt (by decide)) (by show some (va_rf (o 1)) = _; rw [ol]; rfl) rfl ?_
                        refine pm_R_get pm_M92 (pc_q := 185) (v := .ref (lo + 3)) (pm_q92_1 (Nat.le_of_ble_eq_true rfl)) rfl (T11857.im hkl (by decide) (by decide) eE11767) (G.ge hkl (by decide)) (T11857.al hkl (by decide)) rfl rfl ?_
                        refine pm_R_lo pm_M92 (pc_q := 187) (pm_q92_1 (Nat.le_of_ble_eq_true rfl)) rfl rfl ?_
                        refine pm_R_op pm_M92 (pc_q := 188) (st_q := [.int 4, .int x10_11755, .ref (lo + 3), .ref 33]) (pm_q92_1 (Nat.le_of_ble_eq_true rfl)) rfl rfl ?_
                        refine sf_R_imulV pm_M92 (pc_q := 189) (pm_q92_1 (Nat.le_of_ble_eq_true rfl)) rfl B11781 sf_k4 (by decide) (by decide) (by decide) e11802 ?_
                        refine pm_R_op pm_M92 (pc_q := 190) (st_q := [.int 2, .int z11801, .ref (lo + 3), .ref 33]) (pm_q92_1 (Nat.le_of_ble_eq_true rfl)) rfl rfl ?_
                        refine sf_R_iaddV pm_M92 (pc_q := 191) (pm_q92_1 (Nat.le_of_ble_eq_true rfl)) rfl B11803 sf_k2 (by decide) (by decide) e11805 ?_
                        have q11865 := cl_in4 (n := rc11756) (Nat.le_trans h11764 (by decide)) (Int32.not_le.mp c11777) (cl_aux6 _ _ _ e11802 e11805) B11781 (by decide) (by decide)
                        refine pm_R_iald pm_M92 (pc_q := 192) (v := z11807) (pm_q92_1 (Nat.le_of_ble_eq_true rfl)) (T11857.im kq11776.2.2.1 (by decide) (by decide) eE11770) (T11857.al kq11776.2.2.1 (by decide)) q11865.1 ez11808 rfl ?_
                        refine pm_R_lo pm_M92 (pc_q := 194) (pm_q92_1 (Nat.le_of_ble_eq_true rfl)) rfl rfl ?_
                        refine pm_R_op pm_M92 (pc_q := 195) (st_q := [.int 1, .int x9_8826, .int z11807, .ref 33]) (pm_q92_1 (Nat.le_of_ble_eq_true rfl)) rfl rfl ?_
                        refine sf_R_iaddV pm_M92 (pc_q := 196) (pm_q92_1 (Nat.le_of_ble_eq_true rfl)) rfl B8829 sf_k1 (by decide) (by decide) e11784 ?_
                        refine pm_R_lo pm_M92 (pc_q := 197) (pm_q92_1 (Nat.le_of_ble_eq_true rfl)) rfl rfl ?_
                        refine pm_R_lo pm_M92 (pc_q := 199) (pm_q92_1 (Nat.le_of_ble_eq_true rfl)) rfl rfl ?_
                        refine pm_R_br pm_M92 (pc_q := 207) (st_q := [.int a2, .int z11783, .int z11807, .ref 33]) (pm_q92_1 (Nat.le_of_ble_eq_true rfl)) rfl ?_
                        refine pm_R_lo pm_M92 (pc_q := 209) (pm_q92_1 (Nat.le_of_ble_eq_true rfl)) rfl rfl ?_
                        refine pm_R_lo pm_M92 (pc_q := 211) (pm_q92_1 (Nat.le_of_ble_eq_true rfl)) rfl rfl ?_
                        refine sf_R_lremA pm_M92 (pc_q := 212) (pm_q92_1 (Nat.le_of_ble_eq_true rfl)) rfl k11834 (fun z11866 => ?_)
                        refine pm_R_lo pm_M92 (pc_q := 214) (pm_q92_1 (Nat.le_of_ble_eq_true rfl)) rfl rfl ?_
                        refine pm_R_op pm_M92 (pc_q := 215) (st_q := [.int 1, .int 8, .long z11866, .int a2, .int z11783, .int z11807, .ref 33]) (pm_q92_1 (Nat.le_of_ble_eq_true rfl)) rfl rfl ?_
                        refine pm_R_op pm_M92 (pc_q := 216) (st_q := [.int 9, .long z11866, .int a2, .int z11783, .int z11807, .ref 33]) (pm_q92_1 (Nat.le_of_ble_eq_true rfl)) rfl rfl ?_
                        refine pm_R_cv pm_M92 (pc_q := 219) (a := 33) (ra := [.int 9, .long z11866, .int a2, .int z11783, .int z11807]) (rest := []) (ls_q := [.ref 33, .int z11807, .int z11783, .int a2, .long z11866, pm_no, .int 9, pm_no, pm_no, pm_no, pm_no, pm_no, pm_no, pm_no, pm_no, pm_no, pm_no, pm_no]) (pm_q92_1 (Nat.le_of_ble_eq_true rfl)) rfl (Or.inl rfl) pm_M92 T11857.e33 rfl (by decide) (T11857.lt (by decide)) rfl rfl (Nat.le_of_ble_eq_true rfl) rfl rfl ?_
                        refine cl_c92_9 (d := d + 0) G T11857 B11809 (sf_weak B11785 (by decide) (by decide)) (sf_weak B20 (by decide) (by decide)) ol orr eE5 (Int32.lt_iff_toInt_lt.mpr (cl_aux15 _ _ _ _ e11784 (Int32.lt_iff_toInt_lt.mp (Int32.not_le.mp c8827)) (Int32.lt_iff_toInt_lt.mp P2))) P2 (fun r11867 m11869 h11870 T11871 F11872 W11873 => ?_)
                        have F11874 := F11860.trans (N := 0) (S := 0) F11872 (by decide) (by decide) (by decide)
                        have W11875 : rf_W [14, 15] m m11869 := W11861.trans W11873 (by decide)
                        show pm_R _ 92 219 [.ref 33, .int a0, .int a1, .int a2, .long a3, pm_no, .int 8, .long y7_11755, pm_no, .int x9_8826, .int x10_11755, .long z11814, pm_no, .long 0, pm_no, .int 0, .int r11853, pm_no] [.int r11867] _ _
                        refine pm_R_lo pm_M92 (pc_q := 221) (ls_q := [.ref 33, .int a0, .int a1, .int a2, .long a3, pm_no, .int 8, .long y7_11755, pm_no, .int x9_8826, .int x10_11755, .long z11814, pm_no, .long 0, pm_no, .int 0, .int r11853, .int r11867]) (st_q := []) (pm_q92_2 (Nat.le_of_ble_eq_true rfl)) rfl rfl ?_
                        refine pm_R_lo pm_M92 (pc_q := 222) (pm_q92_2 (Nat.le_of_ble_eq_true rfl)) rfl rfl ?_
                        refine pm_R_lo pm_M92 (pc_q := 224) (pm_q92_2 (Nat.le_of_ble_eq_true rfl)) rfl rfl ?_
                        refine cl_R_put33 G pm_M92 T11871 (k := 14) (pc_q := 227) (pm_q92_2 (Nat.le_of_ble_eq_true rfl)) rfl rfl (by decide) rfl rfl (sf_any _) rfl rfl rfl rfl rfl (fun h11876 m11879 em11880 T11877 F11878 => ?_)
                        have F11881 := F11878.cl (ck := ck) T11871.1
                        have F11882 := F11874.trans (N := 0) (S := 0) F11881 (by decide) (by decide) (by decide)
                        have B11883 : sf_B 0 9 (m11879 14) := by rw [em11880]; exact B11781
                        have ek11884 : (m11879 14).toInt = (x10_11755).toInt := by rw [em11880]; rfl
                        have W11885 : rf_W [14, 15] m m11879 := by rw [em11880]; exact W11875.put (by decide)
                        refine pm_R_lo pm_M92 (pc_q := 228) (pm_q92_2 (Nat.le_of_ble_eq_true rfl)) rfl rfl ?_
                        refine pm_R_lo pm_M92 (pc_q := 230) (pm_q92_2 (Nat.le_of_ble_eq_true rfl)) rfl rfl ?_
                        refine pm_R_op pm_M92 (pc_q := 231) (st_q := [.int 1, .int x9_8826, .ref 33]) (pm_q92_2 (Nat.le_of_ble_eq_true rfl)) rfl rfl ?_
                        refine sf_R_iaddV pm_M92 (pc_q := 232) (pm_q92_2 (Nat.le_of_ble_eq_true rfl)) rfl B8829 sf_k1 (by decide) (by decide) e11784 ?_
                        refine pm_R_lo pm_M92 (pc_q := 233) (pm_q92_2 (Nat.le_of_ble_eq_true rfl)) rfl rfl ?_
                        refine sf_R_isub pm_M92 (pc_q := 234) (pm_q92_2 (Nat.le_of_ble_eq_true rfl)) rfl B11785 B19 (by decide) (by decide) (fun z11886 e11887 B11888 => ?_)
                        refine cl_R_put33 G pm_M92 T11877 (k := 15) (pc_q := 237) (pm_q92_2 (Nat.le_of_ble_eq_true rfl)) rfl rfl (by decide) rfl rfl (sf_any _) rfl rfl rfl rfl rfl (fun h11889 m11892 em11893 T11890 F11891 => ?_)
                        have F11894 := F11891.cl (ck := ck) T11877.1
                        have F11895 := F11882.trans (N := 0) (S := 0) F11894 (by decide) (by decide) (by decide)
                        have B11896 : sf_B 0 9 (m11892 14) := by rw [em11893]; exact B11883
                        have ek11897 : (m11892 14).toInt = (x10_11755).toInt := by rw [em11893]; exact ek11884
                        have B11898 : sf_B (-9) 11 (m11892 15) := by rw [em11893]; exact B11888
                        have ek11899 : (m11892 15).toInt = (z11886).toInt := by rw [em11893]; rfl
                        have W11900 : rf_W [14, 15] m m11892 := by rw [em11893]; exact W11885.put (by decide)
                        refine pm_R_lo pm_M92 (pc_q := 238) (pm_q92_2 (Nat.le_of_ble_eq_true rfl)) rfl rfl ?_
                        refine pm_R_get pm_M92 (pc_q := 241) (v := .ref lo) (pm_q92_2 (Nat.le_of_ble_eq_true rfl)) rfl T11890.e33 (by decide) (T11890.lt (by decide)) (by show some (va_rf (o 1)) = _; rw [ol]; rfl) rfl ?_
                        refine pm_R_get pm_M92 (pc_q := 244) (v := .ref (lo + 3)) (pm_q92_2 (Nat.le_of_ble_eq_true rfl)) rfl (T11890.im hkl (by decide) (by decide) eE11767) (G.ge hkl (by decide)) (T11890.al hkl (by decide)) rfl rfl ?_
                        refine pm_R_lo pm_M92 (pc_q := 246) (pm_q92_2 (Nat.le_of_ble_eq_true rfl)) rfl rfl ?_
                        refine pm_R_op pm_M92 (pc_q := 247) (st_q := [.int 4, .int x10_11755, .ref (lo + 3)]) (pm_q92_2 (Nat.le_of_ble_eq_true rfl)) rfl rfl ?_
                        refine sf_R_imulV pm_M92 (pc_q := 248) (pm_q92_2 (Nat.le_of_ble_eq_true rfl)) rfl B11781 sf_k4 (by decide) (by decide) (by decide) e11802 ?_
                        refine pm_R_op pm_M92 (pc_q := 249) (st_q := [.int 3, .int z11801, .ref (lo + 3)]) (pm_q92_2 (Nat.le_of_ble_eq_true rfl)) rfl rfl ?_
                        refine sf_R_iadd pm_M92 (pc_q := 250) (pm_q92_2 (Nat.le_of_ble_eq_true rfl)) rfl B11803 sf_k3 (by decide) (by decide) (fun z11901 e11902 B11903 => ?_)
                        have q11907 := cl_in4 (n := rc11756) (Nat.le_trans h11764 (by decide)) (Int32.not_le.mp c11777) (cl_aux9 _ _ _ e11802 e11902) B11781 (by decide) (by decide)
                        obtain ⟨z11904, ez11905⟩ : ∃ y, fr11761 (Int32.toNatClampNeg z11901) = y := ⟨_, rfl⟩
                        refine pm_R_iald pm_M92 (pc_q := 251) (v := z11904) (pm_q92_2 (Nat.le_of_ble_eq_true rfl)) (T11890.im kq11776.2.2.1 (by decide) (by decide) eE11770) (T11890.al kq11776.2.2.1 (by decide)) q11907.1 ez11905 rfl ?_
                        refine pm_R_lo pm_M92 (pc_q := 253) (pm_q92_2 (Nat.le_of_ble_eq_true rfl)) rfl rfl ?_
                        refine pm_R_lo pm_M92 (pc_q := 255) (pm_q92_2 (Nat.le_of_ble_eq_true rfl)) rfl rfl ?_
                        refine pm_R_cs pm_M92 (pc_q := 258) (ra := [.int r11867, .int r11853, .int z11904]) (rest := []) (ls_q := [.int z11904, .int r11853, .int r11867]) (pm_q92_2 (Nat.le_of_ble_eq_true rfl)) rfl (Or.inr rfl) pm_M88 rfl rfl (Nat.le_of_ble_eq_true rfl) rfl rfl ?_
                        refine cl_c88_u (d := d + 6)  (fun r11908 => ?_)
                        show pm_R _ 92 258 [.ref 33, .int a0, .int a1, .int a2, .long a3, pm_no, .int 8, .long y7_11755, pm_no, .int x9_8826, .int x10_11755, .long z11814, pm_no, .long 0, pm_no, .int 0, .int r11853, .int r11867] [.int r11908] _ _
                        exact pm_R_ret pm_M92 (r := some (.int r11908)) (pm_q92_2 (Nat.le_of_ble_eq_true rfl)) (pm_ret_i _) (K r11908 m11892 h11889 T11890 F11895 W11900)
                      · have B11915 : sf_B 0 0 z11841 := sf_eqL (Classical.not_not.mp c11843) sf_k0
                        have B11916 : lf_B (-1) (-1) z11814 := lf_eqB e11842 B11915 (⟨by decide, by decide⟩ : lf_B (-1) (-1) (-1))
                        refine pm_R_op pm_M92 (pc_q := 130) (st_q := [.int 1]) (pm_q92_1 (Nat.le_of_ble_eq_true rfl)) rfl rfl ?_
                        refine pm_R_br pm_M92 (pc_q := 134) (pm_q92_1 (Nat.le_of_ble_eq_true rfl)) rfl ?_
                        refine pm_R_lo pm_M92 (pc_q := 136) (ls_q := [.ref 33, .int a0, .int a1, .int a2, .long a3, pm_no, .int 8, .long y7_11755, pm_no, .int x9_8826, .int x10_11755, .long z11814, pm_no, .long 0, pm_no, .int 1, pm_no, pm_no]) (st_q := []) (pm_q92_1 (Nat.le_of_ble_eq_true rfl)) rfl rfl ?_
                        refine pm_R_lo pm_M92 (pc_q := 137) (pm_q92_1 (Nat.le_of_ble_eq_true rfl)) rfl rfl ?_
                        refine pm_R_lo pm_M92 (pc_q := 138) (pm_q92_1 (Nat.le_of_ble_eq_true rfl)) rfl rfl ?_
                        refine pm_R_get pm_M92 (pc_q := 141) (v := .ref lo) (pm_q92_1 (Nat.le_of_ble_eq_true rfl)) rfl T.e33 (by decide) (T.lt (by decide)) (by show some (va_rf (o 1)) = _; rw [ol]; rfl) rfl ?_
                        refine pm_R_get pm_M92 (pc_q := 144) (v := .ref (lo + 3)) (pm_q92_1 (Nat.le_of_ble_eq_true rfl)) rfl (T.im hkl (by decide) (by decide) eE11767) (G.ge hkl (by decide)) (T.al hkl (by decide)) rfl rfl ?_
                        refine pm_R_lo pm_M92 (pc_q := 146) (pm_q92_1 (Nat.le_of_ble_eq_true rfl)) rfl rfl ?_
                        refine pm_R_op pm_M92 (pc_q := 147) (st_q := [.int 4, .int x10_11755, .ref (lo + 3), .ref 33]) (pm_q92_1 (Nat.le_of_ble_eq_true rfl)) rfl rfl ?_
                        refine sf_R_imulV pm_M92 (pc_q := 148) (pm_q92_1 (Nat.le_of_ble_eq_true rfl)) rfl B11781 sf_k4 (by decide) (by decide) (by decide) e11802 ?_
                        refine pm_R_op pm_M92 (pc_q := 149) (st_q := [.int 1, .int z11801, .ref (lo + 3), .ref 33]) (pm_q92_1 (Nat.le_of_ble_eq_true rfl)) rfl rfl ?_
                        refine sf_R_iadd pm_M92 (pc_q := 150) (pm_q92_1 (Nat.le_of_ble_eq_true rfl)) rfl B11803 sf_k1 (by decide) (by decide) (fun z11917 e11918 B11919 => ?_)
                        have q11923 := cl_in4 (n := rc11756) (Nat.le_trans h11764 (by decide)) (Int32.not_le.mp c11777) (cl_aux7 _ _ _ e11802 e11918) B11781 (by decide) (by decide)
                        obtain ⟨z11920, ez11921⟩ : ∃ y, fr11761 (Int32.toNatClampNeg z11917) = y := ⟨_, rfl⟩
                        have B11922 : sf_B 0 5 z11920 := ez11921 ▸ q11923.2.2 ▸ (b11773 _ q11923.2.1).2.1
                        refine pm_R_iald pm_M92 (pc_q := 151) (v := z11920) (pm_q92_1 (Nat.le_of_ble_eq_true rfl)) (T.im kq11776.2.2.1 (by decide) (by decide) eE11770) (T.al kq11776.2.2.1 (by decide)) q11923.1 ez11921 rfl ?_
                        refine pm_R_lo pm_M92 (pc_q := 152) (pm_q92_1 (Nat.le_of_ble_eq_true rfl)) rfl rfl ?_
                        refine pm_R_lo pm_M92 (pc_q := 154) (pm_q92_1 (Nat.le_of_ble_eq_true rfl)) rfl rfl ?_
                        refine pm_R_lo pm_M92 (pc_q := 156) (pm_q92_1 (Nat.le_of_ble_eq_true rfl)) rfl rfl ?_
                        refine pm_R_br pm_M92 (pc_q := 159) (st_q := [.int x9_8826, .int a1, .int z11920, .ref 33]) (pm_q92_1 (Nat.le_of_ble_eq_true rfl)) rfl ?_
                        refine pm_R_op pm_M92 (pc_q := 160) (st_q := [.long 0, .int x9_8826, .int a1, .int z11920, .ref 33]) (pm_q92_1 (Nat.le_of_ble_eq_true rfl)) rfl rfl ?_
                        refine pm_R_br pm_M92 (pc_q := 168) (pm_q92_1 (Nat.le_of_ble_eq_true rfl)) rfl ?_
                        refine pm_R_lo pm_M92 (pc_q := 170) (pm_q92_1 (Nat.le_of_ble_eq_true rfl)) rfl rfl ?_
                        refine pm_R_op pm_M92 (pc_q := 171) (st_q := [.int 1, .int 8, .long 0, .int x9_8826, .int a1, .int z11920, .ref 33]) (pm_q92_1 (Nat.le_of_ble_eq_true rfl)) rfl rfl ?_
                        refine pm_R_op pm_M92 (pc_q := 172) (st_q := [.int 9, .long 0, .int x9_8826, .int a1, .int z11920, .ref 33]) (pm_q92_1 (Nat.le_of_ble_eq_true rfl)) rfl rfl ?_
                        refine pm_R_cv pm_M92 (pc_q := 175) (a := 33) (ra := [.int 9, .long 0, .int x9_8826, .int a1, .int z11920]) (rest := []) (ls_q := [.ref 33, .int z11920, .int a1, .int x9_8826, .long 0, pm_no, .int 9, pm_no, pm_no, pm_no, pm_no, pm_no, pm_no, pm_no, pm_no, pm_no, pm_no, pm_no]) (pm_q92_1 (Nat.le_of_ble_eq_true rfl)) rfl (Or.inl rfl) pm_M92 T.e33 rfl (by decide) (T.lt (by decide)) rfl rfl (Nat.le_of_ble_eq_true rfl) rfl rfl ?_
                        refine cl_c92_9 (d := d + 0) G T B11922 (sf_weak B19 (by decide) (by decide)) (sf_weak B8829 (by decide) (by decide)) ol orr eE5 P1 (Int32.lt_iff_toInt_lt.mpr (cl_aux14 _ _ _ (Int32.lt_iff_toInt_lt.mp (Int32.not_le.mp c8827)) (Int32.lt_iff_toInt_lt.mp P2))) (fun r11924 m11926 h11927 T11928 F11929 W11930 => ?_)
                        have F11931 := (cl_F.refl (ck := ck) (A := [33, 35]) (n := 0) (s := 0) T.1).trans (N := 0) (S := 0) F11929 (by decide) (by decide) (by decide)
                        have W11932 : rf_W [14, 15] m m11926 := (rf_W.refl [14, 15] m).trans W11930 (by decide)
                        show pm_R _ 92 175 [.ref 33, .int a0, .int a1, .int a2, .long a3, pm_no, .int 8, .long y7_11755, pm_no, .int x9_8826, .int x10_11755, .long z11814, pm_no, .long 0, pm_no, .int 1, pm_no, pm_no] [.int r11924] _ _
                        refine pm_R_lo pm_M92 (pc_q := 177) (ls_q := [.ref 33, .int a0, .int a1, .int a2, .long a3, pm_no, .int 8, .long y7_11755, pm_no, .int x9_8826, .int x10_11755, .long z11814, pm_no, .long 0, pm_no, .int 1, .int r11924, pm_no]) (st_q := []) (pm_q92_1 (Nat.le_of_ble_eq_true rfl)) rfl rfl ?_
                        refine pm_R_lo pm_M92 (pc_q := 178) (pm_q92_1 (Nat.le_of_ble_eq_true rfl)) rfl rfl ?_
                        refine pm_R_lo pm_M92 (pc_q := 179) (pm_q92_1 (Nat.le_of_ble_eq_true rfl)) rfl rfl ?_
                        refine pm_R_get pm_M92 (pc_q := 182) (v := .ref lo) (pm_q92_1 (Nat.le_of_ble_eq_true rfl)) rfl T11928.e33 (by decide) (T11928.lt (by decide)) (by show some (va_rf (o 1)) = _; rw [ol]; rfl) rfl ?_
                        refine pm_R_get pm_M92 (pc_q := 185) (v := .ref (lo + 3)) (pm_q92_1 (Nat.le_of_ble_eq_true rfl)) rfl (T11928.im hkl (by decide) (by decide) eE11767) (G.ge hkl (by decide)) (T11928.al hkl (by decide)) rfl rfl ?_
                        refine pm_R_lo pm_M92 (pc_q := 187) (pm_q92_1 (Nat.le_of_ble_eq_true rfl)) rfl rfl ?_
                        refine pm_R_op pm_M92 (pc_q := 188) (st_q := [.int 4, .int x10_11755, .ref (lo + 3), .ref 33]) (pm_q92_1 (Nat.le_of_ble_eq_true rfl)) rfl rfl ?_
                        refine sf_R_imulV pm_M92 (pc_q := 189) (pm_q92_1 (Nat.le_of_ble_eq_true rfl)) rfl B11781 sf_k4 (by decide) (by decide) (by decide) e11802 ?_
                        refine pm_R_op pm_M92 (pc_q := 190) (st_q := [.int 2, .int z11801, .ref (lo + 3), .ref 33]) (pm_q92_1 (Nat.le_of_ble_eq_true rfl)) rfl rfl ?_
                        refine sf_R_iaddV pm_M92 (pc_q := 191) (pm_q92_1 (Nat.le_of_ble_eq_true rfl)) rfl B11803 sf_k2 (by decide) (by decide) e11805 ?_
                        have q11936 := cl_in4 (n := rc11756) (Nat.le_trans h11764 (by decide)) (Int32.not_le.mp c11777) (cl_aux6 _ _ _ e11802 e11805) B11781 (by decide) (by decide)
                        refine pm_R_iald pm_M92 (pc_q := 192) (v := z11807) (pm_q92_1 (Nat.le_of_ble_eq_true rfl)) (T11928.im kq11776.2.2.1 (by decide) (by decide) eE11770) (T11928.al kq11776.2.2.1 (by decide)) q11936.1 ez11808 rfl ?_
                        refine pm_R_lo pm_M92 (pc_q := 194) (pm_q92_1 (Nat.le_of_ble_eq_true rfl)) rfl rfl ?_
                        refine pm_R_op pm_M92 (pc_q := 195) (st_q := [.int 1, .int x9_8826, .int z11807, .ref 33]) (pm_q92_1 (Nat.le_of_ble_eq_true rfl)) rfl rfl ?_
                        refine sf_R_iaddV pm_M92 (pc_q := 196) (pm_q92_1 (Nat.le_of_ble_eq_true rfl)) rfl B8829 sf_k1 (by decide) (by decide) e11784 ?_
                        refine pm_R_lo pm_M92 (pc_q := 197) (pm_q92_1 (Nat.le_of_ble_eq_true rfl)) rfl rfl ?_
                        refine pm_R_lo pm_M92 (pc_q := 199) (pm_q92_1 (Nat.le_of_ble_eq_true rfl)) rfl rfl ?_
                        refine pm_R_br pm_M92 (pc_q := 202) (st_q := [.int a2, .int z11783, .int z11807, .ref 33]) (pm_q92_1 (Nat.le_of_ble_eq_true rfl)) rfl ?_
                        refine pm_R_lo pm_M92 (pc_q := 204) (pm_q92_1 (Nat.le_of_ble_eq_true rfl)) rfl rfl ?_
                        refine pm_R_br pm_M92 (pc_q := 212) (pm_q92_1 (Nat.le_of_ble_eq_true rfl)) rfl ?_
                        refine pm_R_lo pm_M92 (pc_q := 214) (pm_q92_1 (Nat.le_of_ble_eq_true rfl)) rfl rfl ?_
                        refine pm_R_op pm_M92 (pc_q := 215) (st_q := [.int 1, .int 8, .long y7_11755, .int a2, .int z11783, .int z11807, .ref 33]) (pm_q92_1 (Nat.le_of_ble_eq_true rfl)) rfl rfl ?_
                        refine pm_R_op pm_M92 (pc_q := 216) (st_q := [.int 9, .long y7_11755, .int a2, .int z11783, .int z11807, .ref 33]) (pm_q92_1 (Nat.le_of_ble_eq_true rfl)) rfl rfl ?_
                        refine pm_R_cv pm_M92 (pc_q := 219) (a := 33) (ra := [.int 9, .long y7_11755, .int a2, .int z11783, .int z11807]) (rest := []) (ls_q := [.ref 33, .int z11807, .int z11783, .int a2, .long y7_11755, pm_no, .int 9, pm_no, pm_no, pm_no, pm_no, pm_no, pm_no, pm_no, pm_no, pm_no, pm_no, pm_no]) (pm_q92_1 (Nat.le_of_ble_eq_true rfl)) rfl (Or.inl rfl) pm_M92 T11928.e33 rfl (by decide) (T11928.lt (by decide)) rfl rfl (Nat.le_of_ble_eq_true rfl) rfl rfl ?_
                        refine cl_c92_9 (d := d + 0) G T11928 B11809 (sf_weak B11785 (by decide) (by decide)) (sf_weak B20 (by decide) (by decide)) ol orr eE5 (Int32.lt_iff_toInt_lt.mpr (cl_aux15 _ _ _ _ e11784 (Int32.lt_iff_toInt_lt.mp (Int32.not_le.mp c8827)) (Int32.lt_iff_toInt_lt.mp P2))) P2 (fun r11937 m11939 h11940 T11941 F11942 W11943 => ?_)
                        have F11944 := F11931.trans (N := 0) (S := 0) F11942 (by decide) (by decide) (by decide)
                        have W11945 : rf_W [14, 15] m m11939 := W11932.trans W11943 (by decide)
                        show pm_R _ 92 219 [.ref 33, .int a0, .int a1, .int a2, .long a3, pm_no, .int 8, .long y7_11755, pm_no, .int x9_8826, .int x10_11755, .long z11814, pm_no, .long 0, pm_no, .int 1, .int r11924, pm_no] [.int r11937] _ _
                        refine pm_R_lo pm_M92 (pc_q := 221) (ls_q := [.ref 33, .int a0, .int a1, .int a2, .long a3, pm_no, .int 8, .long y7_11755, pm_no, .int x9_8826, .int x10_11755, .long z11814, pm_no, .long 0, pm_no, .int 1, .int r11924, .int r11937]) (st_q := []) (pm_q92_2 (Nat.le_of_ble_eq_true rfl)) rfl rfl ?_
                        refine pm_R_lo pm_M92 (pc_q := 222) (pm_q92_2 (Nat.le_of_ble_eq_true rfl)) rfl rfl ?_
                        refine pm_R_lo pm_M92 (pc_q := 224) (pm_q92_2 (Nat.le_of_ble_eq_true rfl)) rfl rfl ?_
                        refine cl_R_put33 G pm_M92 T11941 (k := 14) (pc_q := 227) (pm_q92_2 (Nat.le_of_ble_eq_true rfl)) rfl rfl (by decide) rfl rfl (sf_any _) rfl rfl rfl rfl rfl (fun h11946 m11949 em11950 T11947 F11948 => ?_)
                        have F11951 := F11948.cl (ck := ck) T11941.1
                        have F11952 := F11944.trans (N := 0) (S := 0) F11951 (by decide) (by decide) (by decide)
                        have B11953 : sf_B 0 9 (m11949 14) := by rw [em11950]; exact B11781
                        have ek11954 : (m11949 14).toInt = (x10_11755).toInt := by rw [em11950]; rfl
                        have W11955 : rf_W [14, 15] m m11949 := by rw [em11950]; exact W11945.put (by decide)
                        refine pm_R_lo pm_M92 (pc_q := 228) (pm_q92_2 (Nat.le_of_ble_eq_true rfl)) rfl rfl ?_
                        refine pm_R_lo pm_M92 (pc_q := 230) (pm_q92_2 (Nat.le_of_ble_eq_true rfl)) rfl rfl ?_
                        refine pm_R_op pm_M92 (pc_q := 231) (st_q := [.int 1, .int x9_8826, .ref 33]) (pm_q92_2 (Nat.le_of_ble_eq_true rfl)) rfl rfl ?_
                        refine sf_R_iaddV pm_M92 (pc_q := 232) (pm_q92_2 (Nat.le_of_ble_eq_true rfl)) rfl B8829 sf_k1 (by decide) (by decide) e11784 ?_
                        refine pm_R_lo pm_M92 (pc_q := 233) (pm_q92_2 (Nat.le_of_ble_eq_true rfl)) rfl rfl ?_
                        refine sf_R_isub pm_M92 (pc_q := 234) (pm_q92_2 (Nat.le_of_ble_eq_true rfl)) rfl B11785 B19 (by decide) (by decide) (fun z11956 e11957 B11958 => ?_)
                        refine cl_R_put33 G pm_M92 T11947 (k := 15) (pc_q := 237) (pm_q92_2 (Nat.le_of_ble_eq_true rfl)) rfl rfl (by decide) rfl rfl (sf_any _) rfl rfl rfl rfl rfl (fun h11959 m11962 em11963 T11960 F11961 => ?_)
                        have F11964 := F11961.cl (ck := ck) T11947.1
                        have F11965 := F11952.trans (N := 0) (S := 0) F11964 (by decide) (by decide) (by decide)
                        have B11966 : sf_B 0 9 (m11962 14) := by rw [em11963]; exact B11953
                        have ek11967 : (m11962 14).toInt = (x10_11755).toInt := by rw [em11963]; exact ek11954
                        have B11968 : sf_B (-9) 11 (m11962 15) := by rw [em11963]; exact B11958
                        have ek11969 : (m11962 15).toInt = (z11956).toInt := by rw [em11963]; rfl
                        have W11970 : rf_W [14, 15] m m11962 := by rw [em11963]; exact W11955.put (by decide)
                        refine pm_R_lo pm_M92 (pc_q := 238) (pm_q92_2 (Nat.le_of_ble_eq_true rfl)) rfl rfl ?_
                        refine pm_R_get pm_M92 (pc_q := 241) (v := .ref lo) (pm_q92_2 (Nat.le_of_ble_eq_true rfl)) rfl T11960.e33 (by decide) (T11960.lt (by decide)) (by show some (va_rf (o 1)) = _; rw [ol]; rfl) rfl ?_
                        refine pm_R_get pm_M92 (pc_q := 244) (v := .ref (lo + 3)) (pm_q92_2 (Nat.le_of_ble_eq_true rfl)) rfl (T11960.im hkl (by decide) (by decide) eE11767) (G.ge hkl (by decide)) (T11960.al hkl (by decide)) rfl rfl ?_
                        refine pm_R_lo pm_M92 (pc_q := 246) (pm_q92_2 (Nat.le_of_ble_eq_true rfl)) rfl rfl ?_
                        refine pm_R_op pm_M92 (pc_q := 247) (st_q := [.int 4, .int x10_11755, .ref (lo + 3)]) (pm_q92_2 (Nat.le_of_ble_eq_true rfl)) rfl rfl ?_
                        refine sf_R_imulV pm_M92 (pc_q := 248) (pm_q92_2 (Nat.le_of_ble_eq_true rfl)) rfl B11781 sf_k4 (by decide) (by decide) (by decide) e11802 ?_
                        refine pm_R_op pm_M92 (pc_q := 249) (st_q := [.int 3, .int z11801, .ref (lo + 3)]) (pm_q92_2 (Nat.le_of_ble_eq_true rfl)) rfl rfl ?_
                        refine sf_R_iadd pm_M92 (pc_q := 250) (pm_q92_2 (Nat.le_of_ble_eq_true rfl)) rfl B11803 sf_k3 (by decide) (by decide) (fun z11971 e11972 B11973 => ?_)
                        have q11977 := cl_in4 (n := rc11756) (Nat.le_trans h11764 (by decide)) (Int32.not_le.mp c11777) (cl_aux9 _ _ _ e11802 e11972) B11781 (by decide) (by decide)
                        obtain ⟨z11974, ez11975⟩ : ∃ y, fr11761 (Int32.toNatClampNeg z11971) = y := ⟨_, rfl⟩
                        refine pm_R_iald pm_M92 (pc_q := 251) (v := z11974) (pm_q92_2 (Nat.le_of_ble_eq_true rfl)) (T11960.im kq11776.2.2.1 (by decide) (by decide) eE11770) (T11960.al kq11776.2.2.1 (by decide)) q11977.1 ez11975 rfl ?_
                        refine pm_R_lo pm_M92 (pc_q := 253) (pm_q92_2 (Nat.le_of_ble_eq_true rfl)) rfl rfl ?_
                        refine pm_R_lo pm_M92 (pc_q := 255) (pm_q92_2 (Nat.le_of_ble_eq_true rfl)) rfl rfl ?_
                        refine pm_R_cs pm_M92 (pc_q := 258) (ra := [.int r11937, .int r11924, .int z11974]) (rest := []) (ls_q := [.int z11974, .int r11924, .int r11937]) (pm_q92_2 (Nat.le_of_ble_eq_true rfl)) rfl (Or.inr rfl) pm_M88 rfl rfl (Nat.le_of_ble_eq_true rfl) rfl rfl ?_
                        refine cl_c88_u (d := d + 6)  (fun r11978 => ?_)
                        show pm_R _ 92 258 [.ref 33, .int a0, .int a1, .int a2, .long a3, pm_no, .int 8, .long y7_11755, pm_no, .int x9_8826, .int x10_11755, .long z11814, pm_no, .long 0, pm_no, .int 1, .int r11924, .int r11937] [.int r11978] _ _
                        exact pm_R_ret pm_M92 (r := some (.int r11978)) (pm_q92_2 (Nat.le_of_ble_eq_true rfl)) (pm_ret_i _) (K r11978 m11962 h11959 T11960 F11965 W11970)
                    · have B11985 : sf_B 0 2147483647 z11835 := sf_leR (Int32.not_lt.mp c11837) sf_k0 (sf_any z11835)
                      have k11986 := lf_ge e11836 B11985 (by decide)
                      have B11987 : lf_B 0 9223372036854775807 y7_11755 := lf_geB k11986 (⟨by decide, by decide⟩ : lf_B 0 0 0) (lf_any _)
                      refine pm_R_lo pm_M92 (pc_q := 113) rfl rfl rfl ?_
                      refine pm_R_ldc2 pm_M92 (pc_q := 116) (pm_q92_1 (Nat.le_of_ble_eq_true rfl)) rfl rfl ?_
                      refine sf_R_lcmp pm_M92 (pc_q := 117) (pm_q92_1 (Nat.le_of_ble_eq_true rfl)) rfl (fun z11988 e11989 => ?_)
                      have B11990 : sf_B 1 2147483647 z11988 := lf_cmpGt e11989 (⟨by decide, by decide⟩ : lf_B 0 0 0) (⟨by decide, by decide⟩ : lf_B (-1) (-1) (-1)) (by decide)
                      refine pm_R_ifc pm_M92 (t := 259) (pc_q := 120) (pm_q92_1 (Nat.le_of_ble_eq_true rfl)) rfl rfl (fun c11991 => ?_) (fun c11991 => absurd (Classical.not_not.mp c11991) (sf_neq1 B11990 sf_k0 (by decide)))
                      have k11992 := sf_lneC e11989 c11991
                      refine pm_R_lo pm_M92 (pc_q := 261) (pm_q92_2 (Nat.le_of_ble_eq_true rfl)) rfl rfl ?_
                      refine pm_R_lo pm_M92 (pc_q := 263) (pm_q92_2 (Nat.le_of_ble_eq_true rfl)) rfl rfl ?_
                      refine sf_R_lsubN pm_M92 (pc_q := 264) (pm_q92_2 (Nat.le_of_ble_eq_true rfl)) rfl B11987 (⟨by decide, by decide⟩ : lf_B 0 0 0) (by decide) k11986 (fun z11993 e11994 B11995 => ?_)
                      refine pm_R_lo pm_M92 (pc_q := 266) (ls_q := [.ref 33, .int a0, .int a1, .int a2, .long a3, pm_no, .int 8, .long z11993, pm_no, .int x9_8826, .int x10_11755, .long z11814, pm_no, .long 0, pm_no, pm_no, pm_no, pm_no]) (st_q := []) (pm_q92_2 (Nat.le_of_ble_eq_true rfl)) rfl rfl ?_
                      refine sf_R_iinc pm_M92 (pc_q := 269) (ls_q := fun z => [.ref 33, .int a0, .int a1, .int a2, .long a3, pm_no, .int 8, .long z11993, pm_no, .int x9_8826, .int z, .long z11814, pm_no, .long 0, pm_no, pm_no, pm_no, pm_no]) (pm_q92_2 (Nat.le_of_ble_eq_true rfl)) B11781 rfl (by decide) (by decide) (by decide) (fun _ => rfl) rfl (fun z11996 e11997 B11998 => ?_)
                      show pm_R _ 92 269 [.ref 33, .int a0, .int a1, .int a2, .long a3, pm_no, .int 8, .long z11993, pm_no, .int x9_8826, .int z11996, .long z11814, pm_no, .long 0, pm_no, pm_no, pm_no, pm_no] [] _ _
                      refine pm_R_br pm_M92 (pc_q := 37) (pm_q92_2 (Nat.le_of_ble_eq_true rfl)) rfl ?_
                      exact ih_11755 _ (sf_up hN_11755 e11997 B11781 (by decide) (by decide)) z11996 z11993 (.long z11814) (pm_no) (.long 0) (pm_no) (sf_weak B11998 (by decide) (by decide)) rfl rfl rfl
                · refine pm_R_lo pm_M92 (pc_q := 77) rfl rfl rfl ?_
                  refine pm_R_lo pm_M92 (pc_q := 79) rfl rfl rfl ?_
                  refine pm_R_lo pm_M92 (pc_q := 80) rfl rfl rfl ?_
                  refine pm_R_lo pm_M92 (pc_q := 82) rfl rfl rfl ?_
                  refine pm_R_cv pm_M92 (pc_q := 85) (a := 33) (ra := [.int x9_8826, .int a1, .int x10_11755]) (rest := []) (ls_q := [.ref 33, .int x10_11755, .int a1, .int x9_8826]) rfl rfl (Or.inl rfl) pm_M75 T.e33 rfl (by decide) (T.lt (by decide)) rfl rfl (Nat.le_of_ble_eq_true rfl) rfl rfl ?_
                  refine pm_R_lo pm_M75 (pc_q := 1) rfl rfl rfl ?_
                  refine pm_R_get pm_M75 (pc_q := 4) (v := .ref 34) rfl rfl T.e33 (by decide) (T.lt (by decide)) rfl rfl ?_
                  refine pm_R_lo pm_M75 (pc_q := 5) rfl rfl rfl ?_
                  refine pm_R_lo pm_M75 (pc_q := 6) rfl rfl rfl ?_
                  refine pm_R_cs pm_M75 (pc_q := 9) (ra := [.int x9_8826, .int a1]) (rest := [.ref 34]) (ls_q := [.int a1, .int x9_8826]) rfl rfl (Or.inr rfl) pm_M73 rfl rfl (Nat.le_of_ble_eq_true rfl) rfl rfl ?_
                  refine pm_R_lo pm_M73 (pc_q := 1) rfl rfl rfl ?_
                  refine pm_R_lo pm_M73 (pc_q := 2) rfl rfl rfl ?_
                  refine pm_R_op pm_M73 (pc_q := 3) (st_q := [.int 1, .int x9_8826, .int x9_8826]) rfl rfl rfl ?_
                  refine sf_R_iaddV pm_M73 (pc_q := 4) rfl rfl B8829 sf_k1 (by decide) (by decide) e11784 ?_
                  refine sf_R_imul pm_M73 (pc_q := 5) rfl rfl B8829 B11785 (by decide) (by decide) (by decide) (fun z11999 e12000 B12001 => ?_)
                  refine pm_R_op pm_M73 (pc_q := 6) (st_q := [.int 2, .int z11999]) rfl rfl rfl ?_
                  refine sf_R_idiv pm_M73 (pc_q := 7) rfl rfl B12001 sf_k2 (by decide) (by decide) (fun z12002 e12003 B12004 => ?_)
                  refine pm_R_lo pm_M73 (pc_q := 8) rfl rfl rfl ?_
                  refine sf_R_iadd pm_M73 (pc_q := 9) rfl rfl B12004 B19 (by decide) (by decide) (fun z12005 e12006 B12007 => ?_)
                  refine pm_R_ret pm_M73 (r := some (.int z12005)) rfl (pm_ret_i _) ?_
                  show pm_R _ 75 9 [.ref 33, .int x10_11755, .int a1, .int x9_8826] [.int z12005, .ref 34] _ _
                  refine pm_R_op pm_M75 (pc_q := 11) (st_q := [.int 6, .int z12005, .ref 34]) rfl rfl rfl ?_
                  refine sf_R_imul pm_M75 (pc_q := 12) rfl rfl B12007 sf_k6 (by decide) (by decide) (by decide) (fun z12008 e12009 B12010 => ?_)
                  refine pm_R_lo pm_M75 (pc_q := 13) rfl rfl rfl ?_
                  refine pm_R_get pm_M75 (pc_q := 16) (v := .ref lo) rfl rfl T.e33 (by decide) (T.lt (by decide)) (by show some (va_rf (o 1)) = _; rw [ol]; rfl) rfl ?_
                  refine pm_R_get pm_M75 (pc_q := 19) (v := .ref (lo + 3)) rfl rfl (T.im hkl (by decide) (by decide) eE11767) (G.ge hkl (by decide)) (T.al hkl (by decide)) rfl rfl ?_
                  refine pm_R_lo pm_M75 (pc_q := 20) rfl rfl rfl ?_
                  refine pm_R_op pm_M75 (pc_q := 21) (st_q := [.int 4, .int x10_11755, .ref (lo + 3), .int z12008, .ref 34]) rfl rfl rfl ?_
                  refine sf_R_imulV pm_M75 (pc_q := 22) rfl rfl B11781 sf_k4 (by decide) (by decide) (by decide) e11802 ?_
                  refine pm_R_op pm_M75 (pc_q := 23) (st_q := [.int 1, .int z11801, .ref (lo + 3), .int z12008, .ref 34]) rfl rfl rfl ?_
                  refine sf_R_iadd pm_M75 (pc_q := 24) rfl rfl B11803 sf_k1 (by decide) (by decide) (fun z12011 e12012 B12013 => ?_)
                  have q12017 := cl_in4 (n := rc11756) (Nat.le_trans h11764 (by decide)) (Int32.not_le.mp c11777) (cl_aux7 _ _ _ e11802 e12012) B11781 (by decide) (by decide)
                  obtain ⟨z12014, ez12015⟩ : ∃ y, fr11761 (Int32.toNatClampNeg z12011) = y := ⟨_, rfl⟩
                  have B12016 : sf_B 0 5 z12014 := ez12015 ▸ q12017.2.2 ▸ (b11773 _ q12017.2.1).2.1
                  refine pm_R_iald pm_M75 (pc_q := 25) (v := z12014) rfl (T.im kq11776.2.2.1 (by decide) (by decide) eE11770) (T.al kq11776.2.2.1 (by decide)) q12017.1 ez12015 rfl ?_
                  refine sf_R_iadd pm_M75 (pc_q := 26) rfl rfl B12010 B12016 (by decide) (by decide) (fun z12018 e12019 B12020 => ?_)
                  obtain ⟨z12021, ez12022⟩ : ∃ y, f11817 (Int32.toNatClampNeg z12018) = y := ⟨_, rfl⟩
                  refine pm_R_lald pm_M75 (pc_q := 27) (v := z12021) rfl e11818 (by decide) (T.lt (by decide)) (sf_in B12020 (by decide) (by decide)) ez12022 rfl ?_
                  refine pm_R_ret pm_M75 (r := some (.long z12021)) rfl rfl ?_
                  show pm_R _ 92 85 [.ref 33, .int a0, .int a1, .int a2, .long a3, pm_no, .int 8, .long y7_11755, pm_no, .int x9_8826, .int x10_11755, .long z11814, pm_no, g13_11755, g14_11755, pm_no, pm_no, pm_no] [.long z12021] _ _
                  refine pm_R_lo pm_M92 (pc_q := 87) rfl rfl rfl ?_
                  refine pm_R_cs pm_M92 (pc_q := 90) (ra := [.long z11814, .long z12021]) (rest := []) (ls_q := [.long z12021, pm_no, .long z11814, pm_no]) rfl rfl (Or.inr rfl) pm_M77 rfl rfl (Nat.le_of_ble_eq_true rfl) rfl rfl ?_
                  refine cl_c77 (d := d + 6)  (fun r12024 => ?_)
                  show pm_R _ 92 90 [.ref 33, .int a0, .int a1, .int a2, .long a3, pm_no, .int 8, .long y7_11755, pm_no, .int x9_8826, .int x10_11755, .long z11814, pm_no, g13_11755, g14_11755, pm_no, pm_no, pm_no] [.long r12024] _ _
                  refine pm_R_br pm_M92 (pc_q := 94) rfl rfl ?_
                  refine pm_R_lo pm_M92 (pc_q := 96) (ls_q := [.ref 33, .int a0, .int a1, .int a2, .long a3, pm_no, .int 8, .long y7_11755, pm_no, .int x9_8826, .int x10_11755, .long z11814, pm_no, .long r12024, pm_no, pm_no, pm_no, pm_no]) (st_q := []) rfl rfl rfl ?_
                  refine pm_R_lo pm_M92 (pc_q := 98) rfl rfl rfl ?_
                  refine pm_R_op pm_M92 (pc_q := 99) (st_q := [.long 0, .long z11814]) rfl rfl rfl ?_
                  refine sf_R_lcmp pm_M92 (pc_q := 100) rfl rfl (fun z12031 e12032 => ?_)
                  refine pm_R_ifc pm_M92 (t := 259) (pc_q := 103) rfl rfl rfl (fun c12033 => ?_) (fun c12033 => ?_)
                  · have B12034 : sf_B 0 0 z12031 := sf_eqL c12033 sf_k0
                    have B12035 : lf_B 0 0 z11814 := lf_eqB e12032 B12034 (⟨by decide, by decide⟩ : lf_B 0 0 0)
                    refine pm_R_lo pm_M92 (pc_q := 261) (pm_q92_2 (Nat.le_of_ble_eq_true rfl)) rfl rfl ?_
                    refine pm_R_lo pm_M92 (pc_q := 263) (pm_q92_2 (Nat.le_of_ble_eq_true rfl)) rfl rfl ?_
                    refine sf_R_lany pm_M92 (pc_q := 264) (st := []) (pm_q92_2 (Nat.le_of_ble_eq_true rfl)) rfl rfl (fun z12036 => ?_)
                    refine pm_R_lo pm_M92 (pc_q := 266) (ls_q := [.ref 33, .int a0, .int a1, .int a2, .long a3, pm_no, .int 8, .long z12036, pm_no, .int x9_8826, .int x10_11755, .long z11814, pm_no, .long r12024, pm_no, pm_no, pm_no, pm_no]) (st_q := []) (pm_q92_2 (Nat.le_of_ble_eq_true rfl)) rfl rfl ?_
                    refine sf_R_iinc pm_M92 (pc_q := 269) (ls_q := fun z => [.ref 33, .int a0, .int a1, .int a2, .long a3, pm_no, .int 8, .long z12036, pm_no, .int x9_8826, .int z, .long z11814, pm_no, .long r12024, pm_no, pm_no, pm_no, pm_no]) (pm_q92_2 (Nat.le_of_ble_eq_true rfl)) B11781 rfl (by decide) (by decide) (by decide) (fun _ => rfl) rfl (fun z12037 e12038 B12039 => ?_)
                    show pm_R _ 92 269 [.ref 33, .int a0, .int a1, .int a2, .long a3, pm_no, .int 8, .long z12036, pm_no, .int x9_8826, .int z12037, .long z11814, pm_no, .long r12024, pm_no, pm_no, pm_no, pm_no] [] _ _
                    refine pm_R_br pm_M92 (pc_q := 37) (pm_q92_2 (Nat.le_of_ble_eq_true rfl)) rfl ?_
                    exact ih_11755 _ (sf_up hN_11755 e12038 B11781 (by decide) (by decide)) z12037 z12036 (.long z11814) (pm_no) (.long r12024) (pm_no) (sf_weak B12039 (by decide) (by decide)) rfl rfl rfl
                  · have k12040 := sf_lneC e12032 c12033
                    refine pm_R_lo pm_M92 (pc_q := 105) rfl rfl rfl ?_
                    refine pm_R_lo pm_M92 (pc_q := 107) rfl rfl rfl ?_
                    refine sf_R_lcmp pm_M92 (pc_q := 108) rfl rfl (fun z12041 e12042 => ?_)
                    refine pm_R_ifc pm_M92 (t := 120) (pc_q := 111) rfl rfl rfl (fun c12043 => ?_) (fun c12043 => ?_)
                    · have B12044 : sf_B (-2147483648) (-1) z12041 := sf_ltL c12043 (sf_any z12041) sf_k0
                      have k12045 := lf_lt e12042 B12044 (by decide)
                      have k12046 := sf_lneB e12042 B12044 (by decide)
                      refine pm_R_lo pm_M92 (pc_q := 122) (pm_q92_1 (Nat.le_of_ble_eq_true rfl)) rfl rfl ?_
                      refine pm_R_ldc2 pm_M92 (pc_q := 125) (pm_q92_1 (Nat.le_of_ble_eq_true rfl)) rfl rfl ?_
                      refine sf_R_lcmp pm_M92 (pc_q := 126) (pm_q92_1 (Nat.le_of_ble_eq_true rfl)) rfl (fun z12047 e12048 => ?_)
                      refine pm_R_ifc pm_M92 (t := 133) (pc_q := 129) (pm_q92_1 (Nat.le_of_ble_eq_true rfl)) rfl rfl (fun c12049 => ?_) (fun c12049 => ?_)
                      · have k12050 := sf_lneC e12048 c12049
                        refine pm_R_op pm_M92 (pc_q := 134) (st_q := [.int 0]) (pm_q92_1 (Nat.le_of_ble_eq_true rfl)) rfl rfl ?_
                        refine pm_R_lo pm_M92 (pc_q := 136) (ls_q := [.ref 33, .int a0, .int a1, .int a2, .long a3, pm_no, .int 8, .long y7_11755, pm_no, .int x9_8826, .int x10_11755, .long z11814, pm_no, .long r12024, pm_no, .int 0, pm_no, pm_no]) (st_q := []) (pm_q92_1 (Nat.le_of_ble_eq_true rfl)) rfl rfl ?_
                        refine pm_R_lo pm_M92 (pc_q := 137) (pm_q92_1 (Nat.le_of_ble_eq_true rfl)) rfl rfl ?_
                        refine pm_R_lo pm_M92 (pc_q := 138) (pm_q92_1 (Nat.le_of_ble_eq_true rfl)) rfl rfl ?_
                        refine pm_R_get pm_M92 (pc_q := 141) (v := .ref lo) (pm_q92_1 (Nat.le_of_ble_eq_true rfl)) rfl T.e33 (by decide) (T.lt (by decide)) (by show some (va_rf (o 1)) = _; rw [ol]; rfl) rfl ?_
                        refine pm_R_get pm_M92 (pc_q := 144) (v := .ref (lo + 3)) (pm_q92_1 (Nat.le_of_ble_eq_true rfl)) rfl (T.im hkl (by decide) (by decide) eE11767) (G.ge hkl (by decide)) (T.al hkl (by decide)) rfl rfl ?_
                        refine pm_R_lo pm_M92 (pc_q := 146) (pm_q92_1 (Nat.le_of_ble_eq_true rfl)) rfl rfl ?_
                        refine pm_R_op pm_M92 (pc_q := 147) (st_q := [.int 4, .int x10_11755, .ref (lo + 3), .ref 33]) (pm_q92_1 (Nat.le_of_ble_eq_true rfl)) rfl rfl ?_
                        refine sf_R_imulV pm_M92 (pc_q := 148) (pm_q92_1 (Nat.le_of_ble_eq_true rfl)) rfl B11781 sf_k4 (by decide) (by decide) (by decide) e11802 ?_
                        refine pm_R_op pm_M92 (pc_q := 149) (st_q := [.int 1, .int z11801, .ref (lo + 3), .ref 33]) (pm_q92_1 (Nat.le_of_ble_eq_true rfl)) rfl rfl ?_
                        refine sf_R_iaddV pm_M92 (pc_q := 150) (pm_q92_1 (Nat.le_of_ble_eq_true rfl)) rfl B11803 sf_k1 (by decide) (by decide) e12012 ?_
                        have q12054 := cl_in4 (n := rc11756) (Nat.le_trans h11764 (by decide)) (Int32.not_le.mp c11777) (cl_aux7 _ _ _ e11802 e12012) B11781 (by decide) (by decide)
                        refine pm_R_iald pm_M92 (pc_q := 151) (v := z12014) (pm_q92_1 (Nat.le_of_ble_eq_true rfl)) (T.im kq11776.2.2.1 (by decide) (by decide) eE11770) (T.al kq11776.2.2.1 (by decide)) q12054.1 ez12015 rfl ?_
                        refine pm_R_lo pm_M92 (pc_q := 152) (pm_q92_1 (Nat.le_of_ble_eq_true rfl)) rfl rfl ?_
                        refine pm_R_lo pm_M92 (pc_q := 154) (pm_q92_1 (Nat.le_of_ble_eq_true rfl)) rfl rfl ?_
                        refine pm_R_lo pm_M92 (pc_q := 156) (pm_q92_1 (Nat.le_of_ble_eq_true rfl)) rfl rfl ?_
                        refine pm_R_br pm_M92 (pc_q := 163) (st_q := [.int x9_8826, .int a1, .int z12014, .ref 33]) (pm_q92_1 (Nat.le_of_ble_eq_true rfl)) rfl ?_
                        refine pm_R_lo pm_M92 (pc_q := 165) (pm_q92_1 (Nat.le_of_ble_eq_true rfl)) rfl rfl ?_
                        refine pm_R_lo pm_M92 (pc_q := 167) (pm_q92_1 (Nat.le_of_ble_eq_true rfl)) rfl rfl ?_
                        refine sf_R_ldivA pm_M92 (pc_q := 168) (pm_q92_1 (Nat.le_of_ble_eq_true rfl)) rfl k12040 (fun z12055 => ?_)
                        refine pm_R_lo pm_M92 (pc_q := 170) (pm_q92_1 (Nat.le_of_ble_eq_true rfl)) rfl rfl ?_
                        refine pm_R_op pm_M92 (pc_q := 171) (st_q := [.int 1, .int 8, .long z12055, .int x9_8826, .int a1, .int z12014, .ref 33]) (pm_q92_1 (Nat.le_of_ble_eq_true rfl)) rfl rfl ?_
                        refine pm_R_op pm_M92 (pc_q := 172) (st_q := [.int 9, .long z12055, .int x9_8826, .int a1, .int z12014, .ref 33]) (pm_q92_1 (Nat.le_of_ble_eq_true rfl)) rfl rfl ?_
                        refine pm_R_cv pm_M92 (pc_q := 175) (a := 33) (ra := [.int 9, .long z12055, .int x9_8826, .int a1, .int z12014]) (rest := []) (ls_q := [.ref 33, .int z12014, .int a1, .int x9_8826, .long z12055, pm_no, .int 9, pm_no, pm_no, pm_no, pm_no, pm_no, pm_no, pm_no, pm_no, pm_no, pm_no, pm_no]) (pm_q92_1 (Nat.le_of_ble_eq_true rfl)) rfl (Or.inl rfl) pm_M92 T.e33 rfl (by decide) (T.lt (by decide)) rfl rfl (Nat.le_of_ble_eq_true rfl) rfl rfl ?_
                        refine cl_c92_9 (d := d + 0) G T B12016 (sf_weak B19 (by decide) (by decide)) (sf_weak B8829 (by decide) (by decide)) ol orr eE5 P1 (Int32.lt_iff_toInt_lt.mpr (cl_aux14 _ _ _ (Int32.lt_iff_toInt_lt.mp (Int32.not_le.mp c8827)) (Int32.lt_iff_toInt_lt.mp P2))) (fun r12056 m12058 h12059 T12060 F12061 W12062 => ?_)
                        have F12063 := (cl_F.refl (ck := ck) (A := [33, 35]) (n := 0) (s := 0) T.1).trans (N := 0) (S := 0) F12061 (by decide) (by decide) (by decide)
                        have W12064 : rf_W [14, 15] m m12058 := (rf_W.refl [14, 15] m).trans W12062 (by decide)
                        show pm_R _ 92 175 [.ref 33, .int a0, .int a1, .int a2, .long a3, pm_no, .int 8, .long y7_11755, pm_no, .int x9_8826, .int x10_11755, .long z11814, pm_no, .long r12024, pm_no, .int 0, pm_no, pm_no] [.int r12056] _ _
                        refine pm_R_lo pm_M92 (pc_q := 177) (ls_q := [.ref 33, .int a0, .int a1, .int a2, .long a3, pm_no, .int 8, .long y7_11755, pm_no, .int x9_8826, .int x10_11755, .long z11814, pm_no, .long r12024, pm_no, .int 0, .int r12056, pm_no]) (st_q := []) (pm_q92_1 (Nat.le_of_ble_eq_true rfl)) rfl rfl ?_
                        refine pm_R_lo pm_M92 (pc_q := 178) (pm_q92_1 (Nat.le_of_ble_eq_true rfl)) rfl rfl ?_
                        refine pm_R_lo pm_M92 (pc_q := 179) (pm_q92_1 (Nat.le_of_ble_eq_true rfl)) rfl rfl ?_
                        refine pm_R_get pm_M92 (pc_q := 182) (v := .ref lo) (pm_q92_1 (Nat.le_of_ble_eq_true rfl)) rfl T12060.e33 (by decide) (T12060.lt (by decide)) (by show some (va_rf (o 1)) = _; rw [ol]; rfl) rfl ?_
                        refine pm_R_get pm_M92 (pc_q := 185) (v := .ref (lo + 3)) (pm_q92_1 (Nat.le_of_ble_eq_true rfl)) rfl (T12060.im hkl (by decide) (by decide) eE11767) (G.ge hkl (by decide)) (T12060.al hkl (by decide)) rfl rfl ?_
                        refine pm_R_lo pm_M92 (pc_q := 187) (pm_q92_1 (Nat.le_of_ble_eq_true rfl)) rfl rfl ?_
                        refine pm_R_op pm_M92 (pc_q := 188) (st_q := [.int 4, .int x10_11755, .ref (lo + 3), .ref 33]) (pm_q92_1 (Nat.le_of_ble_eq_true rfl)) rfl rfl ?_
                        refine sf_R_imulV pm_M92 (pc_q := 189) (pm_q92_1 (Nat.le_of_ble_eq_true rfl)) rfl B11781 sf_k4 (by decide) (by decide) (by decide) e11802 ?_
                        refine pm_R_op pm_M92 (pc_q := 190) (st_q := [.int 2, .int z11801, .ref (lo + 3), .ref 33]) (pm_q92_1 (Nat.le_of_ble_eq_true rfl)) rfl rfl ?_
                        refine sf_R_iaddV pm_M92 (pc_q := 191) (pm_q92_1 (Nat.le_of_ble_eq_true rfl)) rfl B11803 sf_k2 (by decide) (by decide) e11805 ?_
                        have q12068 := cl_in4 (n := rc11756) (Nat.le_trans h11764 (by decide)) (Int32.not_le.mp c11777) (cl_aux6 _ _ _ e11802 e11805) B11781 (by decide) (by decide)
                        refine pm_R_iald pm_M92 (pc_q := 192) (v := z11807) (pm_q92_1 (Nat.le_of_ble_eq_true rfl)) (T12060.im kq11776.2.2.1 (by decide) (by decide) eE11770) (T12060.al kq11776.2.2.1 (by decide)) q12068.1 ez11808 rfl ?_
                        refine pm_R_lo pm_M92 (pc_q := 194) (pm_q92_1 (Nat.le_of_ble_eq_true rfl)) rfl rfl ?_
                        refine pm_R_op pm_M92 (pc_q := 195) (st_q := [.int 1, .int x9_8826, .int z11807, .ref 33]) (pm_q92_1 (Nat.le_of_ble_eq_true rfl)) rfl rfl ?_
                        refine sf_R_iaddV pm_M92 (pc_q := 196) (pm_q92_1 (Nat.le_of_ble_eq_true rfl)) rfl B8829 sf_k1 (by decide) (by decide) e11784 ?_
                        refine pm_R_lo pm_M92 (pc_q := 197) (pm_q92_1 (Nat.le_of_ble_eq_true rfl)) rfl rfl ?_
                        refine pm_R_lo pm_M92 (pc_q := 199) (pm_q92_1 (Nat.le_of_ble_eq_true rfl)) rfl rfl ?_
                        refine pm_R_br pm_M92 (pc_q := 207) (st_q := [.int a2, .int z11783, .int z11807, .ref 33]) (pm_q92_1 (Nat.le_of_ble_eq_true rfl)) rfl ?_
                        refine pm_R_lo pm_M92 (pc_q := 209) (pm_q92_1 (Nat.le_of_ble_eq_true rfl)) rfl rfl ?_
                        refine pm_R_lo pm_M92 (pc_q := 211) (pm_q92_1 (Nat.le_of_ble_eq_true rfl)) rfl rfl ?_
                        refine sf_R_lremA pm_M92 (pc_q := 212) (pm_q92_1 (Nat.le_of_ble_eq_true rfl)) rfl k12040 (fun z12069 => ?_)
                        refine pm_R_lo pm_M92 (pc_q := 214) (pm_q92_1 (Nat.le_of_ble_eq_true rfl)) rfl rfl ?_
                        refine pm_R_op pm_M92 (pc_q := 215) (st_q := [.int 1, .int 8, .long z12069, .int a2, .int z11783, .int z11807, .ref 33]) (pm_q92_1 (Nat.le_of_ble_eq_true rfl)) rfl rfl ?_
                        refine pm_R_op pm_M92 (pc_q := 216) (st_q := [.int 9, .long z12069, .int a2, .int z11783, .int z11807, .ref 33]) (pm_q92_1 (Nat.le_of_ble_eq_true rfl)) rfl rfl ?_
                        refine pm_R_cv pm_M92 (pc_q := 219) (a := 33) (ra := [.int 9, .long z12069, .int a2, .int z11783, .int z11807]) (rest := []) (ls_q := [.ref 33, .int z11807, .int z11783, .int a2, .long z12069, pm_no, .int 9, pm_no, pm_no, pm_no, pm_no, pm_no, pm_no, pm_no, pm_no, pm_no, pm_no, pm_no]) (pm_q92_1 (Nat.le_of_ble_eq_true rfl)) rfl (Or.inl rfl) pm_M92 T12060.e33 rfl (by decide) (T12060.lt (by decide)) rfl rfl (Nat.le_of_ble_eq_true rfl) rfl rfl ?_
                        refine cl_c92_9 (d := d + 0) G T12060 B11809 (sf_weak B11785 (by decide) (by decide)) (sf_weak B20 (by decide) (by decide)) ol orr eE5 (Int32.lt_iff_toInt_lt.mpr (cl_aux15 _ _ _ _ e11784 (Int32.lt_iff_toInt_lt.mp (Int32.not_le.mp c8827)) (Int32.lt_iff_toInt_lt.mp P2))) P2 (fun r12070 m12072 h12073 T12074 F12075 W12076 => ?_)
                        have F12077 := F12063.trans (N := 0) (S := 0) F12075 (by decide) (by decide) (by decide)
                        have W12078 : rf_W [14, 15] m m12072 := W12064.trans W12076 (by decide)
                        show pm_R _ 92 219 [.ref 33, .int a0, .int a1, .int a2, .long a3, pm_no, .int 8, .long y7_11755, pm_no, .int x9_8826, .int x10_11755, .long z11814, pm_no, .long r12024, pm_no, .int 0, .int r12056, pm_no] [.int r12070] _ _
                        refine pm_R_lo pm_M92 (pc_q := 221) (ls_q := [.ref 33, .int a0, .int a1, .int a2, .long a3, pm_no, .int 8, .long y7_11755, pm_no, .int x9_8826, .int x10_11755, .long z11814, pm_no, .long r12024, pm_no, .int 0, .int r12056, .int r12070]) (st_q := []) (pm_q92_2 (Nat.le_of_ble_eq_true rfl)) rfl rfl ?_
                        refine pm_R_lo pm_M92 (pc_q := 222) (pm_q92_2 (Nat.le_of_ble_eq_true rfl)) rfl rfl ?_
                        refine pm_R_lo pm_M92 (pc_q := 224) (pm_q92_2 (Nat.le_of_ble_eq_true rfl)) rfl rfl ?_
                        refine cl_R_put33 G pm_M92 T12074 (k := 14) (pc_q := 227) (pm_q92_2 (Nat.le_of_ble_eq_true rfl)) rfl rfl (by decide) rfl rfl (sf_any _) rfl rfl rfl rfl rfl (fun h12079 m12082 em12083 T12080 F12081 => ?_)
                        have F12084 := F12081.cl (ck := ck) T12074.1
                        have F12085 := F12077.trans (N := 0) (S := 0) F12084 (by decide) (by decide) (by decide)
                        have B12086 : sf_B 0 9 (m12082 14) := by rw [em12083]; exact B11781
                        have ek12087 : (m12082 14).toInt = (x10_11755).toInt := by rw [em12083]; rfl
                        have W12088 : rf_W [14, 15] m m12082 := by rw [em12083]; exact W12078.put (by decide)
                        refine pm_R_lo pm_M92 (pc_q := 228) (pm_q92_2 (Nat.le_of_ble_eq_true rfl)) rfl rfl ?_
                        refine pm_R_lo pm_M92 (pc_q := 230) (pm_q92_2 (Nat.le_of_ble_eq_true rfl)) rfl rfl ?_
                        refine pm_R_op pm_M92 (pc_q := 231) (st_q := [.int 1, .int x9_8826, .ref 33]) (pm_q92_2 (Nat.le_of_ble_eq_true rfl)) rfl rfl ?_
                        refine sf_R_iaddV pm_M92 (pc_q := 232) (pm_q92_2 (Nat.le_of_ble_eq_true rfl)) rfl B8829 sf_k1 (by decide) (by decide) e11784 ?_
                        refine pm_R_lo pm_M92 (pc_q := 233) (pm_q92_2 (Nat.le_of_ble_eq_true rfl)) rfl rfl ?_
                        refine sf_R_isub pm_M92 (pc_q := 234) (pm_q92_2 (Nat.le_of_ble_eq_true rfl)) rfl B11785 B19 (by decide) (by decide) (fun z12089 e12090 B12091 => ?_)
                        refine cl_R_put33 G pm_M92 T12080 (k := 15) (pc_q := 237) (pm_q92_2 (Nat.le_of_ble_eq_true rfl)) rfl rfl (by decide) rfl rfl (sf_any _) rfl rfl rfl rfl rfl (fun h12092 m12095 em12096 T12093 F12094 => ?_)
                        have F12097 := F12094.cl (ck := ck) T12080.1
                        have F12098 := F12085.trans (N := 0) (S := 0) F12097 (by decide) (by decide) (by decide)
                        have B12099 : sf_B 0 9 (m12095 14) := by rw [em12096]; exact B12086
                        have ek12100 : (m12095 14).toInt = (x10_11755).toInt := by rw [em12096]; exact ek12087
                        have B12101 : sf_B (-9) 11 (m12095 15) := by rw [em12096]; exact B12091
                        have ek12102 : (m12095 15).toInt = (z12089).toInt := by rw [em12096]; rfl
                        have W12103 : rf_W [14, 15] m m12095 := by rw [em12096]; exact W12088.put (by decide)
                        refine pm_R_lo pm_M92 (pc_q := 238) (pm_q92_2 (Nat.le_of_ble_eq_true rfl)) rfl rfl ?_
                        refine pm_R_get pm_M92 (pc_q := 241) (v := .ref lo) (pm_q92_2 (Nat.le_of_ble_eq_true rfl)) rfl T12093.e33 (by decide) (T12093.lt (by decide)) (by show some (va_rf (o 1)) = _; rw [ol]; rfl) rfl ?_
                        refine pm_R_get pm_M92 (pc_q := 244) (v := .ref (lo + 3)) (pm_q92_2 (Nat.le_of_ble_eq_true rfl)) rfl (T12093.im hkl (by decide) (by decide) eE11767) (G.ge hkl (by decide)) (T12093.al hkl (by decide)) rfl rfl ?_
                        refine pm_R_lo pm_M92 (pc_q := 246) (pm_q92_2 (Nat.le_of_ble_eq_true rfl)) rfl rfl ?_
                        refine pm_R_op pm_M92 (pc_q := 247) (st_q := [.int 4, .int x10_11755, .ref (lo + 3)]) (pm_q92_2 (Nat.le_of_ble_eq_true rfl)) rfl rfl ?_
                        refine sf_R_imulV pm_M92 (pc_q := 248) (pm_q92_2 (Nat.le_of_ble_eq_true rfl)) rfl B11781 sf_k4 (by decide) (by decide) (by decide) e11802 ?_
                        refine pm_R_op pm_M92 (pc_q := 249) (st_q := [.int 3, .int z11801, .ref (lo + 3)]) (pm_q92_2 (Nat.le_of_ble_eq_true rfl)) rfl rfl ?_
                        refine sf_R_iadd pm_M92 (pc_q := 250) (pm_q92_2 (Nat.le_of_ble_eq_true rfl)) rfl B11803 sf_k3 (by decide) (by decide) (fun z12104 e12105 B12106 => ?_)
                        have q12110 := cl_in4 (n := rc11756) (Nat.le_trans h11764 (by decide)) (Int32.not_le.mp c11777) (cl_aux9 _ _ _ e11802 e12105) B11781 (by decide) (by decide)
                        obtain ⟨z12107, ez12108⟩ : ∃ y, fr11761 (Int32.toNatClampNeg z12104) = y := ⟨_, rfl⟩
                        refine pm_R_iald pm_M92 (pc_q := 251) (v := z12107) (pm_q92_2 (Nat.le_of_ble_eq_true rfl)) (T12093.im kq11776.2.2.1 (by decide) (by decide) eE11770) (T12093.al kq11776.2.2.1 (by decide)) q12110.1 ez12108 rfl ?_
                        refine pm_R_lo pm_M92 (pc_q := 253) (pm_q92_2 (Nat.le_of_ble_eq_true rfl)) rfl rfl ?_
                        refine pm_R_lo pm_M92 (pc_q := 255) (pm_q92_2 (Nat.le_of_ble_eq_true rfl)) rfl rfl ?_
                        refine pm_R_cs pm_M92 (pc_q := 258) (ra := [.int r12070, .int r12056, .int z12107]) (rest := []) (ls_q := [.int z12107, .int r12056, .int r12070]) (pm_q92_2 (Nat.le_of_ble_eq_true rfl)) rfl (Or.inr rfl) pm_M88 rfl rfl (Nat.le_of_ble_eq_true rfl) rfl rfl ?_
                        refine cl_c88_u (d := d + 6)  (fun r12111 => ?_)
                        show pm_R _ 92 258 [.ref 33, .int a0, .int a1, .int a2, .long a3, pm_no, .int 8, .long y7_11755, pm_no, .int x9_8826, .int x10_11755, .long z11814, pm_no, .long r12024, pm_no, .int 0, .int r12056, .int r12070] [.int r12111] _ _
                        exact pm_R_ret pm_M92 (r := some (.int r12111)) (pm_q92_2 (Nat.le_of_ble_eq_true rfl)) (pm_ret_i _) (K r12111 m12095 h12092 T12093 F12098 W12103)
                      · have B12118 : sf_B 0 0 z12047 := sf_eqL (Classical.not_not.mp c12049) sf_k0
                        have B12119 : lf_B (-1) (-1) z11814 := lf_eqB e12048 B12118 (⟨by decide, by decide⟩ : lf_B (-1) (-1) (-1))
                        refine pm_R_op pm_M92 (pc_q := 130) (st_q := [.int 1]) (pm_q92_1 (Nat.le_of_ble_eq_true rfl)) rfl rfl ?_
                        refine pm_R_br pm_M92 (pc_q := 134) (pm_q92_1 (Nat.le_of_ble_eq_true rfl)) rfl ?_
                        refine pm_R_lo pm_M92 (pc_q := 136) (ls_q := [.ref 33, .int a0, .int a1, .int a2, .long a3, pm_no, .int 8, .long y7_11755, pm_no, .int x9_8826, .int x10_11755, .long z11814, pm_no, .long r12024, pm_no, .int 1, pm_no, pm_no]) (st_q := []) (pm_q92_1 (Nat.le_of_ble_eq_true rfl)) rfl rfl ?_
                        refine pm_R_lo pm_M92 (pc_q := 137) (pm_q92_1 (Nat.le_of_ble_eq_true rfl)) rfl rfl ?_
                        refine pm_R_lo pm_M92 (pc_q := 138) (pm_q92_1 (Nat.le_of_ble_eq_true rfl)) rfl rfl ?_
                        refine pm_R_get pm_M92 (pc_q := 141) (v := .ref lo) (pm_q92_1 (Nat.le_of_ble_eq_true rfl)) rfl T.e33 (by decide) (T.lt (by decide)) (by show some (va_rf (o 1)) = _; rw [ol]; rfl) rfl ?_
                        refine pm_R_get pm_M92 (pc_q := 144) (v := .ref (lo + 3)) (pm_q92_1 (Nat.le_of_ble_eq_true rfl)) rfl (T.im hkl (by decide) (by decide) eE11767) (G.ge hkl (by decide)) (T.al hkl (by decide)) rfl rfl ?_
                        refine pm_R_lo pm_M92 (pc_q := 146) (pm_q92_1 (Nat.le_of_ble_eq_true rfl)) rfl rfl ?_
                        refine pm_R_op pm_M92 (pc_q := 147) (st_q := [.int 4, .int x10_11755, .ref (lo + 3), .ref 33]) (pm_q92_1 (Nat.le_of_ble_eq_true rfl)) rfl rfl ?_
                        refine sf_R_imulV pm_M92 (pc_q := 148) (pm_q92_1 (Nat.le_of_ble_eq_true rfl)) rfl B11781 sf_k4 (by decide) (by decide) (by decide) e11802 ?_
                        refine pm_R_op pm_M92 (pc_q := 149) (st_q := [.int 1, .int z11801, .ref (lo + 3), .ref 33]) (pm_q92_1 (Nat.le_of_ble_eq_true rfl)) rfl rfl ?_
                        refine sf_R_iaddV pm_M92 (pc_q := 150) (pm_q92_1 (Nat.le_of_ble_eq_true rfl)) rfl B11803 sf_k1 (by decide) (by decide) e12012 ?_
                        have q12123 := cl_in4 (n := rc11756) (Nat.le_trans h11764 (by decide)) (Int32.not_le.mp c11777) (cl_aux7 _ _ _ e11802 e12012) B11781 (by decide) (by decide)
                        refine pm_R_iald pm_M92 (pc_q := 151) (v := z12014) (pm_q92_1 (Nat.le_of_ble_eq_true rfl)) (T.im kq11776.2.2.1 (by decide) (by decide) eE11770) (T.al kq11776.2.2.1 (by decide)) q12123.1 ez12015 rfl ?_
                        refine pm_R_lo pm_M92 (pc_q := 152) (pm_q92_1 (Nat.le_of_ble_eq_true rfl)) rfl rfl ?_
                        refine pm_R_lo pm_M92 (pc_q := 154) (pm_q92_1 (Nat.le_of_ble_eq_true rfl)) rfl rfl ?_
                        refine pm_R_lo pm_M92 (pc_q := 156) (pm_q92_1 (Nat.le_of_ble_eq_true rfl)) rfl rfl ?_
                        refine pm_R_br pm_M92 (pc_q := 159) (st_q := [.int x9_8826, .int a1, .int z12014, .ref 33]) (pm_q92_1 (Nat.le_of_ble_eq_true rfl)) rfl ?_
                        refine pm_R_op pm_M92 (pc_q := 160) (st_q := [.long 0, .int x9_8826, .int a1, .int z12014, .ref 33]) (pm_q92_1 (Nat.le_of_ble_eq_true rfl)) rfl rfl ?_
                        refine pm_R_br pm_M92 (pc_q := 168) (pm_q92_1 (Nat.le_of_ble_eq_true rfl)) rfl ?_
                        refine pm_R_lo pm_M92 (pc_q := 170) (pm_q92_1 (Nat.le_of_ble_eq_true rfl)) rfl rfl ?_
                        refine pm_R_op pm_M92 (pc_q := 171) (st_q := [.int 1, .int 8, .long 0, .int x9_8826, .int a1, .int z12014, .ref 33]) (pm_q92_1 (Nat.le_of_ble_eq_true rfl)) rfl rfl ?_
                        refine pm_R_op pm_M92 (pc_q := 172) (st_q := [.int 9, .long 0, .int x9_8826, .int a1, .int z12014, .ref 33]) (pm_q92_1 (Nat.le_of_ble_eq_true rfl)) rfl rfl ?_
                        refine pm_R_cv pm_M92 (pc_q := 175) (a := 33) (ra := [.int 9, .long 0, .int x9_8826, .int a1, .int z12014]) (rest := []) (ls_q := [.ref 33, .int z12014, .int a1, .int x9_8826, .long 0, pm_no, .int 9, pm_no, pm_no, pm_no, pm_no, pm_no, pm_no, pm_no, pm_no, pm_no, pm_no, pm_no]) (pm_q92_1 (Nat.le_of_ble_eq_true rfl)) rfl (Or.inl rfl) pm_M92 T.e33 rfl (by decide) (T.lt (by decide)) rfl rfl (Nat.le_of_ble_eq_true rfl) rfl rfl ?_
                        refine cl_c92_9 (d := d + 0) G T B12016 (sf_weak B19 (by decide) (by decide)) (sf_weak B8829 (by decide) (by decide)) ol orr eE5 P1 (Int32.lt_iff_toInt_lt.mpr (cl_aux14 _ _ _ (Int32.lt_iff_toInt_lt.mp (Int32.not_le.mp c8827)) (Int32.lt_iff_toInt_lt.mp P2))) (fun r12124 m12126 h12127 T12128 F12129 W12130 => ?_)
                        have F12131 := (cl_F.refl (ck := ck) (A := [33, 35]) (n := 0) (s := 0) T.1).trans (N := 0) (S := 0) F12129 (by decide) (by decide) (by decide)
                        have W12132 : rf_W [14, 15] m m12126 := (rf_W.refl [14, 15] m).trans W12130 (by decide)
                        show pm_R _ 92 175 [.ref 33, .int a0, .int a1, .int a2, .long a3, pm_no, .int 8, .long y7_11755, pm_no, .int x9_8826, .int x10_11755, .long z11814, pm_no, .long r12024, pm_no, .int 1, pm_no, pm_no] [.int r12124] _ _
                        refine pm_R_lo pm_M92 (pc_q := 177) (ls_q := [.ref 33, .int a0, .int a1, .int a2, .long a3, pm_no, .int 8, .long y7_11755, pm_no, .int x9_8826, .int x10_11755, .long z11814, pm_no, .long r12024, pm_no, .int 1, .int r12124, pm_no]) (st_q := []) (pm_q92_1 (Nat.le_of_ble_eq_true rfl)) rfl rfl ?_
                        refine pm_R_lo pm_M92 (pc_q := 178) (pm_q92_1 (Nat.le_of_ble_eq_true rfl)) rfl rfl ?_
                        refine pm_R_lo pm_M92 (pc_q := 179) (pm_q92_1 (Nat.le_of_ble_eq_true rfl)) rfl rfl ?_
                        refine pm_R_get pm_M92 (pc_q := 182) (v := .ref lo) (pm_q92_1 (Nat.le_of_ble_eq_true rfl)) rfl T12128.e33 (by decide) (T12128.lt (by decide)) (by show some (va_rf (o 1)) = _; rw [ol]; rfl) rfl ?_
                        refine pm_R_get pm_M92 (pc_q := 185) (v := .ref (lo + 3)) (pm_q92_1 (Nat.le_of_ble_eq_true rfl)) rfl (T12128.im hkl (by decide) (by decide) eE11767) (G.ge hkl (by decide)) (T12128.al hkl (by decide)) rfl rfl ?_
                        refine pm_R_lo pm_M92 (pc_q := 187) (pm_q92_1 (Nat.le_of_ble_eq_true rfl)) rfl rfl ?_
                        refine pm_R_op pm_M92 (pc_q := 188) (st_q := [.int 4, .int x10_11755, .ref (lo + 3), .ref 33]) (pm_q92_1 (Nat.le_of_ble_eq_true rfl)) rfl rfl ?_
                        refine sf_R_imulV pm_M92 (pc_q := 189) (pm_q92_1 (Nat.le_of_ble_eq_true rfl)) rfl B11781 sf_k4 (by decide) (by decide) (by decide) e11802 ?_
                        refine pm_R_op pm_M92 (pc_q := 190) (st_q := [.int 2, .int z11801, .ref (lo + 3), .ref 33]) (pm_q92_1 (Nat.le_of_ble_eq_true rfl)) rfl rfl ?_
                        refine sf_R_iaddV pm_M92 (pc_q := 191) (pm_q92_1 (Nat.le_of_ble_eq_true rfl)) rfl B11803 sf_k2 (by decide) (by decide) e11805 ?_
                        have q12136 := cl_in4 (n := rc11756) (Nat.le_trans h11764 (by decide)) (Int32.not_le.mp c11777) (cl_aux6 _ _ _ e11802 e11805) B11781 (by decide) (by decide)
                        refine pm_R_iald pm_M92 (pc_q := 192) (v := z11807) (pm_q92_1 (Nat.le_of_ble_eq_true rfl)) (T12128.im kq11776.2.2.1 (by decide) (by decide) eE11770) (T12128.al kq11776.2.2.1 (by decide)) q12136.1 ez11808 rfl ?_
                        refine pm_R_lo pm_M92 (pc_q := 194) (pm_q92_1 (Nat.le_of_ble_eq_true rfl)) rfl rfl ?_
                        refine pm_R_op pm_M92 (pc_q := 195) (st_q := [.int 1, .int x9_8826, .int z11807, .ref 33]) (pm_q92_1 (Nat.le_of_ble_eq_true rfl)) rfl rfl ?_
                        refine sf_R_iaddV pm_M92 (pc_q := 196) (pm_q92_1 (Nat.le_of_ble_eq_true rfl)) rfl B8829 sf_k1 (by decide) (by decide) e11784 ?_
                        refine pm_R_lo pm_M92 (pc_q := 197) (pm_q92_1 (Nat.le_of_ble_eq_true rfl)) rfl rfl ?_
                        refine pm_R_lo pm_M92 (pc_q := 199) (pm_q92_1 (Nat.le_of_ble_eq_true rfl)) rfl rfl ?_
                        refine pm_R_br pm_M92 (pc_q := 202) (st_q := [.int a2, .int z11783, .int z11807, .ref 33]) (pm_q92_1 (Nat.le_of_ble_eq_true rfl)) rfl ?_
                        refine pm_R_lo pm_M92 (pc_q := 204) (pm_q92_1 (Nat.le_of_ble_eq_true rfl)) rfl rfl ?_
                        refine pm_R_br pm_M92 (pc_q := 212) (pm_q92_1 (Nat.le_of_ble_eq_true rfl)) rfl ?_
                        refine pm_R_lo pm_M92 (pc_q := 214) (pm_q92_1 (Nat.le_of_ble_eq_true rfl)) rfl rfl ?_
                        refine pm_R_op pm_M92 (pc_q := 215) (st_q := [.int 1, .int 8, .long y7_11755, .int a2, .int z11783, .int z11807, .ref 33]) (pm_q92_1 (Nat.le_of_ble_eq_true rfl)) rfl rfl ?_
                        refine pm_R_op pm_M92 (pc_q := 216) (st_q := [.int 9, .long y7_11755, .int a2, .int z11783, .int z11807, .ref 33]) (pm_q92_1 (Nat.le_of_ble_eq_true rfl)) rfl rfl ?_
                        refine pm_R_cv pm_M92 (pc_q := 219) (a := 33) (ra := [.int 9, .long y7_11755, .int a2, .int z11783, .int z11807]) (rest := []) (ls_q := [.ref 33, .int z11807, .int z11783, .int a2, .long y7_11755, pm_no, .int 9, pm_no, pm_no, pm_no, pm_no, pm_no, pm_no, pm_no, pm_no, pm_no, pm_no, pm_no]) (pm_q92_1 (Nat.le_of_ble_eq_true rfl)) rfl (Or.inl rfl) pm_M92 T12128.e33 rfl (by decide) (T12128.lt (by decide)) rfl rfl (Nat.le_of_ble_eq_true rfl) rfl rfl ?_
                        refine cl_c92_9 (d := d + 0) G T12128 B11809 (sf_weak B11785 (by decide) (by decide)) (sf_weak B20 (by decide) (by decide)) ol orr eE5 (Int32.lt_iff_toInt_lt.mpr (cl_aux15 _ _ _ _ e11784 (Int32.lt_iff_toInt_lt.mp (Int32.not_le.mp c8827)) (Int32.lt_iff_toInt_lt.mp P2))) P2 (fun r12137 m12139 h12140 T12141 F12142 W12143 => ?_)
                        have F12144 := F12131.trans (N := 0) (S := 0) F12142 (by decide) (by decide) (by decide)
                        have W12145 : rf_W [14, 15] m m12139 := W12132.trans W12143 (by decide)
                        show pm_R _ 92 219 [.ref 33, .int a0, .int a1, .int a2, .long a3, pm_no, .int 8, .long y7_11755, pm_no, .int x9_8826, .int x10_11755, .long z11814, pm_no, .long r12024, pm_no, .int 1, .int r12124, pm_no] [.int r12137] _ _
                        refine pm_R_lo pm_M92 (pc_q := 221) (ls_q := [.ref 33, .int a0, .int a1, .int a2, .long a3, pm_no, .int 8, .long y7_11755, pm_no, .int x9_8826, .int x10_11755, .long z11814, pm_no, .long r12024, pm_no, .int 1, .int r12124, .int r12137]) (st_q := []) (pm_q92_2 (Nat.le_of_ble_eq_true rfl)) rfl rfl ?_
                        refine pm_R_lo pm_M92 (pc_q := 222) (pm_q92_2 (Nat.le_of_ble_eq_true rfl)) rfl rfl ?_
                        refine pm_R_lo pm_M92 (pc_q := 224) (pm_q92_2 (Nat.le_of_ble_eq_true rfl)) rfl rfl ?_
                        refine cl_R_put33 G pm_M92 T12141 (k := 14) (pc_q := 227) (pm_q92_2 (Nat.le_of_ble_eq_true rfl)) rfl rfl (by decide) rfl rfl (sf_any _) rfl rfl rfl rfl rfl (fun h12146 m12149 em12150 T12147 F12148 => ?_)
                        have F12151 := F12148.cl (ck := ck) T12141.1
                        have F12152 := F12144.trans (N := 0) (S := 0) F12151 (by decide) (by decide) (by decide)
                        have B12153 : sf_B 0 9 (m12149 14) := by rw [em12150]; exact B11781
                        have ek12154 : (m12149 14).toInt = (x10_11755).toInt := by rw [em12150]; rfl
                        have W12155 : rf_W [14, 15] m m12149 := by rw [em12150]; exact W12145.put (by decide)
                        refine pm_R_lo pm_M92 (pc_q := 228) (pm_q92_2 (Nat.le_of_ble_eq_true rfl)) rfl rfl ?_
                        refine pm_R_lo pm_M92 (pc_q := 230) (pm_q92_2 (Nat.le_of_ble_eq_true rfl)) rfl rfl ?_
                        refine pm_R_op pm_M92 (pc_q := 231) (st_q := [.int 1, .int x9_8826, .ref 33]) (pm_q92_2 (Nat.le_of_ble_eq_true rfl)) rfl rfl ?_
                        refine sf_R_iaddV pm_M92 (pc_q := 232) (pm_q92_2 (Nat.le_of_ble_eq_true rfl)) rfl B8829 sf_k1 (by decide) (by decide) e11784 ?_
                        refine pm_R_lo pm_M92 (pc_q := 233) (pm_q92_2 (Nat.le_of_ble_eq_true rfl)) rfl rfl ?_
                        refine sf_R_isub pm_M92 (pc_q := 234) (pm_q92_2 (Nat.le_of_ble_eq_true rfl)) rfl B11785 B19 (by decide) (by decide) (fun z12156 e12157 B12158 => ?_)
                        refine cl_R_put33 G pm_M92 T12147 (k := 15) (pc_q := 237) (pm_q92_2 (Nat.le_of_ble_eq_true rfl)) rfl rfl (by decide) rfl rfl (sf_any _) rfl rfl rfl rfl rfl (fun h12159 m12162 em12163 T12160 F12161 => ?_)
                        have F12164 := F12161.cl (ck := ck) T12147.1
                        have F12165 := F12152.trans (N := 0) (S := 0) F12164 (by decide) (by decide) (by decide)
                        have B12166 : sf_B 0 9 (m12162 14) := by rw [em12163]; exact B12153
                        have ek12167 : (m12162 14).toInt = (x10_11755).toInt := by rw [em12163]; exact ek12154
                        have B12168 : sf_B (-9) 11 (m12162 15) := by rw [em12163]; exact B12158
                        have ek12169 : (m12162 15).toInt = (z12156).toInt := by rw [em12163]; rfl
                        have W12170 : rf_W [14, 15] m m12162 := by rw [em12163]; exact W12155.put (by decide)
                        refine pm_R_lo pm_M92 (pc_q := 238) (pm_q92_2 (Nat.le_of_ble_eq_true rfl)) rfl rfl ?_
                        refine pm_R_get pm_M92 (pc_q := 241) (v := .ref lo) (pm_q92_2 (Nat.le_of_ble_eq_true rfl)) rfl T12160.e33 (by decide) (T12160.lt (by decide)) (by show some (va_rf (o 1)) = _; rw [ol]; rfl) rfl ?_
                        refine pm_R_get pm_M92 (pc_q := 244) (v := .ref (lo + 3)) (pm_q92_2 (Nat.le_of_ble_eq_true rfl)) rfl (T12160.im hkl (by decide) (by decide) eE11767) (G.ge hkl (by decide)) (T12160.al hkl (by decide)) rfl rfl ?_
                        refine pm_R_lo pm_M92 (pc_q := 246) (pm_q92_2 (Nat.le_of_ble_eq_true rfl)) rfl rfl ?_
                        refine pm_R_op pm_M92 (pc_q := 247) (st_q := [.int 4, .int x10_11755, .ref (lo + 3)]) (pm_q92_2 (Nat.le_of_ble_eq_true rfl)) rfl rfl ?_
                        refine sf_R_imulV pm_M92 (pc_q := 248) (pm_q92_2 (Nat.le_of_ble_eq_true rfl)) rfl B11781 sf_k4 (by decide) (by decide) (by decide) e11802 ?_
                        refine pm_R_op pm_M92 (pc_q := 249) (st_q := [.int 3, .int z11801, .ref (lo + 3)]) (pm_q92_2 (Nat.le_of_ble_eq_true rfl)) rfl rfl ?_
                        refine sf_R_iadd pm_M92 (pc_q := 250) (pm_q92_2 (Nat.le_of_ble_eq_true rfl)) rfl B11803 sf_k3 (by decide) (by decide) (fun z12171 e12172 B12173 => ?_)
                        have q12177 := cl_in4 (n := rc11756) (Nat.le_trans h11764 (by decide)) (Int32.not_le.mp c11777) (cl_aux9 _ _ _ e11802 e12172) B11781 (by decide) (by decide)
                        obtain ⟨z12174, ez12175⟩ : ∃ y, fr11761 (Int32.toNatClampNeg z12171) = y := ⟨_, rfl⟩
                        refine pm_R_iald pm_M92 (pc_q := 251) (v := z12174) (pm_q92_2 (Nat.le_of_ble_eq_true rfl)) (T12160.im kq11776.2.2.1 (by decide) (by decide) eE11770) (T12160.al kq11776.2.2.1 (by decide)) q12177.1 ez12175 rfl ?_
                        refine pm_R_lo pm_M92 (pc_q := 253) (pm_q92_2 (Nat.le_of_ble_eq_true rfl)) rfl rfl ?_
                        refine pm_R_lo pm_M92 (pc_q := 255) (pm_q92_2 (Nat.le_of_ble_eq_true rfl)) rfl rfl ?_
                        refine pm_R_cs pm_M92 (pc_q := 258) (ra := [.int r12137, .int r12124, .int z12174]) (rest := []) (ls_q := [.int z12174, .int r12124, .int r12137]) (pm_q92_2 (Nat.le_of_ble_eq_true rfl)) rfl (Or.inr rfl) pm_M88 rfl rfl (Nat.le_of_ble_eq_true rfl) rfl rfl ?_
                        refine cl_c88_u (d := d + 6)  (fun r12178 => ?_)
                        show pm_R _ 92 258 [.ref 33, .int a0, .int a1, .int a2, .long a3, pm_no, .int 8, .long y7_11755, pm_no, .int x9_8826, .int x10_11755, .long z11814, pm_no, .long r12024, pm_no, .int 1, .int r12124, .int r12137] [.int r12178] _ _
                        exact pm_R_ret pm_M92 (r := some (.int r12178)) (pm_q92_2 (Nat.le_of_ble_eq_true rfl)) (pm_ret_i _) (K r12178 m12162 h12159 T12160 F12165 W12170)
                    · have B12185 : sf_B 0 2147483647 z12041 := sf_leR (Int32.not_lt.mp c12043) sf_k0 (sf_any z12041)
                      have k12186 := lf_ge e12042 B12185 (by decide)
                      refine pm_R_lo pm_M92 (pc_q := 113) rfl rfl rfl ?_
                      refine pm_R_ldc2 pm_M92 (pc_q := 116) (pm_q92_1 (Nat.le_of_ble_eq_true rfl)) rfl rfl ?_
                      refine sf_R_lcmp pm_M92 (pc_q := 117) (pm_q92_1 (Nat.le_of_ble_eq_true rfl)) rfl (fun z12187 e12188 => ?_)
                      refine pm_R_ifc pm_M92 (t := 259) (pc_q := 120) (pm_q92_1 (Nat.le_of_ble_eq_true rfl)) rfl rfl (fun c12189 => ?_) (fun c12189 => ?_)
                      · have k12190 := sf_lneC e12188 c12189
                        refine pm_R_lo pm_M92 (pc_q := 261) (pm_q92_2 (Nat.le_of_ble_eq_true rfl)) rfl rfl ?_
                        refine pm_R_lo pm_M92 (pc_q := 263) (pm_q92_2 (Nat.le_of_ble_eq_true rfl)) rfl rfl ?_
                        refine sf_R_lany pm_M92 (pc_q := 264) (st := []) (pm_q92_2 (Nat.le_of_ble_eq_true rfl)) rfl rfl (fun z12191 => ?_)
                        refine pm_R_lo pm_M92 (pc_q := 266) (ls_q := [.ref 33, .int a0, .int a1, .int a2, .long a3, pm_no, .int 8, .long z12191, pm_no, .int x9_8826, .int x10_11755, .long z11814, pm_no, .long r12024, pm_no, pm_no, pm_no, pm_no]) (st_q := []) (pm_q92_2 (Nat.le_of_ble_eq_true rfl)) rfl rfl ?_
                        refine sf_R_iinc pm_M92 (pc_q := 269) (ls_q := fun z => [.ref 33, .int a0, .int a1, .int a2, .long a3, pm_no, .int 8, .long z12191, pm_no, .int x9_8826, .int z, .long z11814, pm_no, .long r12024, pm_no, pm_no, pm_no, pm_no]) (pm_q92_2 (Nat.le_of_ble_eq_true rfl)) B11781 rfl (by decide) (by decide) (by decide) (fun _ => rfl) rfl (fun z12192 e12193 B12194 => ?_)
                        show pm_R _ 92 269 [.ref 33, .int a0, .int a1, .int a2, .long a3, pm_no, .int 8, .long z12191, pm_no, .int x9_8826, .int z12192, .long z11814, pm_no, .long r12024, pm_no, pm_no, pm_no, pm_no] [] _ _
                        refine pm_R_br pm_M92 (pc_q := 37) (pm_q92_2 (Nat.le_of_ble_eq_true rfl)) rfl ?_
                        exact ih_11755 _ (sf_up hN_11755 e12193 B11781 (by decide) (by decide)) z12192 z12191 (.long z11814) (pm_no) (.long r12024) (pm_no) (sf_weak B12194 (by decide) (by decide)) rfl rfl rfl
                      · have B12195 : sf_B 0 0 z12187 := sf_eqL (Classical.not_not.mp c12189) sf_k0
                        have B12196 : lf_B (-1) (-1) r12024 := lf_eqB e12188 B12195 (⟨by decide, by decide⟩ : lf_B (-1) (-1) (-1))
                        refine pm_R_lo pm_M92 (pc_q := 122) (pm_q92_1 (Nat.le_of_ble_eq_true rfl)) rfl rfl ?_
                        refine pm_R_ldc2 pm_M92 (pc_q := 125) (pm_q92_1 (Nat.le_of_ble_eq_true rfl)) rfl rfl ?_
                        refine sf_R_lcmp pm_M92 (pc_q := 126) (pm_q92_1 (Nat.le_of_ble_eq_true rfl)) rfl (fun z12197 e12198 => ?_)
                        refine pm_R_ifc pm_M92 (t := 133) (pc_q := 129) (pm_q92_1 (Nat.le_of_ble_eq_true rfl)) rfl rfl (fun c12199 => ?_) (fun c12199 => ?_)
                        · have k12200 := sf_lneC e12198 c12199
                          refine pm_R_op pm_M92 (pc_q := 134) (st_q := [.int 0]) (pm_q92_1 (Nat.le_of_ble_eq_true rfl)) rfl rfl ?_
                          refine pm_R_lo pm_M92 (pc_q := 136) (ls_q := [.ref 33, .int a0, .int a1, .int a2, .long a3, pm_no, .int 8, .long y7_11755, pm_no, .int x9_8826, .int x10_11755, .long z11814, pm_no, .long r12024, pm_no, .int 0, pm_no, pm_no]) (st_q := []) (pm_q92_1 (Nat.le_of_ble_eq_true rfl)) rfl rfl ?_
                          refine pm_R_lo pm_M92 (pc_q := 137) (pm_q92_1 (Nat.le_of_ble_eq_true rfl)) rfl rfl ?_
                          refine pm_R_lo pm_M92 (pc_q := 138) (pm_q92_1 (Nat.le_of_ble_eq_true rfl)) rfl rfl ?_
                          refine pm_R_get pm_M92 (pc_q := 141) (v := .ref lo) (pm_q92_1 (Nat.le_of_ble_eq_true rfl)) rfl T.e33 (by decide) (T.lt (by decide)) (by show some (va_rf (o 1)) = _; rw [ol]; rfl) rfl ?_
                          refine pm_R_get pm_M92 (pc_q := 144) (v := .ref (lo + 3)) (pm_q92_1 (Nat.le_of_ble_eq_true rfl)) rfl (T.im hkl (by decide) (by decide) eE11767) (G.ge hkl (by decide)) (T.al hkl (by decide)) rfl rfl ?_
                          refine pm_R_lo pm_M92 (pc_q := 146) (pm_q92_1 (Nat.le_of_ble_eq_true rfl)) rfl rfl ?_
                          refine pm_R_op pm_M92 (pc_q := 147) (st_q := [.int 4, .int x10_11755, .ref (lo + 3), .ref 33]) (pm_q92_1 (Nat.le_of_ble_eq_true rfl)) rfl rfl ?_
                          refine sf_R_imulV pm_M92 (pc_q := 148) (pm_q92_1 (Nat.le_of_ble_eq_true rfl)) rfl B11781 sf_k4 (by decide) (by decide) (by decide) e11802 ?_
                          refine pm_R_op pm_M92 (pc_q := 149) (st_q := [.int 1, .int z11801, .ref (lo + 3), .ref 33]) (pm_q92_1 (Nat.le_of_ble_eq_true rfl)) rfl rfl ?_
                          refine sf_R_iaddV pm_M92 (pc_q := 150) (pm_q92_1 (Nat.le_of_ble_eq_true rfl)) rfl B11803 sf_k1 (by decide) (by decide) e12012 ?_
                          have q12204 := cl_in4 (n := rc11756) (Nat.le_trans h11764 (by decide)) (Int32.not_le.mp c11777) (cl_aux7 _ _ _ e11802 e12012) B11781 (by decide) (by decide)
                          refine pm_R_iald pm_M92 (pc_q := 151) (v := z12014) (pm_q92_1 (Nat.le_of_ble_eq_true rfl)) (T.im kq11776.2.2.1 (by decide) (by decide) eE11770) (T.al kq11776.2.2.1 (by decide)) q12204.1 ez12015 rfl ?_
                          refine pm_R_lo pm_M92 (pc_q := 152) (pm_q92_1 (Nat.le_of_ble_eq_true rfl)) rfl rfl ?_
                          refine pm_R_lo pm_M92 (pc_q := 154) (pm_q92_1 (Nat.le_of_ble_eq_true rfl)) rfl rfl ?_
                          refine pm_R_lo pm_M92 (pc_q := 156) (pm_q92_1 (Nat.le_of_ble_eq_true rfl)) rfl rfl ?_
                          refine pm_R_br pm_M92 (pc_q := 163) (st_q := [.int x9_8826, .int a1, .int z12014, .ref 33]) (pm_q92_1 (Nat.le_of_ble_eq_true rfl)) rfl ?_
                          refine pm_R_lo pm_M92 (pc_q := 165) (pm_q92_1 (Nat.le_of_ble_eq_true rfl)) rfl rfl ?_
                          refine pm_R_lo pm_M92 (pc_q := 167) (pm_q92_1 (Nat.le_of_ble_eq_true rfl)) rfl rfl ?_
                          refine sf_R_ldivA pm_M92 (pc_q := 168) (pm_q92_1 (Nat.le_of_ble_eq_true rfl)) rfl k12040 (fun z12205 => ?_)
                          refine pm_R_lo pm_M92 (pc_q := 170) (pm_q92_1 (Nat.le_of_ble_eq_true rfl)) rfl rfl ?_
                          refine pm_R_op pm_M92 (pc_q := 171) (st_q := [.int 1, .int 8, .long z12205, .int x9_8826, .int a1, .int z12014, .ref 33]) (pm_q92_1 (Nat.le_of_ble_eq_true rfl)) rfl rfl ?_
                          refine pm_R_op pm_M92 (pc_q := 172) (st_q := [.int 9, .long z12205, .int x9_8826, .int a1, .int z12014, .ref 33]) (pm_q92_1 (Nat.le_of_ble_eq_true rfl)) rfl rfl ?_
                          refine pm_R_cv pm_M92 (pc_q := 175) (a := 33) (ra := [.int 9, .long z12205, .int x9_8826, .int a1, .int z12014]) (rest := []) (ls_q := [.ref 33, .int z12014, .int a1, .int x9_8826, .long z12205, pm_no, .int 9, pm_no, pm_no, pm_no, pm_no, pm_no, pm_no, pm_no, pm_no, pm_no, pm_no, pm_no]) (pm_q92_1 (Nat.le_of_ble_eq_true rfl)) rfl (Or.inl rfl) pm_M92 T.e33 rfl (by decide) (T.lt (by decide)) rfl rfl (Nat.le_of_ble_eq_true rfl) rfl rfl ?_
                          refine cl_c92_9 (d := d + 0) G T B12016 (sf_weak B19 (by decide) (by decide)) (sf_weak B8829 (by decide) (by decide)) ol orr eE5 P1 (Int32.lt_iff_toInt_lt.mpr (cl_aux14 _ _ _ (Int32.lt_iff_toInt_lt.mp (Int32.not_le.mp c8827)) (Int32.lt_iff_toInt_lt.mp P2))) (fun r12206 m12208 h12209 T12210 F12211 W12212 => ?_)
                          have F12213 := (cl_F.refl (ck := ck) (A := [33, 35]) (n := 0) (s := 0) T.1).trans (N := 0) (S := 0) F12211 (by decide) (by decide) (by decide)
                          have W12214 : rf_W [14, 15] m m12208 := (rf_W.refl [14, 15] m).trans W12212 (by decide)
                          show pm_R _ 92 175 [.ref 33, .int a0, .int a1, .int a2, .long a3, pm_no, .int 8, .long y7_11755, pm_no, .int x9_8826, .int x10_11755, .long z11814, pm_no, .long r12024, pm_no, .int 0, pm_no, pm_no] [.int r12206] _ _
                          refine pm_R_lo pm_M92 (pc_q := 177) (ls_q := [.ref 33, .int a0, .int a1, .int a2, .long a3, pm_no, .int 8, .long y7_11755, pm_no, .int x9_8826, .int x10_11755, .long z11814, pm_no, .long r12024, pm_no, .int 0, .int r12206, pm_no]) (st_q := []) (pm_q92_1 (Nat.le_of_ble_eq_true rfl)) rfl rfl ?_
                          refine pm_R_lo pm_M92 (pc_q := 178) (pm_q92_1 (Nat.le_of_ble_eq_true rfl)) rfl rfl ?_
                          refine pm_R_lo pm_M92 (pc_q := 179) (pm_q92_1 (Nat.le_of_ble_eq_true rfl)) rfl rfl ?_
                          refine pm_R_get pm_M92 (pc_q := 182) (v := .ref lo) (pm_q92_1 (Nat.le_of_ble_eq_true rfl)) rfl T12210.e33 (by decide) (T12210.lt (by decide)) (by show some (va_rf (o 1)) = _; rw [ol]; rfl) rfl ?_
                          refine pm_R_get pm_M92 (pc_q := 185) (v := .ref (lo + 3)) (pm_q92_1 (Nat.le_of_ble_eq_true rfl)) rfl (T12210.im hkl (by decide) (by decide) eE11767) (G.ge hkl (by decide)) (T12210.al hkl (by decide)) rfl rfl ?_
                          refine pm_R_lo pm_M92 (pc_q := 187) (pm_q92_1 (Nat.le_of_ble_eq_true rfl)) rfl rfl ?_
                          refine pm_R_op pm_M92 (pc_q := 188) (st_q := [.int 4, .int x10_11755, .ref (lo + 3), .ref 33]) (pm_q92_1 (Nat.le_of_ble_eq_true rfl)) rfl rfl ?_
                          refine sf_R_imulV pm_M92 (pc_q := 189) (pm_q92_1 (Nat.le_of_ble_eq_true rfl)) rfl B11781 sf_k4 (by decide) (by decide) (by decide) e11802 ?_
                          refine pm_R_op pm_M92 (pc_q := 190) (st_q := [.int 2, .int z11801, .ref (lo + 3), .ref 33]) (pm_q92_1 (Nat.le_of_ble_eq_true rfl)) rfl rfl ?_
                          refine sf_R_iaddV pm_M92 (pc_q := 191) (pm_q92_1 (Nat.le_of_ble_eq_true rfl)) rfl B11803 sf_k2 (by decide) (by decide) e11805 ?_
                          have q12218 := cl_in4 (n := rc11756) (Nat.le_trans h11764 (by decide)) (Int32.not_le.mp c11777) (cl_aux6 _ _ _ e11802 e11805) B11781 (by decide) (by decide)
                          refine pm_R_iald pm_M92 (pc_q := 192) (v := z11807) (pm_q92_1 (Nat.le_of_ble_eq_true rfl)) (T12210.im kq11776.2.2.1 (by decide) (by decide) eE11770) (T12210.al kq11776.2.2.1 (by decide)) q12218.1 ez11808 rfl ?_
                          refine pm_R_lo pm_M92 (pc_q := 194) (pm_q92_1 (Nat.le_of_ble_eq_true rfl)) rfl rfl ?_
                          refine pm_R_op pm_M92 (pc_q := 195) (st_q := [.int 1, .int x9_8826, .int z11807, .ref 33]) (pm_q92_1 (Nat.le_of_ble_eq_true rfl)) rfl rfl ?_
                          refine sf_R_iaddV pm_M92 (pc_q := 196) (pm_q92_1 (Nat.le_of_ble_eq_true rfl)) rfl B8829 sf_k1 (by decide) (by decide) e11784 ?_
                          refine pm_R_lo pm_M92 (pc_q := 197) (pm_q92_1 (Nat.le_of_ble_eq_true rfl)) rfl rfl ?_
                          refine pm_R_lo pm_M92 (pc_q := 199) (pm_q92_1 (Nat.le_of_ble_eq_true rfl)) rfl rfl ?_
                          refine pm_R_br pm_M92 (pc_q := 207) (st_q := [.int a2, .int z11783, .int z11807, .ref 33]) (pm_q92_1 (Nat.le_of_ble_eq_true rfl)) rfl ?_
                          refine pm_R_lo pm_M92 (pc_q := 209) (pm_q92_1 (Nat.le_of_ble_eq_true rfl)) rfl rfl ?_
                          refine pm_R_lo pm_M92 (pc_q := 211) (pm_q92_1 (Nat.le_of_ble_eq_true rfl)) rfl rfl ?_
                          refine sf_R_lremA pm_M92 (pc_q := 212) (pm_q92_1 (Nat.le_of_ble_eq_true rfl)) rfl k12040 (fun z12219 => ?_)
                          refine pm_R_lo pm_M92 (pc_q := 214) (pm_q92_1 (Nat.le_of_ble_eq_true rfl)) rfl rfl ?_
                          refine pm_R_op pm_M92 (pc_q := 215) (st_q := [.int 1, .int 8, .long z12219, .int a2, .int z11783, .int z11807, .ref 33]) (pm_q92_1 (Nat.le_of_ble_eq_true rfl)) rfl rfl ?_
                          refine pm_R_op pm_M92 (pc_q := 216) (st_q := [.int 9, .long z12219, .int a2, .int z11783, .int z11807, .ref 33]) (pm_q92_1 (Nat.le_of_ble_eq_true rfl)) rfl rfl ?_
                          refine pm_R_cv pm_M92 (pc_q := 219) (a := 33) (ra := [.int 9, .long z12219, .int a2, .int z11783, .int z11807]) (rest := []) (ls_q := [.ref 33, .int z11807, .int z11783, .int a2, .long z12219, pm_no, .int 9, pm_no, pm_no, pm_no, pm_no, pm_no, pm_no, pm_no, pm_no, pm_no, pm_no, pm_no]) (pm_q92_1 (Nat.le_of_ble_eq_true rfl)) rfl (Or.inl rfl) pm_M92 T12210.e33 rfl (by decide) (T12210.lt (by decide)) rfl rfl (Nat.le_of_ble_eq_true rfl) rfl rfl ?_
                          refine cl_c92_9 (d := d + 0) G T12210 B11809 (sf_weak B11785 (by decide) (by decide)) (sf_weak B20 (by decide) (by decide)) ol orr eE5 (Int32.lt_iff_toInt_lt.mpr (cl_aux15 _ _ _ _ e11784 (Int32.lt_iff_toInt_lt.mp (Int32.not_le.mp c8827)) (Int32.lt_iff_toInt_lt.mp P2))) P2 (fun r12220 m12222 h12223 T12224 F12225 W12226 => ?_)
                          have F12227 := F12213.trans (N := 0) (S := 0) F12225 (by decide) (by decide) (by decide)
                          have W12228 : rf_W [14, 15] m m12222 := W12214.trans W12226 (by decide)
                          show pm_R _ 92 219 [.ref 33, .int a0, .int a1, .int a2, .long a3, pm_no, .int 8, .long y7_11755, pm_no, .int x9_8826, .int x10_11755, .long z11814, pm_no, .long r12024, pm_no, .int 0, .int r12206, pm_no] [.int r12220] _ _
                          refine pm_R_lo pm_M92 (pc_q := 221) (ls_q := [.ref 33, .int a0, .int a1, .int a2, .long a3, pm_no, .int 8, .long y7_11755, pm_no, .int x9_8826, .int x10_11755, .long z11814, pm_no, .long r12024, pm_no, .int 0, .int r12206, .int r12220]) (st_q := []) (pm_q92_2 (Nat.le_of_ble_eq_true rfl)) rfl rfl ?_
                          refine pm_R_lo pm_M92 (pc_q := 222) (pm_q92_2 (Nat.le_of_ble_eq_true rfl)) rfl rfl ?_
                          refine pm_R_lo pm_M92 (pc_q := 224) (pm_q92_2 (Nat.le_of_ble_eq_true rfl)) rfl rfl ?_
                          refine cl_R_put33 G pm_M92 T12224 (k := 14) (pc_q := 227) (pm_q92_2 (Nat.le_of_ble_eq_true rfl)) rfl rfl (by decide) rfl rfl (sf_any _) rfl rfl rfl rfl rfl (fun h12229 m12232 em12233 T12230 F12231 => ?_)
                          have F12234 := F12231.cl (ck := ck) T12224.1
                          have F12235 := F12227.trans (N := 0) (S := 0) F12234 (by decide) (by decide) (by decide)
                          have B12236 : sf_B 0 9 (m12232 14) := by rw [em12233]; exact B11781
                          have ek12237 : (m12232 14).toInt = (x10_11755).toInt := by rw [em12233]; rfl
                          have W12238 : rf_W [14, 15] m m12232 := by rw [em12233]; exact W12228.put (by decide)
                          refine pm_R_lo pm_M92 (pc_q := 228) (pm_q92_2 (Nat.le_of_ble_eq_true rfl)) rfl rfl ?_
                          refine pm_R_lo pm_M92 (pc_q := 230) (pm_q92_2 (Nat.le_of_ble_eq_true rfl)) rfl rfl ?_
                          refine pm_R_op pm_M92 (pc_q := 231) (st_q := [.int 1, .int x9_8826, .ref 33]) (pm_q92_2 (Nat.le_of_ble_eq_true rfl)) rfl rfl ?_
                          refine sf_R_iaddV pm_M92 (pc_q := 232) (pm_q92_2 (Nat.le_of_ble_eq_true rfl)) rfl B8829 sf_k1 (by decide) (by decide) e11784 ?_
                          refine pm_R_lo pm_M92 (pc_q := 233) (pm_q92_2 (Nat.le_of_ble_eq_true rfl)) rfl rfl ?_
                          refine sf_R_isub pm_M92 (pc_q := 234) (pm_q92_2 (Nat.le_of_ble_eq_true rfl)) rfl B11785 B19 (by decide) (by decide) (fun z12239 e12240 B12241 => ?_)
                          refine cl_R_put33 G pm_M92 T12230 (k := 15) (pc_q := 237) (pm_q92_2 (Nat.le_of_ble_eq_true rfl)) rfl rfl (by decide) rfl rfl (sf_any _) rfl rfl rfl rfl rfl (fun h12242 m12245 em12246 T12243 F12244 => ?_)
                          have F12247 := F12244.cl (ck := ck) T12230.1
                          have F12248 := F12235.trans (N := 0) (S := 0) F12247 (by decide) (by decide) (by decide)
                          have B12249 : sf_B 0 9 (m12245 14) := by rw [em12246]; exact B12236
                          have ek12250 : (m12245 14).toInt = (x10_11755).toInt := by rw [em12246]; exact ek12237
                          have B12251 : sf_B (-9) 11 (m12245 15) := by rw [em12246]; exact B12241
                          have ek12252 : (m12245 15).toInt = (z12239).toInt := by rw [em12246]; rfl
                          have W12253 : rf_W [14, 15] m m12245 := by rw [em12246]; exact W12238.put (by decide)
                          refine pm_R_lo pm_M92 (pc_q := 238) (pm_q92_2 (Nat.le_of_ble_eq_true rfl)) rfl rfl ?_
                          refine pm_R_get pm_M92 (pc_q := 241) (v := .ref lo) (pm_q92_2 (Nat.le_of_ble_eq_true rfl)) rfl T12243.e33 (by decide) (T12243.lt (by decide)) (by show some (va_rf (o 1)) = _; rw [ol]; rfl) rfl ?_
                          refine pm_R_get pm_M92 (pc_q := 244) (v := .ref (lo + 3)) (pm_q92_2 (Nat.le_of_ble_eq_true rfl)) rfl (T12243.im hkl (by decide) (by decide) eE11767) (G.ge hkl (by decide)) (T12243.al hkl (by decide)) rfl rfl ?_
                          refine pm_R_lo pm_M92 (pc_q := 246) (pm_q92_2 (Nat.le_of_ble_eq_true rfl)) rfl rfl ?_
                          refine pm_R_op pm_M92 (pc_q := 247) (st_q := [.int 4, .int x10_11755, .ref (lo + 3)]) (pm_q92_2 (Nat.le_of_ble_eq_true rfl)) rfl rfl ?_
                          refine sf_R_imulV pm_M92 (pc_q := 248) (pm_q92_2 (Nat.le_of_ble_eq_true rfl)) rfl B11781 sf_k4 (by decide) (by decide) (by decide) e11802 ?_
                          refine pm_R_op pm_M92 (pc_q := 249) (st_q := [.int 3, .int z11801, .ref (lo + 3)]) (pm_q92_2 (Nat.le_of_ble_eq_true rfl)) rfl rfl ?_
                          refine sf_R_iadd pm_M92 (pc_q := 250) (pm_q92_2 (Nat.le_of_ble_eq_true rfl)) rfl B11803 sf_k3 (by decide) (by decide) (fun z12254 e12255 B12256 => ?_)
                          have q12260 := cl_in4 (n := rc11756) (Nat.le_trans h11764 (by decide)) (Int32.not_le.mp c11777) (cl_aux9 _ _ _ e11802 e12255) B11781 (by decide) (by decide)
                          obtain ⟨z12257, ez12258⟩ : ∃ y, fr11761 (Int32.toNatClampNeg z12254) = y := ⟨_, rfl⟩
                          refine pm_R_iald pm_M92 (pc_q := 251) (v := z12257) (pm_q92_2 (Nat.le_of_ble_eq_true rfl)) (T12243.im kq11776.2.2.1 (by decide) (by decide) eE11770) (T12243.al kq11776.2.2.1 (by decide)) q12260.1 ez12258 rfl ?_
                          refine pm_R_lo pm_M92 (pc_q := 253) (pm_q92_2 (Nat.le_of_ble_eq_true rfl)) rfl rfl ?_
                          refine pm_R_lo pm_M92 (pc_q := 255) (pm_q92_2 (Nat.le_of_ble_eq_true rfl)) rfl rfl ?_
                          refine pm_R_cs pm_M92 (pc_q := 258) (ra := [.int r12220, .int r12206, .int z12257]) (rest := []) (ls_q := [.int z12257, .int r12206, .int r12220]) (pm_q92_2 (Nat.le_of_ble_eq_true rfl)) rfl (Or.inr rfl) pm_M88 rfl rfl (Nat.le_of_ble_eq_true rfl) rfl rfl ?_
                          refine cl_c88_u (d := d + 6)  (fun r12261 => ?_)
                          show pm_R _ 92 258 [.ref 33, .int a0, .int a1, .int a2, .long a3, pm_no, .int 8, .long y7_11755, pm_no, .int x9_8826, .int x10_11755, .long z11814, pm_no, .long r12024, pm_no, .int 0, .int r12206, .int r12220] [.int r12261] _ _
                          exact pm_R_ret pm_M92 (r := some (.int r12261)) (pm_q92_2 (Nat.le_of_ble_eq_true rfl)) (pm_ret_i _) (K r12261 m12245 h12242 T12243 F12248 W12253)
                        · have B12268 : sf_B 0 0 z12197 := sf_eqL (Classical.not_not.mp c12199) sf_k0
                          have B12269 : lf_B (-1) (-1) z11814 := lf_eqB e12198 B12268 (⟨by decide, by decide⟩ : lf_B (-1) (-1) (-1))
                          refine pm_R_op pm_M92 (pc_q := 130) (st_q := [.int 1]) (pm_q92_1 (Nat.le_of_ble_eq_true rfl)) rfl rfl ?_
                          refine pm_R_br pm_M92 (pc_q := 134) (pm_q92_1 (Nat.le_of_ble_eq_true rfl)) rfl ?_
                          refine pm_R_lo pm_M92 (pc_q := 136) (ls_q := [.ref 33, .int a0, .int a1, .int a2, .long a3, pm_no, .int 8, .long y7_11755, pm_no, .int x9_8826, .int x10_11755, .long z11814, pm_no, .long r12024, pm_no, .int 1, pm_no, pm_no]) (st_q := []) (pm_q92_1 (Nat.le_of_ble_eq_true rfl)) rfl rfl ?_
                          refine pm_R_lo pm_M92 (pc_q := 137) (pm_q92_1 (Nat.le_of_ble_eq_true rfl)) rfl rfl ?_
                          refine pm_R_lo pm_M92 (pc_q := 138) (pm_q92_1 (Nat.le_of_ble_eq_true rfl)) rfl rfl ?_
                          refine pm_R_get pm_M92 (pc_q := 141) (v := .ref lo) (pm_q92_1 (Nat.le_of_ble_eq_true rfl)) rfl T.e33 (by decide) (T.lt (by decide)) (by show some (va_rf (o 1)) = _; rw [ol]; rfl) rfl ?_
                          refine pm_R_get pm_M92 (pc_q := 144) (v := .ref (lo + 3)) (pm_q92_1 (Nat.le_of_ble_eq_true rfl)) rfl (T.im hkl (by decide) (by decide) eE11767) (G.ge hkl (by decide)) (T.al hkl (by decide)) rfl rfl ?_
                          refine pm_R_lo pm_M92 (pc_q := 146) (pm_q92_1 (Nat.le_of_ble_eq_true rfl)) rfl rfl ?_
                          refine pm_R_op pm_M92 (pc_q := 147) (st_q := [.int 4, .int x10_11755, .ref (lo + 3), .ref 33]) (pm_q92_1 (Nat.le_of_ble_eq_true rfl)) rfl rfl ?_
                          refine sf_R_imulV pm_M92 (pc_q := 148) (pm_q92_1 (Nat.le_of_ble_eq_true rfl)) rfl B11781 sf_k4 (by decide) (by decide) (by decide) e11802 ?_
                          refine pm_R_op pm_M92 (pc_q := 149) (st_q := [.int 1, .int z11801, .ref (lo + 3), .ref 33]) (pm_q92_1 (Nat.le_of_ble_eq_true rfl)) rfl rfl ?_
                          refine sf_R_iaddV pm_M92 (pc_q := 150) (pm_q92_1 (Nat.le_of_ble_eq_true rfl)) rfl B11803 sf_k1 (by decide) (by decide) e12012 ?_
                          have q12273 := cl_in4 (n := rc11756) (Nat.le_trans h11764 (by decide)) (Int32.not_le.mp c11777) (cl_aux7 _ _ _ e11802 e12012) B11781 (by decide) (by decide)
                          refine pm_R_iald pm_M92 (pc_q := 151) (v := z12014) (pm_q92_1 (Nat.le_of_ble_eq_true rfl)) (T.im kq11776.2.2.1 (by decide) (by decide) eE11770) (T.al kq11776.2.2.1 (by decide)) q12273.1 ez12015 rfl ?_
                          refine pm_R_lo pm_M92 (pc_q := 152) (pm_q92_1 (Nat.le_of_ble_eq_true rfl)) rfl rfl ?_
                          refine pm_R_lo pm_M92 (pc_q := 154) (pm_q92_1 (Nat.le_of_ble_eq_true rfl)) rfl rfl ?_
                          refine pm_R_lo pm_M92 (pc_q := 156) (pm_q92_1 (Nat.le_of_ble_eq_true rfl)) rfl rfl ?_
                          refine pm_R_br pm_M92 (pc_q := 159) (st_q := [.int x9_8826, .int a1, .int z12014, .ref 33]) (pm_q92_1 (Nat.le_of_ble_eq_true rfl)) rfl ?_
                          refine pm_R_op pm_M92 (pc_q := 160) (st_q := [.long 0, .int x9_8826, .int a1, .int z12014, .ref 33]) (pm_q92_1 (Nat.le_of_ble_eq_true rfl)) rfl rfl ?_
                          refine pm_R_br pm_M92 (pc_q := 168) (pm_q92_1 (Nat.le_of_ble_eq_true rfl)) rfl ?_
                          refine pm_R_lo pm_M92 (pc_q := 170) (pm_q92_1 (Nat.le_of_ble_eq_true rfl)) rfl rfl ?_
                          refine pm_R_op pm_M92 (pc_q := 171) (st_q := [.int 1, .int 8, .long 0, .int x9_8826, .int a1, .int z12014, .ref 33]) (pm_q92_1 (Nat.le_of_ble_eq_true rfl)) rfl rfl ?_
                          refine pm_R_op pm_M92 (pc_q := 172) (st_q := [.int 9, .long 0, .int x9_8826, .int a1, .int z12014, .ref 33]) (pm_q92_1 (Nat.le_of_ble_eq_true rfl)) rfl rfl ?_
                          refine pm_R_cv pm_M92 (pc_q := 175) (a := 33) (ra := [.int 9, .long 0, .int x9_8826, .int a1, .int z12014]) (rest := []) (ls_q := [.ref 33, .int z12014, .int a1, .int x9_8826, .long 0, pm_no, .int 9, pm_no, pm_no, pm_no, pm_no, pm_no, pm_no, pm_no, pm_no, pm_no, pm_no, pm_no]) (pm_q92_1 (Nat.le_of_ble_eq_true rfl)) rfl (Or.inl rfl) pm_M92 T.e33 rfl (by decide) (T.lt (by decide)) rfl rfl (Nat.le_of_ble_eq_true rfl) rfl rfl ?_
                          refine cl_c92_9 (d := d + 0) G T B12016 (sf_weak B19 (by decide) (by decide)) (sf_weak B8829 (by decide) (by decide)) ol orr eE5 P1 (Int32.lt_iff_toInt_lt.mpr (cl_aux14 _ _ _ (Int32.lt_iff_toInt_lt.mp (Int32.not_le.mp c8827)) (Int32.lt_iff_toInt_lt.mp P2))) (fun r12274 m12276 h12277 T12278 F12279 W12280 => ?_)
                          have F12281 := (cl_F.refl (ck := ck) (A := [33, 35]) (n := 0) (s := 0) T.1).trans (N := 0) (S := 0) F12279 (by decide) (by decide) (by decide)
                          have W12282 : rf_W [14, 15] m m12276 := (rf_W.refl [14, 15] m).trans W12280 (by decide)
                          show pm_R _ 92 175 [.ref 33, .int a0, .int a1, .int a2, .long a3, pm_no, .int 8, .long y7_11755, pm_no, .int x9_8826, .int x10_11755, .long z11814, pm_no, .long r12024, pm_no, .int 1, pm_no, pm_no] [.int r12274] _ _
                          refine pm_R_lo pm_M92 (pc_q := 177) (ls_q := [.ref 33, .int a0, .int a1, .int a2, .long a3, pm_no, .int 8, .long y7_11755, pm_no, .int x9_8826, .int x10_11755, .long z11814, pm_no, .long r12024, pm_no, .int 1, .int r12274, pm_no]) (st_q := []) (pm_q92_1 (Nat.le_of_ble_eq_true rfl)) rfl rfl ?_
                          refine pm_R_lo pm_M92 (pc_q := 178) (pm_q92_1 (Nat.le_of_ble_eq_true rfl)) rfl rfl ?_
                          refine pm_R_lo pm_M92 (pc_q := 179) (pm_q92_1 (Nat.le_of_ble_eq_true rfl)) rfl rfl ?_
                          refine pm_R_get pm_M92 (pc_q := 182) (v := .ref lo) (pm_q92_1 (Nat.le_of_ble_eq_true rfl)) rfl T12278.e33 (by decide) (T12278.lt (by decide)) (by show some (va_rf (o 1)) = _; rw [ol]; rfl) rfl ?_
                          refine pm_R_get pm_M92 (pc_q := 185) (v := .ref (lo + 3)) (pm_q92_1 (Nat.le_of_ble_eq_true rfl)) rfl (T12278.im hkl (by decide) (by decide) eE11767) (G.ge hkl (by decide)) (T12278.al hkl (by decide)) rfl rfl ?_
                          refine pm_R_lo pm_M92 (pc_q := 187) (pm_q92_1 (Nat.le_of_ble_eq_true rfl)) rfl rfl ?_
                          refine pm_R_op pm_M92 (pc_q := 188) (st_q := [.int 4, .int x10_11755, .ref (lo + 3), .ref 33]) (pm_q92_1 (Nat.le_of_ble_eq_true rfl)) rfl rfl ?_
                          refine sf_R_imulV pm_M92 (pc_q := 189) (pm_q92_1 (Nat.le_of_ble_eq_true rfl)) rfl B11781 sf_k4 (by decide) (by decide) (by decide) e11802 ?_
                          refine pm_R_op pm_M92 (pc_q := 190) (st_q := [.int 2, .int z11801, .ref (lo + 3), .ref 33]) (pm_q92_1 (Nat.le_of_ble_eq_true rfl)) rfl rfl ?_
                          refine sf_R_iaddV pm_M92 (pc_q := 191) (pm_q92_1 (Nat.le_of_ble_eq_true rfl)) rfl B11803 sf_k2 (by decide) (by decide) e11805 ?_
                          have q12286 := cl_in4 (n := rc11756) (Nat.le_trans h11764 (by decide)) (Int32.not_le.mp c11777) (cl_aux6 _ _ _ e11802 e11805) B11781 (by decide) (by decide)
                          refine pm_R_iald pm_M92 (pc_q := 192) (v := z11807) (pm_q92_1 (Nat.le_of_ble_eq_true rfl)) (T12278.im kq11776.2.2.1 (by decide) (by decide) eE11770) (T12278.al kq11776.2.2.1 (by decide)) q12286.1 ez11808 rfl ?_
                          refine pm_R_lo pm_M92 (pc_q := 194) (pm_q92_1 (Nat.le_of_ble_eq_true rfl)) rfl rfl ?_
                          refine pm_R_op pm_M92 (pc_q := 195) (st_q := [.int 1, .int x9_8826, .int z11807, .ref 33]) (pm_q92_1 (Nat.le_of_ble_eq_true rfl)) rfl rfl ?_
                          refine sf_R_iaddV pm_M92 (pc_q := 196) (pm_q92_1 (Nat.le_of_ble_eq_true rfl)) rfl B8829 sf_k1 (by decide) (by decide) e11784 ?_
                          refine pm_R_lo pm_M92 (pc_q := 197) (pm_q92_1 (Nat.le_of_ble_eq_true rfl)) rfl rfl ?_
                          refine pm_R_lo pm_M92 (pc_q := 199) (pm_q92_1 (Nat.le_of_ble_eq_true rfl)) rfl rfl ?_
                          refine pm_R_br pm_M92 (pc_q := 202) (st_q := [.int a2, .int z11783, .int z11807, .ref 33]) (pm_q92_1 (Nat.le_of_ble_eq_true rfl)) rfl ?_
                          refine pm_R_lo pm_M92 (pc_q := 204) (pm_q92_1 (Nat.le_of_ble_eq_true rfl)) rfl rfl ?_
                          refine pm_R_br pm_M92 (pc_q := 212) (pm_q92_1 (Nat.le_of_ble_eq_true rfl)) rfl ?_
                          refine pm_R_lo pm_M92 (pc_q := 214) (pm_q92_1 (Nat.le_of_ble_eq_true rfl)) rfl rfl ?_
                          refine pm_R_op pm_M92 (pc_q := 215) (st_q := [.int 1, .int 8, .long y7_11755, .int a2, .int z11783, .int z11807, .ref 33]) (pm_q92_1 (Nat.le_of_ble_eq_true rfl)) rfl rfl ?_
                          refine pm_R_op pm_M92 (pc_q := 216) (st_q := [.int 9, .long y7_11755, .int a2, .int z11783, .int z11807, .ref 33]) (pm_q92_1 (Nat.le_of_ble_eq_true rfl)) rfl rfl ?_
                          refine pm_R_cv pm_M92 (pc_q := 219) (a := 33) (ra := [.int 9, .long y7_11755, .int a2, .int z11783, .int z11807]) (rest := []) (ls_q := [.ref 33, .int z11807, .int z11783, .int a2, .long y7_11755, pm_no, .int 9, pm_no, pm_no, pm_no, pm_no, pm_no, pm_no, pm_no, pm_no, pm_no, pm_no, pm_no]) (pm_q92_1 (Nat.le_of_ble_eq_true rfl)) rfl (Or.inl rfl) pm_M92 T12278.e33 rfl (by decide) (T12278.lt (by decide)) rfl rfl (Nat.le_of_ble_eq_true rfl) rfl rfl ?_
                          refine cl_c92_9 (d := d + 0) G T12278 B11809 (sf_weak B11785 (by decide) (by decide)) (sf_weak B20 (by decide) (by decide)) ol orr eE5 (Int32.lt_iff_toInt_lt.mpr (cl_aux15 _ _ _ _ e11784 (Int32.lt_iff_toInt_lt.mp (Int32.not_le.mp c8827)) (Int32.lt_iff_toInt_lt.mp P2))) P2 (fun r12287 m12289 h12290 T12291 F12292 W12293 => ?_)
                          have F12294 := F12281.trans (N := 0) (S := 0) F12292 (by decide) (by decide) (by decide)
                          have W12295 : rf_W [14, 15] m m12289 := W12282.trans W12293 (by decide)
                          show pm_R _ 92 219 [.ref 33, .int a0, .int a1, .int a2, .long a3, pm_no, .int 8, .long y7_11755, pm_no, .int x9_8826, .int x10_11755, .long z11814, pm_no, .long r12024, pm_no, .int 1, .int r12274, pm_no] [.int r12287] _ _
                          refine pm_R_lo pm_M92 (pc_q := 221) (ls_q := [.ref 33, .int a0, .int a1, .int a2, .long a3, pm_no, .int 8, .long y7_11755, pm_no, .int x9_8826, .int x10_11755, .long z11814, pm_no, .long r12024, pm_no, .int 1, .int r12274, .int r12287]) (st_q := []) (pm_q92_2 (Nat.le_of_ble_eq_true rfl)) rfl rfl ?_
                          refine pm_R_lo pm_M92 (pc_q := 222) (pm_q92_2 (Nat.le_of_ble_eq_true rfl)) rfl rfl ?_
                          refine pm_R_lo pm_M92 (pc_q := 224) (pm_q92_2 (Nat.le_of_ble_eq_true rfl)) rfl rfl ?_
                          refine cl_R_put33 G pm_M92 T12291 (k := 14) (pc_q := 227) (pm_q92_2 (Nat.le_of_ble_eq_true rfl)) rfl rfl (by decide) rfl rfl (sf_any _) rfl rfl rfl rfl rfl (fun h12296 m12299 em12300 T12297 F12298 => ?_)
                          have F12301 := F12298.cl (ck := ck) T12291.1
                          have F12302 := F12294.trans (N := 0) (S := 0) F12301 (by decide) (by decide) (by decide)
                          have B12303 : sf_B 0 9 (m12299 14) := by rw [em12300]; exact B11781
                          have ek12304 : (m12299 14).toInt = (x10_11755).toInt := by rw [em12300]; rfl
                          have W12305 : rf_W [14, 15] m m12299 := by rw [em12300]; exact W12295.put (by decide)
                          refine pm_R_lo pm_M92 (pc_q := 228) (pm_q92_2 (Nat.le_of_ble_eq_true rfl)) rfl rfl ?_
                          refine pm_R_lo pm_M92 (pc_q := 230) (pm_q92_2 (Nat.le_of_ble_eq_true rfl)) rfl rfl ?_
                          refine pm_R_op pm_M92 (pc_q := 231) (st_q := [.int 1, .int x9_8826, .ref 33]) (pm_q92_2 (Nat.le_of_ble_eq_true rfl)) rfl rfl ?_
                          refine sf_R_iaddV pm_M92 (pc_q := 232) (pm_q92_2 (Nat.le_of_ble_eq_true rfl)) rfl B8829 sf_k1 (by decide) (by decide) e11784 ?_
                          refine pm_R_lo pm_M92 (pc_q := 233) (pm_q92_2 (Nat.le_of_ble_eq_true rfl)) rfl rfl ?_
                          refine sf_R_isub pm_M92 (pc_q := 234) (pm_q92_2 (Nat.le_of_ble_eq_true rfl)) rfl B11785 B19 (by decide) (by decide) (fun z12306 e12307 B12308 => ?_)
                          refine cl_R_put33 G pm_M92 T12297 (k := 15) (pc_q := 237) (pm_q92_2 (Nat.le_of_ble_eq_true rfl)) rfl rfl (by decide) rfl rfl (sf_any _) rfl rfl rfl rfl rfl (fun h12309 m12312 em12313 T12310 F12311 => ?_)
                          have F12314 := F12311.cl (ck := ck) T12297.1
                          have F12315 := F12302.trans (N := 0) (S := 0) F12314 (by decide) (by decide) (by decide)
                          have B12316 : sf_B 0 9 (m12312 14) := by rw [em12313]; exact B12303
                          have ek12317 : (m12312 14).toInt = (x10_11755).toInt := by rw [em12313]; exact ek12304
                          have B12318 : sf_B (-9) 11 (m12312 15) := by rw [em12313]; exact B12308
                          have ek12319 : (m12312 15).toInt = (z12306).toInt := by rw [em12313]; rfl
                          have W12320 : rf_W [14, 15] m m12312 := by rw [em12313]; exact W12305.put (by decide)
                          refine pm_R_lo pm_M92 (pc_q := 238) (pm_q92_2 (Nat.le_of_ble_eq_true rfl)) rfl rfl ?_
                          refine pm_R_get pm_M92 (pc_q := 241) (v := .ref lo) (pm_q92_2 (Nat.le_of_ble_eq_true rfl)) rfl T12310.e33 (by decide) (T12310.lt (by decide)) (by show some (va_rf (o 1)) = _; rw [ol]; rfl) rfl ?_
                          refine pm_R_get pm_M92 (pc_q := 244) (v := .ref (lo + 3)) (pm_q92_2 (Nat.le_of_ble_eq_true rfl)) rfl (T12310.im hkl (by decide) (by decide) eE11767) (G.ge hkl (by decide)) (T12310.al hkl (by decide)) rfl rfl ?_
                          refine pm_R_lo pm_M92 (pc_q := 246) (pm_q92_2 (Nat.le_of_ble_eq_true rfl)) rfl rfl ?_
                          refine pm_R_op pm_M92 (pc_q := 247) (st_q := [.int 4, .int x10_11755, .ref (lo + 3)]) (pm_q92_2 (Nat.le_of_ble_eq_true rfl)) rfl rfl ?_
                          refine sf_R_imulV pm_M92 (pc_q := 248) (pm_q92_2 (Nat.le_of_ble_eq_true rfl)) rfl B11781 sf_k4 (by decide) (by decide) (by decide) e11802 ?_
                          refine pm_R_op pm_M92 (pc_q := 249) (st_q := [.int 3, .int z11801, .ref (lo + 3)]) (pm_q92_2 (Nat.le_of_ble_eq_true rfl)) rfl rfl ?_
                          refine sf_R_iadd pm_M92 (pc_q := 250) (pm_q92_2 (Nat.le_of_ble_eq_true rfl)) rfl B11803 sf_k3 (by decide) (by decide) (fun z12321 e12322 B12323 => ?_)
                          have q12327 := cl_in4 (n := rc11756) (Nat.le_trans h11764 (by decide)) (Int32.not_le.mp c11777) (cl_aux9 _ _ _ e11802 e12322) B11781 (by decide) (by decide)
                          obtain ⟨z12324, ez12325⟩ : ∃ y, fr11761 (Int32.toNatClampNeg z12321) = y := ⟨_, rfl⟩
                          refine pm_R_iald pm_M92 (pc_q := 251) (v := z12324) (pm_q92_2 (Nat.le_of_ble_eq_true rfl)) (T12310.im kq11776.2.2.1 (by decide) (by decide) eE11770) (T12310.al kq11776.2.2.1 (by decide)) q12327.1 ez12325 rfl ?_
                          refine pm_R_lo pm_M92 (pc_q := 253) (pm_q92_2 (Nat.le_of_ble_eq_true rfl)) rfl rfl ?_
                          refine pm_R_lo pm_M92 (pc_q := 255) (pm_q92_2 (Nat.le_of_ble_eq_true rfl)) rfl rfl ?_
                          refine pm_R_cs pm_M92 (pc_q := 258) (ra := [.int r12287, .int r12274, .int z12324]) (rest := []) (ls_q := [.int z12324, .int r12274, .int r12287]) (pm_q92_2 (Nat.le_of_ble_eq_true rfl)) rfl (Or.inr rfl) pm_M88 rfl rfl (Nat.le_of_ble_eq_true rfl) rfl rfl ?_
                          refine cl_c88_u (d := d + 6)  (fun r12328 => ?_)
                          show pm_R _ 92 258 [.ref 33, .int a0, .int a1, .int a2, .long a3, pm_no, .int 8, .long y7_11755, pm_no, .int x9_8826, .int x10_11755, .long z11814, pm_no, .long r12024, pm_no, .int 1, .int r12274, .int r12287] [.int r12328] _ _
                          exact pm_R_ret pm_M92 (r := some (.int r12328)) (pm_q92_2 (Nat.le_of_ble_eq_true rfl)) (pm_ret_i _) (K r12328 m12312 h12309 T12310 F12315 W12320)
          exact L_11755 _ 0 y7_8826 (g11_8826) (g12_8826) (g13_8826) (g14_8826) (sf_weak sf_k0 (by decide) (by decide)) Cg12_8826 Cg14_8826 rfl
    exact L_8826 _ a1 a3 (pm_no) (pm_no) (pm_no) (pm_no) (pm_no) (sf_weak B19 (by decide) (by decide)) rfl rfl rfl rfl
