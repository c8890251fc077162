set_option maxRecDepth 100000 in
set_option maxHeartbeats 4000000 in
/-- SilentTable.watch -/
theorem cl_c157 {d : Nat} {ck : cl_K} {E : Nat → pm_E} {m : Nat → Int32} {o : Nat → Option Nat} {h : pm_H} {Q : Option Value → pm_H → Prop} {a0 : Int32} {a1 : Int32} {a2 : Int32} (G : cl_G ck E) (T : cl_T ck E m o h) (Ba2 : sf_B 0 1 a2) (K : ∀ (r : Int32) (m_q : Nat → Int32) (h_q : pm_H), cl_T ck E m_q o h_q → cl_F ck [39] 0 0 h h_q → rf_W [] m m_q → sf_B (-1) 2147483647 r → Q (some (.int r)) h_q) : pm_R (d + 2) 157 0 [.ref 16, .int a0, .int a1, .int a2, pm_no, pm_no, pm_no, pm_no, pm_no] [] h Q := by
  refine pm_R_lo pm_M157 (pc_q := 1) rfl rfl rfl ?_
  refine pm_R_lo pm_M157 (pc_q := 2) rfl rfl rfl ?_
  refine pm_R_cv pm_M157 (pc_q := 5) (a := 16) (ra := [.int a0]) (rest := []) (ls_q := [.ref 16, .int a0]) rfl rfl (Or.inl rfl) pm_M139 T.e16 rfl (by decide) (T.lt (by decide)) rfl rfl (Nat.le_of_ble_eq_true rfl) rfl rfl ?_
  refine pm_R_lo pm_M139 (pc_q := 1) rfl rfl rfl ?_
  refine pm_R_ifc pm_M139 (t := 17) (pc_q := 4) rfl rfl rfl (fun c1 => ?_) (fun c1 => ?_)
  · have B2 : sf_B (-2147483648) (-1) a0 := sf_ltL c1 (sf_any a0) sf_k0
    refine pm_R_op pm_M139 (pc_q := 18) (st_q := [.null]) rfl rfl rfl ?_
    refine pm_R_br pm_M139 (pc_q := 30) rfl rfl ?_
    refine pm_R_ret pm_M139 (r := some (.null)) rfl rfl ?_
    show pm_R _ 157 5 [.ref 16, .int a0, .int a1, .int a2, pm_no, pm_no, pm_no, pm_no, pm_no] [.null] _ _
    refine pm_R_lo pm_M157 (pc_q := 7) (ls_q := [.ref 16, .int a0, .int a1, .int a2, .null, pm_no, pm_no, pm_no, pm_no]) (st_q := []) rfl rfl rfl ?_
    refine pm_R_lo pm_M157 (pc_q := 9) rfl rfl rfl ?_
    refine pm_R_br pm_M157 (pc_q := 30) rfl rfl ?_
    refine pm_R_op pm_M157 (pc_q := 31) (st_q := [.int (-1)]) rfl rfl rfl ?_
    exact pm_R_ret pm_M157 (r := some (.int (-1))) rfl rfl (K (-1) m h T (cl_F.refl (ck := ck) (A := [39]) (n := 0) (s := 0) T.1) (rf_W.refl [] m) (sf_weak sf_kn1 (by decide) (by decide)))
  · have B3 : sf_B 0 2147483647 a0 := sf_leR (Int32.not_lt.mp c1) sf_k0 (sf_any a0)
    refine pm_R_lo pm_M139 (pc_q := 5) rfl rfl rfl ?_
    refine pm_R_lo pm_M139 (pc_q := 6) rfl rfl rfl ?_
    refine pm_R_get pm_M139 (pc_q := 9) (v := .ref 17) rfl rfl T.e16 (by decide) (T.lt (by decide)) rfl rfl ?_
    refine pm_R_get pm_M139 (pc_q := 12) (v := .ref 23) rfl rfl T.e17 (by decide) (T.lt (by decide)) rfl rfl ?_
    refine pm_R_op pm_M139 (pc_q := 13) (st_q := [.int 2, .ref 23, .int a0]) rfl rfl rfl ?_
    obtain ⟨f7, e8, b9⟩ := T.C 23 (by decide) (by decide)
    obtain ⟨z4, ez5⟩ : ∃ y, f7 (Int32.toNatClampNeg 2) = y := ⟨_, rfl⟩
    have B6 : sf_B 0 2 z4 := ez5 ▸ (b9 2)
    refine pm_R_iald pm_M139 (pc_q := 14) (v := z4) rfl e8 (T.lt (by decide)) rfl ez5 rfl ?_
    refine pm_R_icmp pm_M139 (t := 21) (pc_q := 17) rfl rfl rfl (fun c10 => ?_) (fun c10 => ?_)
    · have B11 : sf_B 0 1 a0 := sf_ltL c10 B3 B6
      have B12 : sf_B 1 2 z4 := sf_ltR c10 B3 B6
      refine pm_R_lo pm_M139 (pc_q := 22) rfl rfl rfl ?_
      refine pm_R_get pm_M139 (pc_q := 25) (v := .ref 17) rfl rfl T.e16 (by decide) (T.lt (by decide)) rfl rfl ?_
      refine pm_R_get pm_M139 (pc_q := 28) (v := .ref 21) rfl rfl T.e17 (by decide) (T.lt (by decide)) rfl rfl ?_
      refine pm_R_lo pm_M139 (pc_q := 29) rfl rfl rfl ?_
      obtain ⟨f13, e14, b15⟩ := T.C 21 (by decide) (by decide)
      obtain ⟨l16, hx17⟩ := cl_there2 T e8 e14 ez5 c10 B11 (by decide)
      have hk18 := b15 _ _ hx17
      refine pm_R_aald pm_M139 (pc_q := 30) (v := .ref l16) rfl e14 (by decide) (by decide) (by decide) (T.lt (by decide)) (sf_in B11 (by decide) (by decide)) (by rw [hx17]; rfl) rfl ?_
      refine pm_R_ret pm_M139 (r := some (.ref l16)) rfl rfl ?_
      show pm_R _ 157 5 [.ref 16, .int a0, .int a1, .int a2, pm_no, pm_no, pm_no, pm_no, pm_no] [.ref l16] _ _
      refine pm_R_lo pm_M157 (pc_q := 7) (ls_q := [.ref 16, .int a0, .int a1, .int a2, .ref l16, pm_no, pm_no, pm_no, pm_no]) (st_q := []) rfl rfl rfl ?_
      refine pm_R_lo pm_M157 (pc_q := 9) rfl rfl rfl ?_
      refine pm_R_br pm_M157 (pc_q := 12) rfl rfl ?_
      refine pm_R_lo pm_M157 (pc_q := 14) rfl rfl rfl ?_
      refine pm_R_lo pm_M157 (pc_q := 15) rfl rfl rfl ?_
      obtain ⟨s19, n20, fd21, fg22, fs23, h24, h25, h26, eE27, eE28, eE29, eE30, b31⟩ := (G.2.2.2.1 l16 hk18).2.2.2
      have kq32 := G.2.2.2.1 l16 hk18
      refine pm_R_cv pm_M157 (pc_q := 18) (a := l16) (ra := [.int a1]) (rest := []) (ls_q := [.ref l16, .int a1]) rfl rfl (Or.inl rfl) pm_M143 (T.im hk18 (by decide) (by decide) eE27) rfl (G.ge hk18 (by decide)) (T.al hk18 (by decide)) rfl rfl (Nat.le_of_ble_eq_true rfl) rfl rfl ?_
      refine pm_R_lo pm_M143 (pc_q := 1) rfl rfl rfl ?_
      refine pm_R_ifc pm_M143 (t := 16) (pc_q := 4) rfl rfl rfl (fun c33 => ?_) (fun c33 => ?_)
      · have B34 : sf_B (-2147483648) (-1) a1 := sf_ltL c33 (sf_any a1) sf_k0
        refine pm_R_op pm_M143 (pc_q := 17) (st_q := [.int 0]) rfl rfl rfl ?_
        refine pm_R_ret pm_M143 (r := some (.int 0)) rfl rfl ?_
        show pm_R _ 157 18 [.ref 16, .int a0, .int a1, .int a2, .ref l16, pm_no, pm_no, pm_no, pm_no] [.int 0] _ _
        refine pm_R_br pm_M157 (pc_q := 30) (st_q := []) rfl rfl ?_
        refine pm_R_op pm_M157 (pc_q := 31) (st_q := [.int (-1)]) rfl rfl rfl ?_
        exact pm_R_ret pm_M157 (r := some (.int (-1))) rfl rfl (K (-1) m h T (cl_F.refl (ck := ck) (A := [39]) (n := 0) (s := 0) T.1) (rf_W.refl [] m) (sf_weak sf_kn1 (by decide) (by decide)))
      · have B35 : sf_B 0 2147483647 a1 := sf_leR (Int32.not_lt.mp c33) sf_k0 (sf_any a1)
        refine pm_R_lo pm_M143 (pc_q := 5) rfl rfl rfl ?_
        refine pm_R_lo pm_M143 (pc_q := 6) rfl rfl rfl ?_
        refine pm_R_get pm_M143 (pc_q := 9) (v := .int (Int32.ofNat s19)) rfl rfl (T.im hk18 (by decide) (by decide) eE27) (G.ge hk18 (by decide)) (T.al hk18 (by decide)) rfl rfl ?_
        refine pm_R_icmp pm_M143 (t := 16) (pc_q := 12) rfl rfl rfl (fun c36 => ?_) (fun c36 => ?_)
        · have B37 : sf_B 1 2147483647 a1 := sf_leR c36 (sf_ofB1 h25 h24 (by decide)) B35
          refine pm_R_op pm_M143 (pc_q := 17) (st_q := [.int 0]) rfl rfl rfl ?_
          refine pm_R_ret pm_M143 (r := some (.int 0)) rfl rfl ?_
          show pm_R _ 157 18 [.ref 16, .int a0, .int a1, .int a2, .ref l16, pm_no, pm_no, pm_no, pm_no] [.int 0] _ _
          refine pm_R_br pm_M157 (pc_q := 30) (st_q := []) rfl rfl ?_
          refine pm_R_op pm_M157 (pc_q := 31) (st_q := [.int (-1)]) rfl rfl rfl ?_
          exact pm_R_ret pm_M157 (r := some (.int (-1))) rfl rfl (K (-1) m h T (cl_F.refl (ck := ck) (A := [39]) (n := 0) (s := 0) T.1) (rf_W.refl [] m) (sf_weak sf_kn1 (by decide) (by decide)))
        · have B38 : sf_B 0 5 a1 := sf_ltL (Int32.not_le.mp c36) B35 (sf_ofB1 h25 h24 (by decide))
          refine pm_R_op pm_M143 (pc_q := 13) (st_q := [.int 1]) rfl rfl rfl ?_
          refine pm_R_br pm_M143 (pc_q := 17) rfl rfl ?_
          refine pm_R_ret pm_M143 (r := some (.int 1)) rfl rfl ?_
          show pm_R _ 157 18 [.ref 16, .int a0, .int a1, .int a2, .ref l16, pm_no, pm_no, pm_no, pm_no] [.int 1] _ _
          refine pm_R_br pm_M157 (pc_q := 21) (st_q := []) rfl rfl ?_
          refine pm_R_lo pm_M157 (pc_q := 23) rfl rfl rfl ?_
          refine pm_R_get pm_M157 (pc_q := 26) (v := .int (Int32.ofNat s19)) rfl rfl (T.im hk18 (by decide) (by decide) eE27) (G.ge hk18 (by decide)) (T.al hk18 (by decide)) rfl rfl ?_
          refine pm_R_op pm_M157 (pc_q := 27) (st_q := [.int 2, .int (Int32.ofNat s19)]) rfl rfl rfl ?_
          refine pm_R_icmp pm_M157 (t := 32) (pc_q := 30) rfl rfl rfl (fun c39 => ?_) (fun c39 => ?_)
          · have B40 : sf_B 2 6 (Int32.ofNat s19) := sf_leR c39 sf_k2 (sf_ofB1 h25 h24 (by decide))
            refine pm_R_op pm_M157 (pc_q := 33) (st_q := [.int (-1)]) rfl rfl rfl ?_
            refine pm_R_lo pm_M157 (pc_q := 35) (ls_q := [.ref 16, .int a0, .int a1, .int a2, .ref l16, .int (-1), pm_no, pm_no, pm_no]) (st_q := []) rfl rfl rfl ?_
            refine pm_R_op pm_M157 (pc_q := 36) (st_q := [.int (-1)]) rfl rfl rfl ?_
            refine pm_R_lo pm_M157 (pc_q := 38) (ls_q := [.ref 16, .int a0, .int a1, .int a2, .ref l16, .int (-1), .int (-1), pm_no, pm_no]) (st_q := []) rfl rfl rfl ?_
            refine pm_R_op pm_M157 (pc_q := 39) (st_q := [.int 0]) rfl rfl rfl ?_
            refine pm_R_lo pm_M157 (pc_q := 41) (ls_q := [.ref 16, .int a0, .int a1, .int a2, .ref l16, .int (-1), .int (-1), .int 0, pm_no]) (st_q := []) rfl rfl rfl ?_
            have L_283 : ∀ (N : Nat) (h_283 : pm_H) (m_283 : Nat → Int32) (x5_283 : Int32) (x6_283 : Int32) (x7_283 : Int32) (g8_283 : Value), cl_T ck E m_283 o h_283 → cl_F ck [39] 0 0 h h_283 → rf_W [] m m_283 → sf_B (-1) 2147483647 x5_283 → sf_B (-1) 50 x6_283 → sf_B 0 6 x7_283 → g8_283.category = 1 → (6 - x7_283.toInt).toNat = N → pm_R (d + 2) 157 41 [.ref 16, .int a0, .int a1, .int a2, .ref l16, .int x5_283, .int x6_283, .int x7_283, g8_283] [] h_283 Q := by
              intro N
              induction N using Nat.strongRecOn with
              | ind N ih_283 =>
                intro h_283 m_283 x5_283 x6_283 x7_283 g8_283 T_283 F_283 W_283 Bx5_283 Bx6_283 Bx7_283 Cg8_283 hN_283
                have W286 : rf_W [] m m_283 := (rf_W.refl [] m).trans W_283 (by decide)
                refine pm_R_lo pm_M157 (pc_q := 43) rfl rfl rfl ?_
                refine pm_R_lo pm_M157 (pc_q := 45) rfl rfl rfl ?_
                refine pm_R_get pm_M157 (pc_q := 48) (v := .int (Int32.ofNat s19)) rfl rfl (T_283.im hk18 (by decide) (by decide) eE27) (G.ge hk18 (by decide)) (T_283.al hk18 (by decide)) rfl rfl ?_
                refine pm_R_icmp pm_M157 (t := 96) (pc_q := 51) rfl rfl rfl (fun c287 => ?_) (fun c287 => ?_)
                · have B288 : sf_B 1 6 x7_283 := sf_leR c287 (sf_ofB1 h25 h24 (by decide)) Bx7_283
                  refine pm_R_lo pm_M157 (pc_q := 97) rfl rfl rfl ?_
                  refine pm_R_ifc pm_M157 (t := 105) (pc_q := 100) rfl rfl rfl (fun c289 => ?_) (fun c289 => ?_)
                  · have B290 : sf_B 0 0 a2 := sf_eqL c289 sf_k0
                    refine pm_R_lo pm_M157 (pc_q := 107) rfl rfl rfl ?_
                    exact pm_R_ret pm_M157 (r := some (.int x5_283)) rfl (pm_ret_i _) (K x5_283 m_283 h_283 T_283 F_283 W286 Bx5_283)
                  · have B291 : sf_B 1 1 a2 := sf_neL0 c289 sf_k0 Ba2
                    refine pm_R_lo pm_M157 (pc_q := 102) rfl rfl rfl ?_
                    refine pm_R_br pm_M157 (pc_q := 107) rfl rfl ?_
                    exact pm_R_ret pm_M157 (r := some (.int x6_283)) rfl (pm_ret_i _) (K x6_283 m_283 h_283 T_283 F_283 W286 (sf_weak Bx6_283 (by decide) (by decide)))
                · have B292 : sf_B 0 5 x7_283 := sf_ltL (Int32.not_le.mp c287) Bx7_283 (sf_ofB1 h25 h24 (by decide))
                  refine pm_R_lo pm_M157 (pc_q := 53) rfl rfl rfl ?_
                  refine pm_R_lo pm_M157 (pc_q := 54) rfl rfl rfl ?_
                  refine pm_R_icmp pm_M157 (t := 61) (pc_q := 57) rfl rfl rfl (fun c293 => ?_) (fun c293 => ?_)
                  · skip
                    refine pm_R_lo pm_M157 (pc_q := 63) rfl rfl rfl ?_
                    refine pm_R_op pm_M157 (pc_q := 64) (st_q := [.int (-1), .ref l16]) rfl rfl rfl ?_
                    refine pm_R_lo pm_M157 (pc_q := 66) rfl rfl rfl ?_
                    refine pm_R_lo pm_M157 (pc_q := 67) rfl rfl rfl ?_
                    refine pm_R_get pm_M157 (pc_q := 70) (v := .ref 39) rfl rfl T_283.e16 (by decide) (T_283.lt (by decide)) rfl rfl ?_
                    refine pm_R_cv pm_M157 (pc_q := 73) (a := l16) (ra := [.ref 39, .int x7_283, .int (-1)]) (rest := []) (ls_q := [.ref l16, .int (-1), .int x7_283, .ref 39, pm_no, pm_no]) rfl rfl (Or.inl rfl) pm_M146 (T_283.im hk18 (by decide) (by decide) eE27) rfl (G.ge hk18 (by decide)) (T_283.al hk18 (by decide)) rfl rfl (Nat.le_of_ble_eq_true rfl) rfl rfl ?_
                    refine cl_c146 (d := d + 0) G T_283 hk18 (sf_weak sf_kn1 (by decide) (by decide)) B292 (fun r294 m296 h297 T298 F299 W300 B295 => ?_)
                    have F301 := F_283.trans (N := 0) (S := 0) F299 (by decide) (by decide) (by decide)
                    have W302 : rf_W [] m m296 := W286.trans W300 (by decide)
                    have W303 : rf_W [] m m296 := W_283.trans W300 (by decide)
                    show pm_R _ 157 73 [.ref 16, .int a0, .int a1, .int a2, .ref l16, .int x5_283, .int x6_283, .int x7_283, g8_283] [.int r294] _ _
                    refine pm_R_lo pm_M157 (pc_q := 75) (ls_q := [.ref 16, .int a0, .int a1, .int a2, .ref l16, .int x5_283, .int x6_283, .int x7_283, .int r294]) (st_q := []) rfl rfl rfl ?_
                    refine pm_R_lo pm_M157 (pc_q := 77) rfl rfl rfl ?_
                    refine pm_R_lo pm_M157 (pc_q := 79) rfl rfl rfl ?_
                    refine pm_R_icmp pm_M157 (t := 90) (pc_q := 82) rfl rfl rfl (fun c304 => ?_) (fun c304 => ?_)
                    · have B305 : sf_B 0 50 x6_283 := sf_leR c304 B295 Bx6_283
                      refine sf_R_iinc pm_M157 (pc_q := 93) (ls_q := fun z => [.ref 16, .int a0, .int a1, .int a2, .ref l16, .int x5_283, .int x6_283, .int z, .int r294]) rfl B292 rfl (by decide) (by decide) (by decide) (fun _ => rfl) rfl (fun z306 e307 B308 => ?_)
                      show pm_R _ 157 93 [.ref 16, .int a0, .int a1, .int a2, .ref l16, .int x5_283, .int x6_283, .int z306, .int r294] [] _ _
                      refine pm_R_br pm_M157 (pc_q := 41) rfl rfl ?_
                      exact ih_283 _ (sf_up hN_283 e307 B292 (by decide) (by decide)) h297 m296 x5_283 x6_283 z306 (.int r294) T298 F301 W303 Bx5_283 (sf_weak B305 (by decide) (by decide)) (sf_weak B308 (by decide) (by decide)) rfl rfl
                    · have B309 : sf_B (-1) 49 x6_283 := sf_ltL (Int32.not_le.mp c304) Bx6_283 B295
                      refine pm_R_lo pm_M157 (pc_q := 84) rfl rfl rfl ?_
                      refine pm_R_lo pm_M157 (pc_q := 86) (ls_q := [.ref 16, .int a0, .int a1, .int a2, .ref l16, .int x7_283, .int x6_283, .int x7_283, .int r294]) (st_q := []) rfl rfl rfl ?_
                      refine pm_R_lo pm_M157 (pc_q := 88) rfl rfl rfl ?_
                      refine pm_R_lo pm_M157 (pc_q := 90) (ls_q := [.ref 16, .int a0, .int a1, .int a2, .ref l16, .int x7_283, .int r294, .int x7_283, .int r294]) (st_q := []) rfl rfl rfl ?_
                      refine sf_R_iinc pm_M157 (pc_q := 93) (ls_q := fun z => [.ref 16, .int a0, .int a1, .int a2, .ref l16, .int x7_283, .int r294, .int z, .int r294]) rfl B292 rfl (by decide) (by decide) (by decide) (fun _ => rfl) rfl (fun z310 e311 B312 => ?_)
                      show pm_R _ 157 93 [.ref 16, .int a0, .int a1, .int a2, .ref l16, .int x7_283, .int r294, .int z310, .int r294] [] _ _
                      refine pm_R_br pm_M157 (pc_q := 41) rfl rfl ?_
                      exact ih_283 _ (sf_up hN_283 e311 B292 (by decide) (by decide)) h297 m296 x7_283 r294 z310 (.int r294) T298 F301 W303 (sf_weak B292 (by decide) (by decide)) (sf_weak B295 (by decide) (by decide)) (sf_weak B312 (by decide) (by decide)) rfl rfl
                  · refine pm_R_op pm_M157 (pc_q := 58) (st_q := [.int (-1)]) rfl rfl rfl ?_
                    refine pm_R_br pm_M157 (pc_q := 73) rfl rfl ?_
                    refine pm_R_lo pm_M157 (pc_q := 75) (ls_q := [.ref 16, .int a0, .int a1, .int a2, .ref l16, .int x5_283, .int x6_283, .int x7_283, .int (-1)]) (st_q := []) rfl rfl rfl ?_
                    refine pm_R_lo pm_M157 (pc_q := 77) rfl rfl rfl ?_
                    refine pm_R_lo pm_M157 (pc_q := 79) rfl rfl rfl ?_
                    refine pm_R_icmp pm_M157 (t := 90) (pc_q := 82) rfl rfl rfl (fun c313 => ?_) (fun c313 => absurd (Int32.not_le.mp c313) (sf_nlt Bx6_283 sf_kn1 (by decide)))
                    skip
                    refine sf_R_iinc pm_M157 (pc_q := 93) (ls_q := fun z => [.ref 16, .int a0, .int a1, .int a2, .ref l16, .int x5_283, .int x6_283, .int z, .int (-1)]) rfl B292 rfl (by decide) (by decide) (by decide) (fun _ => rfl) rfl (fun z314 e315 B316 => ?_)
                    show pm_R _ 157 93 [.ref 16, .int a0, .int a1, .int a2, .ref l16, .int x5_283, .int x6_283, .int z314, .int (-1)] [] _ _
                    refine pm_R_br pm_M157 (pc_q := 41) rfl rfl ?_
                    exact ih_283 _ (sf_up hN_283 e315 B292 (by decide) (by decide)) h_283 m_283 x5_283 x6_283 z314 (.int (-1)) T_283 F_283 W_283 Bx5_283 Bx6_283 (sf_weak B316 (by decide) (by decide)) rfl rfl
            exact L_283 _ h m (-1) (-1) 0 (pm_no) T (cl_F.refl (ck := ck) (A := [39]) (n := 0) (s := 0) T.1) (rf_W.refl _ _) (sf_weak sf_kn1 (by decide) (by decide)) (sf_weak sf_kn1 (by decide) (by decide)) (sf_weak sf_k0 (by decide) (by decide)) rfl rfl
          · have B317 : sf_B 1 1 (Int32.ofNat s19) := sf_ltL (Int32.not_le.mp c39) (sf_ofB1 h25 h24 (by decide)) sf_k2
            have B318 : sf_B 0 1 a1 := sf_leT (Int.le_of_lt (Int32.lt_iff_toInt_lt.mp (Int32.not_le.mp c36))) B38 B317
            refine pm_R_op pm_M157 (pc_q := 31) (st_q := [.int (-1)]) rfl rfl rfl ?_
            exact pm_R_ret pm_M157 (r := some (.int (-1))) rfl rfl (K (-1) m h T (cl_F.refl (ck := ck) (A := [39]) (n := 0) (s := 0) T.1) (rf_W.refl [] m) (sf_weak sf_kn1 (by decide) (by decide)))
    · skip
      refine pm_R_op pm_M139 (pc_q := 18) (st_q := [.null]) rfl rfl rfl ?_
      refine pm_R_br pm_M139 (pc_q := 30) rfl rfl ?_
      refine pm_R_ret pm_M139 (r := some (.null)) rfl rfl ?_
      show pm_R _ 157 5 [.ref 16, .int a0, .int a1, .int a2, pm_no, pm_no, pm_no, pm_no, pm_no] [.null] _ _
      refine pm_R_lo pm_M157 (pc_q := 7) (ls_q := [.ref 16, .int a0, .int a1, .int a2, .null, pm_no, pm_no, pm_no, pm_no]) (st_q := []) rfl rfl rfl ?_
      refine pm_R_lo pm_M157 (pc_q := 9) rfl rfl rfl ?_
      refine pm_R_br pm_M157 (pc_q := 30) rfl rfl ?_
      refine pm_R_op pm_M157 (pc_q := 31) (st_q := [.int (-1)]) rfl rfl rfl ?_
      exact pm_R_ret pm_M157 (r := some (.int (-1))) rfl rfl (K (-1) m h T (cl_F.refl (ck := ck) (A := [39]) (n := 0) (s := 0) T.1) (rf_W.refl [] m) (sf_weak sf_kn1 (by decide) (by decide)))

set_option maxRecDepth 100000 in
set_option maxHeartbeats 4000000 in
/-- SilentTable$TreeChart.fillSign -/
theorem cl_c72 {d : Nat} {ck : cl_K} {E : Nat → pm_E} {m : Nat → Int32} {o : Nat → Option Nat} {h : pm_H} {Q : Option Value → pm_H → Prop} {a0 : Int32} (G : cl_G ck E) (T : cl_T ck E m o h) (Ba0 : sf_B 0 11 a0) {lo ro : Nat} (ol : o 1 = some lo) (orr : o 2 = some ro) {n : Nat} (en : E ro = .inr (5, [.int (Int32.ofNat n), .ref (ro + 1)])) (Q0 : a0 < Int32.ofNat n) (K : ∀ (m_q : Nat → Int32) (h_q : pm_H), cl_T ck E m_q o h_q → cl_F ck [34] 0 0 h h_q → rf_W [] m m_q → Q none h_q) : pm_R (d + 1) 72 0 [.ref 33, .int a0, pm_no] [] h Q := by
  have hkl := T.oo.2.1 _ ol
  have hkr := T.oo.2.2 _ orr
  obtain ⟨n1, f2, h3, h4, eE5, eE6, b7⟩ := (G.2.2.1 ro hkr).2
  have kq8 := (G.2.2.1 ro hkr).1
  have P0 : a0 < (Int32.ofNat n1) := by rw [cl_rowN eE5 en]; exact Q0
  refine pm_R_op pm_M72 (pc_q := 1) (st_q := [.int 0]) rfl rfl rfl ?_
  refine pm_R_lo pm_M72 (pc_q := 2) (ls_q := [.ref 33, .int a0, .int 0]) (st_q := []) rfl rfl rfl ?_
  have L_424 : ∀ (N : Nat) (h_424 : pm_H) (m_424 : Nat → Int32) (x2_424 : Int32), cl_T ck E m_424 o h_424 → cl_F ck [34] 0 0 h h_424 → rf_W [] m m_424 → sf_B 0 16 x2_424 → (16 - x2_424.toInt).toNat = N → pm_R (d + 1) 72 2 [.ref 33, .int a0, .int x2_424] [] h_424 Q := by
    intro N
    induction N using Nat.strongRecOn with
    | ind N ih_424 =>
      intro h_424 m_424 x2_424 T_424 F_424 W_424 Bx2_424 hN_424
      have W427 : rf_W [] m m_424 := (rf_W.refl [] m).trans W_424 (by decide)
      refine pm_R_lo pm_M72 (pc_q := 3) rfl rfl rfl ?_
      refine pm_R_lo pm_M72 (pc_q := 4) rfl rfl rfl ?_
      refine pm_R_get pm_M72 (pc_q := 7) (v := .ref lo) rfl rfl T_424.e33 (by decide) (T_424.lt (by decide)) (by show some (va_rf (o 1)) = _; rw [ol]; rfl) rfl ?_
      obtain ⟨rc428, tc429, rs430, fv431, fw432, fr433, ft434, fn435, h436, h437, B438, eE439, eE440, eE441, eE442, eE443, eE444, b445, b446, b447⟩ := (G.2.1 lo hkl).2.2.2.2.2
      have kq448 := G.2.1 lo hkl
      refine pm_R_get pm_M72 (pc_q := 10) (v := .int (Int32.ofNat tc429)) rfl rfl (T_424.im hkl (by decide) (by decide) eE439) (G.ge hkl (by decide)) (T_424.al hkl (by decide)) rfl rfl ?_
      refine pm_R_icmp pm_M72 (t := 73) (pc_q := 13) rfl rfl rfl (fun c449 => ?_) (fun c449 => ?_)
      · skip
        exact pm_R_ret pm_M72 (r := none) rfl rfl (K m_424 h_424 T_424 F_424 W427)
      · have B450 : sf_B 0 15 x2_424 := sf_ltL (Int32.not_le.mp c449) Bx2_424 (sf_ofB h437 (by decide))
        have B451 : sf_B 1 16 (Int32.ofNat tc429) := sf_ltR (Int32.not_le.mp c449) Bx2_424 (sf_ofB h437 (by decide))
        refine pm_R_lo pm_M72 (pc_q := 14) rfl rfl rfl ?_
        refine pm_R_get pm_M72 (pc_q := 17) (v := .ref lo) rfl rfl T_424.e33 (by decide) (T_424.lt (by decide)) (by show some (va_rf (o 1)) = _; rw [ol]; rfl) rfl ?_
        refine pm_R_get pm_M72 (pc_q := 20) (v := .ref (lo + 4)) rfl rfl (T_424.im hkl (by decide) (by decide) eE439) (G.ge hkl (by decide)) (T_424.al hkl (by decide)) rfl rfl ?_
        refine pm_R_lo pm_M72 (pc_q := 21) rfl rfl rfl ?_
        refine pm_R_op pm_M72 (pc_q := 22) (st_q := [.int 4, .int x2_424, .ref (lo + 4)]) rfl rfl rfl ?_
        refine sf_R_imul pm_M72 (pc_q := 23) rfl rfl B450 sf_k4 (by decide) (by decide) (by decide) (fun z452 e453 B454 => ?_)
        have q458 := cl_in4 (n := tc429) (Nat.le_trans h437 (by decide)) (Int32.not_le.mp c449) (cl_aux5 _ _ e453) B450 (by decide) (by decide)
        obtain ⟨z455, ez456⟩ : ∃ y, ft434 (Int32.toNatClampNeg z452) = y := ⟨_, rfl⟩
        have B457 : sf_B 0 9 z455 := ez456 ▸ q458.2.2 ▸ (b446 _ q458.2.1).1
        refine pm_R_iald pm_M72 (pc_q := 24) (v := z455) rfl (T_424.im kq448.2.2.2.1 (by decide) (by decide) eE443) (T_424.al kq448.2.2.2.1 (by decide)) q458.1 ez456 rfl ?_
        refine pm_R_lo pm_M72 (pc_q := 25) rfl rfl rfl ?_
        refine pm_R_get pm_M72 (pc_q := 28) (v := .ref ro) rfl rfl T_424.e33 (by decide) (T_424.lt (by decide)) (by show some (va_rf (o 2)) = _; rw [orr]; rfl) rfl ?_
        refine pm_R_get pm_M72 (pc_q := 31) (v := .ref (ro + 1)) rfl rfl (T_424.im hkr (by decide) (by decide) eE5) (G.ge hkr (by decide)) (T_424.al hkr (by decide)) rfl rfl ?_
        refine pm_R_lo pm_M72 (pc_q := 32) rfl rfl rfl ?_
        have q462 := cl_in1 (n := n1) (Nat.le_trans h4 (by decide)) P0 Ba0 (by decide)
        obtain ⟨z459, ez460⟩ : ∃ y, f2 (Int32.toNatClampNeg a0) = y := ⟨_, rfl⟩
        have B461 : sf_B 0 9 z459 := ez460 ▸ b7 _
        refine pm_R_iald pm_M72 (pc_q := 33) (v := z459) rfl (T_424.im kq8 (by decide) (by decide) eE6) (T_424.al kq8 (by decide)) q462.1 ez460 rfl ?_
        refine pm_R_icmp pm_M72 (t := 67) (pc_q := 36) rfl rfl rfl (fun c463 => ?_) (fun c463 => ?_)
        · skip
          refine sf_R_iinc pm_M72 (pc_q := 70) (ls_q := fun z => [.ref 33, .int a0, .int z]) rfl B450 rfl (by decide) (by decide) (by decide) (fun _ => rfl) rfl (fun z464 e465 B466 => ?_)
          show pm_R _ 72 70 [.ref 33, .int a0, .int z464] [] _ _
          refine pm_R_br pm_M72 (pc_q := 2) rfl rfl ?_
          exact ih_424 _ (sf_up hN_424 e465 B450 (by decide) (by decide)) h_424 m_424 z464 T_424 F_424 W_424 (sf_weak B466 (by decide) (by decide)) rfl
        · refine pm_R_lo pm_M72 (pc_q := 37) rfl rfl rfl ?_
          refine pm_R_get pm_M72 (pc_q := 40) (v := .ref 34) rfl rfl T_424.e33 (by decide) (T_424.lt (by decide)) rfl rfl ?_
          refine pm_R_lo pm_M72 (pc_q := 41) rfl rfl rfl ?_
          refine pm_R_lo pm_M72 (pc_q := 42) rfl rfl rfl ?_
          refine pm_R_cs pm_M72 (pc_q := 45) (ra := [.int a0, .int a0]) (rest := [.ref 34]) (ls_q := [.int a0, .int a0]) rfl rfl (Or.inr rfl) pm_M73 rfl rfl (Nat.le_of_ble_eq_true rfl) rfl rfl ?_
          refine pm_R_lo pm_M73 (pc_q := 1) rfl rfl rfl ?_
          refine pm_R_lo pm_M73 (pc_q := 2) rfl rfl rfl ?_
          refine pm_R_op pm_M73 (pc_q := 3) (st_q := [.int 1, .int a0, .int a0]) rfl rfl rfl ?_
          refine sf_R_iadd pm_M73 (pc_q := 4) rfl rfl Ba0 sf_k1 (by decide) (by decide) (fun z467 e468 B469 => ?_)
          refine sf_R_imul pm_M73 (pc_q := 5) rfl rfl Ba0 B469 (by decide) (by decide) (by decide) (fun z470 e471 B472 => ?_)
          refine pm_R_op pm_M73 (pc_q := 6) (st_q := [.int 2, .int z470]) rfl rfl rfl ?_
          refine sf_R_idiv pm_M73 (pc_q := 7) rfl rfl B472 sf_k2 (by decide) (by decide) (fun z473 e474 B475 => ?_)
          refine pm_R_lo pm_M73 (pc_q := 8) rfl rfl rfl ?_
          refine sf_R_iadd pm_M73 (pc_q := 9) rfl rfl B475 Ba0 (by decide) (by decide) (fun z476 e477 B478 => ?_)
          refine pm_R_ret pm_M73 (r := some (.int z476)) rfl (pm_ret_i _) ?_
          show pm_R _ 72 45 [.ref 33, .int a0, .int x2_424] [.int z476, .ref 34] _ _
          refine pm_R_op pm_M72 (pc_q := 47) (st_q := [.int 6, .int z476, .ref 34]) rfl rfl rfl ?_
          refine sf_R_imul pm_M72 (pc_q := 48) rfl rfl B478 sf_k6 (by decide) (by decide) (by decide) (fun z479 e480 B481 => ?_)
          refine pm_R_lo pm_M72 (pc_q := 49) rfl rfl rfl ?_
          refine pm_R_get pm_M72 (pc_q := 52) (v := .ref lo) rfl rfl T_424.e33 (by decide) (T_424.lt (by decide)) (by show some (va_rf (o 1)) = _; rw [ol]; rfl) rfl ?_
          refine pm_R_get pm_M72 (pc_q := 55) (v := .ref (lo + 4)) rfl rfl (T_424.im hkl (by decide) (by decide) eE439) (G.ge hkl (by decide)) (T_424.al hkl (by decide)) rfl rfl ?_
          refine pm_R_lo pm_M72 (pc_q := 56) rfl rfl rfl ?_
          refine pm_R_op pm_M72 (pc_q := 57) (st_q := [.int 4, .int x2_424, .ref (lo + 4), .int z479, .ref 34]) rfl rfl rfl ?_
          refine sf_R_imulV pm_M72 (pc_q := 58) rfl rfl B450 sf_k4 (by decide) (by decide) (by decide) e453 ?_
          refine pm_R_op pm_M72 (pc_q := 59) (st_q := [.int 1, .int z452, .ref (lo + 4), .int z479, .ref 34]) rfl rfl rfl ?_
          refine sf_R_iadd pm_M72 (pc_q := 60) rfl rfl B454 sf_k1 (by decide) (by decide) (fun z482 e483 B484 => ?_)
          have q488 := cl_in4 (n := tc429) (Nat.le_trans h437 (by decide)) (Int32.not_le.mp c449) (cl_aux7 _ _ _ e453 e483) B450 (by decide) (by decide)
          obtain ⟨z485, ez486⟩ : ∃ y, ft434 (Int32.toNatClampNeg z482) = y := ⟨_, rfl⟩
          have B487 : sf_B 0 5 z485 := ez486 ▸ q488.2.2 ▸ (b446 _ q488.2.1).2.1
          refine pm_R_iald pm_M72 (pc_q := 61) (v := z485) rfl (T_424.im kq448.2.2.2.1 (by decide) (by decide) eE443) (T_424.al kq448.2.2.2.1 (by decide)) q488.1 ez486 rfl ?_
          refine sf_R_iadd pm_M72 (pc_q := 62) rfl rfl B481 B487 (by decide) (by decide) (fun z489 e490 B491 => ?_)
          refine pm_R_op pm_M72 (pc_q := 63) (st_q := [.int z489, .ref 34, .int z489, .ref 34]) rfl rfl rfl ?_
          obtain ⟨f495, e496⟩ := T_424.C 34 (by decide) (by decide)
          obtain ⟨z492, ez493⟩ : ∃ y, f495 (Int32.toNatClampNeg z489) = y := ⟨_, rfl⟩
          refine pm_R_lald pm_M72 (pc_q := 64) (v := z492) rfl e496 (by decide) (T_424.lt (by decide)) (sf_in B491 (by decide) (by decide)) ez493 rfl ?_
          refine pm_R_op pm_M72 (pc_q := 65) (st_q := [.long 1, .long z492, .int z489, .ref 34]) rfl rfl rfl ?_
          refine sf_R_lany pm_M72 (pc_q := 66) (st := [.int z489, .ref 34]) rfl rfl rfl (fun z498 => ?_)
          refine cl_R_lst G pm_M72 T_424 (pc_q := 67) rfl e496 (by decide) ⟨_, rfl⟩ (sf_in B491 (by decide) (by decide)) rfl (fun h499 T500 F501 e502 => ?_)
          have F503 := F501.cl (ck := ck) T_424.1
          have F504 := F_424.trans (N := 0) (S := 0) F503 (by decide) (by decide) (by decide)
          refine sf_R_iinc pm_M72 (pc_q := 70) (ls_q := fun z => [.ref 33, .int a0, .int z]) rfl B450 rfl (by decide) (by decide) (by decide) (fun _ => rfl) rfl (fun z505 e506 B507 => ?_)
          show pm_R _ 72 70 [.ref 33, .int a0, .int z505] [] _ _
          refine pm_R_br pm_M72 (pc_q := 2) rfl rfl ?_
          exact ih_424 _ (sf_up hN_424 e506 B450 (by decide) (by decide)) h499 m_424 z505 T500 F504 W_424 (sf_weak B507 (by decide) (by decide)) rfl
  exact L_424 _ h m 0 T (cl_F.refl (ck := ck) (A := [34]) (n := 0) (s := 0) T.1) (rf_W.refl _ _) (sf_weak sf_k0 (by decide) (by decide)) rfl

set_option maxRecDepth 100000 in
set_option maxHeartbeats 4000000 in
/-- SilentTable$TreeChart.fillPart -/
theorem cl_c74 {d : Nat} {ck : cl_K} {E : Nat → pm_E} {m : Nat → Int32} {o : Nat → Option Nat} {h : pm_H} {Q : Option Value → pm_H → Prop} {a0 : Int32} {a1 : Int32} (G : cl_G ck E) (T : cl_T ck E m o h) (Ba0 : sf_B 0 11 a0) (Ba1 : sf_B 0 11 a1) {lo ro : Nat} (ol : o 1 = some lo) (orr : o 2 = some ro) (K : ∀ (m_q : Nat → Int32) (h_q : pm_H), cl_T ck E m_q o h_q → cl_F ck [34] 0 0 h h_q → rf_W [] m m_q → Q none h_q) : pm_R (d + 2) 74 0 [.ref 33, .int a0, .int a1, pm_no, pm_no, pm_no] [] h Q := by
  have hkl := T.oo.2.1 _ ol
  have hkr := T.oo.2.2 _ orr
  refine pm_R_lo pm_M74 (pc_q := 1) rfl rfl rfl ?_
  refine pm_R_lo pm_M74 (pc_q := 2) (ls_q := [.ref 33, .int a0, .int a1, .int a0, pm_no, pm_no]) (st_q := []) rfl rfl rfl ?_
  have L_1367 : ∀ (N : Nat) (h_1367 : pm_H) (m_1367 : Nat → Int32) (x3_1367 : Int32) (g4_1367 : Value) (g5_1367 : Value), cl_T ck E m_1367 o h_1367 → cl_F ck [34] 0 0 h h_1367 → rf_W [] m m_1367 → sf_B 0 11 x3_1367 → g4_1367.category = 1 → g5_1367.category = 1 → (11 - x3_1367.toInt).toNat = N → pm_R (d + 2) 74 2 [.ref 33, .int a0, .int a1, .int x3_1367, g4_1367, g5_1367] [] h_1367 Q := by
    intro N
    induction N using Nat.strongRecOn with
    | ind N ih_1367 =>
      intro h_1367 m_1367 x3_1367 g4_1367 g5_1367 T_1367 F_1367 W_1367 Bx3_1367 Cg4_1367 Cg5_1367 hN_1367
      have W1370 : rf_W [] m m_1367 := (rf_W.refl [] m).trans W_1367 (by decide)
      refine pm_R_lo pm_M74 (pc_q := 3) rfl rfl rfl ?_
      refine pm_R_lo pm_M74 (pc_q := 4) rfl rfl rfl ?_
      refine pm_R_icmp pm_M74 (t := 93) (pc_q := 7) rfl rfl rfl (fun c1371 => ?_) (fun c1371 => ?_)
      · skip
        exact pm_R_ret pm_M74 (r := none) rfl rfl (K m_1367 h_1367 T_1367 F_1367 W1370)
      · have B1372 : sf_B 0 10 x3_1367 := sf_ltL (Int32.not_le.mp c1371) Bx3_1367 Ba1
        have B1373 : sf_B 1 11 a1 := sf_ltR (Int32.not_le.mp c1371) Bx3_1367 Ba1
        refine pm_R_op pm_M74 (pc_q := 8) (st_q := [.int 0]) rfl rfl rfl ?_
        refine pm_R_lo pm_M74 (pc_q := 10) (ls_q := [.ref 33, .int a0, .int a1, .int x3_1367, .int 0, g5_1367]) (st_q := []) rfl rfl rfl ?_
        have L_2049 : ∀ (N : Nat) (h_2049 : pm_H) (m_2049 : Nat → Int32) (x4_2049 : Int32) (g5_2049 : Value), cl_T ck E m_2049 o h_2049 → cl_F ck [34] 0 0 h h_2049 → rf_W [] m_1367 m_2049 → sf_B 0 10 x4_2049 → g5_2049.category = 1 → (10 - x4_2049.toInt).toNat = N → pm_R (d + 2) 74 10 [.ref 33, .int a0, .int a1, .int x3_1367, .int x4_2049, g5_2049] [] h_2049 Q := by
          intro N
          induction N using Nat.strongRecOn with
          | ind N ih_2049 =>
            intro h_2049 m_2049 x4_2049 g5_2049 T_2049 F_2049 W_2049 Bx4_2049 Cg5_2049 hN_2049
            have W2052 : rf_W [] m m_2049 := W1370.trans W_2049 (by decide)
            have W2053 : rf_W [] m m_2049 := W_1367.trans W_2049 (by decide)
            refine pm_R_lo pm_M74 (pc_q := 12) rfl rfl rfl ?_
            refine pm_R_lo pm_M74 (pc_q := 13) rfl rfl rfl ?_
            refine pm_R_get pm_M74 (pc_q := 16) (v := .ref lo) rfl rfl T_2049.e33 (by decide) (T_2049.lt (by decide)) (by show some (va_rf (o 1)) = _; rw [ol]; rfl) rfl ?_
            obtain ⟨rc2054, tc2055, rs2056, fv2057, fw2058, fr2059, ft2060, fn2061, h2062, h2063, B2064, eE2065, eE2066, eE2067, eE2068, eE2069, eE2070, b2071, b2072, b2073⟩ := (G.2.1 lo hkl).2.2.2.2.2
            have kq2074 := G.2.1 lo hkl
            refine pm_R_get pm_M74 (pc_q := 19) (v := .int (Int32.ofNat rc2054)) rfl rfl (T_2049.im hkl (by decide) (by decide) eE2065) (G.ge hkl (by decide)) (T_2049.al hkl (by decide)) rfl rfl ?_
            refine pm_R_icmp pm_M74 (t := 87) (pc_q := 22) rfl rfl rfl (fun c2075 => ?_) (fun c2075 => ?_)
            · skip
              refine sf_R_iinc pm_M74 (pc_q := 90) (ls_q := fun z => [.ref 33, .int a0, .int a1, .int z, .int x4_2049, g5_2049]) rfl B1372 rfl (by decide) (by decide) (by decide) (fun _ => rfl) rfl (fun z2076 e2077 B2078 => ?_)
              show pm_R _ 74 90 [.ref 33, .int a0, .int a1, .int z2076, .int x4_2049, g5_2049] [] _ _
              refine pm_R_br pm_M74 (pc_q := 2) rfl rfl ?_
              exact ih_1367 _ (sf_up hN_1367 e2077 B1372 (by decide) (by decide)) h_2049 m_2049 z2076 (.int x4_2049) (g5_2049) T_2049 F_2049 W2053 (sf_weak B2078 (by decide) (by decide)) rfl Cg5_2049 rfl
            · have B2079 : sf_B 0 9 x4_2049 := sf_ltL (Int32.not_le.mp c2075) Bx4_2049 (sf_ofB h2062 (by decide))
              have B2080 : sf_B 1 10 (Int32.ofNat rc2054) := sf_ltR (Int32.not_le.mp c2075) Bx4_2049 (sf_ofB h2062 (by decide))
              refine pm_R_lo pm_M74 (pc_q := 23) rfl rfl rfl ?_
              refine pm_R_lo pm_M74 (pc_q := 24) rfl rfl rfl ?_
              refine pm_R_cs pm_M74 (pc_q := 27) (ra := [.int a1, .int a0]) (rest := []) (ls_q := [.int a0, .int a1]) rfl rfl (Or.inr rfl) pm_M73 rfl rfl (Nat.le_of_ble_eq_true rfl) rfl rfl ?_
              refine pm_R_lo pm_M73 (pc_q := 1) rfl rfl rfl ?_
              refine pm_R_lo pm_M73 (pc_q := 2) rfl rfl rfl ?_
              refine pm_R_op pm_M73 (pc_q := 3) (st_q := [.int 1, .int a1, .int a1]) rfl rfl rfl ?_
              refine sf_R_iadd pm_M73 (pc_q := 4) rfl rfl B1373 sf_k1 (by decide) (by decide) (fun z2081 e2082 B2083 => ?_)
              refine sf_R_imul pm_M73 (pc_q := 5) rfl rfl B1373 B2083 (by decide) (by decide) (by decide) (fun z2084 e2085 B2086 => ?_)
              refine pm_R_op pm_M73 (pc_q := 6) (st_q := [.int 2, .int z2084]) rfl rfl rfl ?_
              refine sf_R_idiv pm_M73 (pc_q := 7) rfl rfl B2086 sf_k2 (by decide) (by decide) (fun z2087 e2088 B2089 => ?_)
              refine pm_R_lo pm_M73 (pc_q := 8) rfl rfl rfl ?_
              refine sf_R_iadd pm_M73 (pc_q := 9) rfl rfl B2089 Ba0 (by decide) (by decide) (fun z2090 e2091 B2092 => ?_)
              refine pm_R_ret pm_M73 (r := some (.int z2090)) rfl (pm_ret_i _) ?_
              show pm_R _ 74 27 [.ref 33, .int a0, .int a1, .int x3_1367, .int x4_2049, g5_2049] [.int z2090] _ _
              refine pm_R_op pm_M74 (pc_q := 29) (st_q := [.int 6, .int z2090]) rfl rfl rfl ?_
              refine sf_R_imul pm_M74 (pc_q := 30) rfl rfl B2092 sf_k6 (by decide) (by decide) (by decide) (fun z2093 e2094 B2095 => ?_)
              refine pm_R_lo pm_M74 (pc_q := 31) rfl rfl rfl ?_
              refine pm_R_get pm_M74 (pc_q := 34) (v := .ref lo) rfl rfl T_2049.e33 (by decide) (T_2049.lt (by decide)) (by show some (va_rf (o 1)) = _; rw [ol]; rfl) rfl ?_
              refine pm_R_get pm_M74 (pc_q := 37) (v := .ref (lo + 3)) rfl rfl (T_2049.im hkl (by decide) (by decide) eE2065) (G.ge hkl (by decide)) (T_2049.al hkl (by decide)) rfl rfl ?_
              refine pm_R_lo pm_M74 (pc_q := 39) rfl rfl rfl ?_
              refine pm_R_op pm_M74 (pc_q := 40) (st_q := [.int 4, .int x4_2049, .ref (lo + 3), .int z2093]) rfl rfl rfl ?_
              refine sf_R_imul pm_M74 (pc_q := 41) rfl rfl B2079 sf_k4 (by decide) (by decide) (by decide) (fun z2096 e2097 B2098 => ?_)
              have q2102 := cl_in4 (n := rc2054) (Nat.le_trans h2062 (by decide)) (Int32.not_le.mp c2075) (cl_aux5 _ _ e2097) B2079 (by decide) (by decide)
              obtain ⟨z2099, ez2100⟩ : ∃ y, fr2059 (Int32.toNatClampNeg z2096) = y := ⟨_, rfl⟩
              have B2101 : sf_B 0 5 z2099 := ez2100 ▸ q2102.2.2 ▸ (b2071 _ q2102.2.1).1
              refine pm_R_iald pm_M74 (pc_q := 42) (v := z2099) rfl (T_2049.im kq2074.2.2.1 (by decide) (by decide) eE2068) (T_2049.al kq2074.2.2.1 (by decide)) q2102.1 ez2100 rfl ?_
              refine sf_R_iadd pm_M74 (pc_q := 43) rfl rfl B2095 B2101 (by decide) (by decide) (fun z2103 e2104 B2105 => ?_)
              refine pm_R_lo pm_M74 (pc_q := 45) (ls_q := [.ref 33, .int a0, .int a1, .int x3_1367, .int x4_2049, .int z2103]) (st_q := []) rfl rfl rfl ?_
              refine pm_R_lo pm_M74 (pc_q := 46) rfl rfl rfl ?_
              refine pm_R_get pm_M74 (pc_q := 49) (v := .ref 34) rfl rfl T_2049.e33 (by decide) (T_2049.lt (by decide)) rfl rfl ?_
              refine pm_R_lo pm_M74 (pc_q := 51) rfl rfl rfl ?_
              refine pm_R_lo pm_M74 (pc_q := 52) rfl rfl rfl ?_
              refine pm_R_get pm_M74 (pc_q := 55) (v := .ref 34) rfl rfl T_2049.e33 (by decide) (T_2049.lt (by decide)) rfl rfl ?_
              refine pm_R_lo pm_M74 (pc_q := 57) rfl rfl rfl ?_
              obtain ⟨f2109, e2110⟩ := T_2049.C 34 (by decide) (by decide)
              obtain ⟨z2106, ez2107⟩ : ∃ y, f2109 (Int32.toNatClampNeg z2103) = y := ⟨_, rfl⟩
              refine pm_R_lald pm_M74 (pc_q := 58) (v := z2106) rfl e2110 (by decide) (T_2049.lt (by decide)) (sf_in B2105 (by decide) (by decide)) ez2107 rfl ?_
              refine pm_R_lo pm_M74 (pc_q := 59) rfl rfl rfl ?_
              refine pm_R_lo pm_M74 (pc_q := 61) rfl rfl rfl ?_
              refine pm_R_lo pm_M74 (pc_q := 62) rfl rfl rfl ?_
              refine pm_R_lo pm_M74 (pc_q := 63) rfl rfl rfl ?_
              refine pm_R_cv pm_M74 (pc_q := 66) (a := 33) (ra := [.int x3_1367, .int a0, .int x4_2049]) (rest := [.long z2106, .int z2103, .ref 34]) (ls_q := [.ref 33, .int x4_2049, .int a0, .int x3_1367]) rfl rfl (Or.inl rfl) pm_M75 T_2049.e33 rfl (by decide) (T_2049.lt (by decide)) rfl rfl (Nat.le_of_ble_eq_true rfl) rfl rfl ?_
              refine pm_R_lo pm_M75 (pc_q := 1) rfl rfl rfl ?_
              refine pm_R_get pm_M75 (pc_q := 4) (v := .ref 34) rfl rfl T_2049.e33 (by decide) (T_2049.lt (by decide)) rfl rfl ?_
              refine pm_R_lo pm_M75 (pc_q := 5) rfl rfl rfl ?_
              refine pm_R_lo pm_M75 (pc_q := 6) rfl rfl rfl ?_
              refine pm_R_cs pm_M75 (pc_q := 9) (ra := [.int x3_1367, .int a0]) (rest := [.ref 34]) (ls_q := [.int a0, .int x3_1367]) rfl rfl (Or.inr rfl) pm_M73 rfl rfl (Nat.le_of_ble_eq_true rfl) rfl rfl ?_
              refine pm_R_lo pm_M73 (pc_q := 1) rfl rfl rfl ?_
              refine pm_R_lo pm_M73 (pc_q := 2) rfl rfl rfl ?_
              refine pm_R_op pm_M73 (pc_q := 3) (st_q := [.int 1, .int x3_1367, .int x3_1367]) rfl rfl rfl ?_
              refine sf_R_iadd pm_M73 (pc_q := 4) rfl rfl B1372 sf_k1 (by decide) (by decide) (fun z2112 e2113 B2114 => ?_)
              refine sf_R_imul pm_M73 (pc_q := 5) rfl rfl B1372 B2114 (by decide) (by decide) (by decide) (fun z2115 e2116 B2117 => ?_)
              refine pm_R_op pm_M73 (pc_q := 6) (st_q := [.int 2, .int z2115]) rfl rfl rfl ?_
              refine sf_R_idiv pm_M73 (pc_q := 7) rfl rfl B2117 sf_k2 (by decide) (by decide) (fun z2118 e2119 B2120 => ?_)
              refine pm_R_lo pm_M73 (pc_q := 8) rfl rfl rfl ?_
              refine sf_R_iadd pm_M73 (pc_q := 9) rfl rfl B2120 Ba0 (by decide) (by decide) (fun z2121 e2122 B2123 => ?_)
              refine pm_R_ret pm_M73 (r := some (.int z2121)) rfl (pm_ret_i _) ?_
              show pm_R _ 75 9 [.ref 33, .int x4_2049, .int a0, .int x3_1367] [.int z2121, .ref 34] _ _
              refine pm_R_op pm_M75 (pc_q := 11) (st_q := [.int 6, .int z2121, .ref 34]) rfl rfl rfl ?_
              refine sf_R_imul pm_M75 (pc_q := 12) rfl rfl B2123 sf_k6 (by decide) (by decide) (by decide) (fun z2124 e2125 B2126 => ?_)
              refine pm_R_lo pm_M75 (pc_q := 13) rfl rfl rfl ?_
              refine pm_R_get pm_M75 (pc_q := 16) (v := .ref lo) rfl rfl T_2049.e33 (by decide) (T_2049.lt (by decide)) (by show some (va_rf (o 1)) = _; rw [ol]; rfl) rfl ?_
              refine pm_R_get pm_M75 (pc_q := 19) (v := .ref (lo + 3)) rfl rfl (T_2049.im hkl (by decide) (by decide) eE2065) (G.ge hkl (by decide)) (T_2049.al hkl (by decide)) rfl rfl ?_
              refine pm_R_lo pm_M75 (pc_q := 20) rfl rfl rfl ?_
              refine pm_R_op pm_M75 (pc_q := 21) (st_q := [.int 4, .int x4_2049, .ref (lo + 3), .int z2124, .ref 34]) rfl rfl rfl ?_
              refine sf_R_imulV pm_M75 (pc_q := 22) rfl rfl B2079 sf_k4 (by decide) (by decide) (by decide) e2097 ?_
              refine pm_R_op pm_M75 (pc_q := 23) (st_q := [.int 1, .int z2096, .ref (lo + 3), .int z2124, .ref 34]) rfl rfl rfl ?_
              refine sf_R_iadd pm_M75 (pc_q := 24) rfl rfl B2098 sf_k1 (by decide) (by decide) (fun z2127 e2128 B2129 => ?_)
              have q2133 := cl_in4 (n := rc2054) (Nat.le_trans h2062 (by decide)) (Int32.not_le.mp c2075) (cl_aux7 _ _ _ e2097 e2128) B2079 (by decide) (by decide)
              obtain ⟨z2130, ez2131⟩ : ∃ y, fr2059 (Int32.toNatClampNeg z2127) = y := ⟨_, rfl⟩
              have B2132 : sf_B 0 5 z2130 := ez2131 ▸ q2133.2.2 ▸ (b2071 _ q2133.2.1).2.1
              refine pm_R_iald pm_M75 (pc_q := 25) (v := z2130) rfl (T_2049.im kq2074.2.2.1 (by decide) (by decide) eE2068) (T_2049.al kq2074.2.2.1 (by decide)) q2133.1 ez2131 rfl ?_
              refine sf_R_iadd pm_M75 (pc_q := 26) rfl rfl B2126 B2132 (by decide) (by decide) (fun z2134 e2135 B2136 => ?_)
              obtain ⟨z2137, ez2138⟩ : ∃ y, f2109 (Int32.toNatClampNeg z2134) = y := ⟨_, rfl⟩
              refine pm_R_lald pm_M75 (pc_q := 27) (v := z2137) rfl e2110 (by decide) (T_2049.lt (by decide)) (sf_in B2136 (by decide) (by decide)) ez2138 rfl ?_
              refine pm_R_ret pm_M75 (r := some (.long z2137)) rfl rfl ?_
              show pm_R _ 74 66 [.ref 33, .int a0, .int a1, .int x3_1367, .int x4_2049, .int z2103] [.long z2137, .long z2106, .int z2103, .ref 34] _ _
              refine pm_R_lo pm_M74 (pc_q := 67) rfl rfl rfl ?_
              refine pm_R_lo pm_M74 (pc_q := 69) rfl rfl rfl ?_
              refine pm_R_lo pm_M74 (pc_q := 70) rfl rfl rfl ?_
              refine pm_R_lo pm_M74 (pc_q := 71) rfl rfl rfl ?_
              refine pm_R_cv pm_M74 (pc_q := 74) (a := 33) (ra := [.int a1, .int x3_1367, .int x4_2049]) (rest := [.long z2137, .long z2106, .int z2103, .ref 34]) (ls_q := [.ref 33, .int x4_2049, .int x3_1367, .int a1]) rfl rfl (Or.inl rfl) pm_M76 T_2049.e33 rfl (by decide) (T_2049.lt (by decide)) rfl rfl (Nat.le_of_ble_eq_true rfl) rfl rfl ?_
              refine pm_R_lo pm_M76 (pc_q := 1) rfl rfl rfl ?_
              refine pm_R_get pm_M76 (pc_q := 4) (v := .ref 34) rfl rfl T_2049.e33 (by decide) (T_2049.lt (by decide)) rfl rfl ?_
              refine pm_R_lo pm_M76 (pc_q := 5) rfl rfl rfl ?_
              refine pm_R_op pm_M76 (pc_q := 6) (st_q := [.int 1, .int x3_1367, .ref 34]) rfl rfl rfl ?_
              refine sf_R_iaddV pm_M76 (pc_q := 7) rfl rfl B1372 sf_k1 (by decide) (by decide) e2113 ?_
              refine pm_R_lo pm_M76 (pc_q := 8) rfl rfl rfl ?_
              refine pm_R_cs pm_M76 (pc_q := 11) (ra := [.int a1, .int z2112]) (rest := [.ref 34]) (ls_q := [.int z2112, .int a1]) rfl rfl (Or.inr rfl) pm_M73 rfl rfl (Nat.le_of_ble_eq_true rfl) rfl rfl ?_
              refine pm_R_lo pm_M73 (pc_q := 1) rfl rfl rfl ?_
              refine pm_R_lo pm_M73 (pc_q := 2) rfl rfl rfl ?_
              refine pm_R_op pm_M73 (pc_q := 3) (st_q := [.int 1, .int a1, .int a1]) rfl rfl rfl ?_
              refine sf_R_iaddV pm_M73 (pc_q := 4) rfl rfl B1373 sf_k1 (by decide) (by decide) e2082 ?_
              refine sf_R_imulV pm_M73 (pc_q := 5) rfl rfl B1373 B2083 (by decide) (by decide) (by decide) e2085 ?_
              refine pm_R_op pm_M73 (pc_q := 6) (st_q := [.int 2, .int z2084]) rfl rfl rfl ?_
              refine sf_R_idiv pm_M73 (pc_q := 7) rfl rfl B2086 sf_k2 (by decide) (by decide) (fun z2140 e2141 B2142 => ?_)
              refine pm_R_lo pm_M73 (pc_q := 8) rfl rfl rfl ?_
              refine sf_R_iadd pm_M73 (pc_q := 9) rfl rfl B2142 B2114 (by decide) (by decide) (fun z2143 e2144 B2145 => ?_)
              refine pm_R_ret pm_M73 (r := some (.int z2143)) rfl (pm_ret_i _) ?_
              show pm_R _ 76 11 [.ref 33, .int x4_2049, .int x3_1367, .int a1] [.int z2143, .ref 34] _ _
              refine pm_R_op pm_M76 (pc_q := 13) (st_q := [.int 6, .int z2143, .ref 34]) rfl rfl rfl ?_
              refine sf_R_imul pm_M76 (pc_q := 14) rfl rfl B2145 sf_k6 (by decide) (by decide) (by decide) (fun z2146 e2147 B2148 => ?_)
              refine pm_R_lo pm_M76 (pc_q := 15) rfl rfl rfl ?_
              refine pm_R_get pm_M76 (pc_q := 18) (v := .ref lo) rfl rfl T_2049.e33 (by decide) (T_2049.lt (by decide)) (by show some (va_rf (o 1)) = _; rw [ol]; rfl) rfl ?_
              refine pm_R_get pm_M76 (pc_q := 21) (v := .ref (lo + 3)) rfl rfl (T_2049.im hkl (by decide) (by decide) eE2065) (G.ge hkl (by decide)) (T_2049.al hkl (by decide)) rfl rfl ?_
              refine pm_R_lo pm_M76 (pc_q := 22) rfl rfl rfl ?_
              refine pm_R_op pm_M76 (pc_q := 23) (st_q := [.int 4, .int x4_2049, .ref (lo + 3), .int z2146, .ref 34]) rfl rfl rfl ?_
              refine sf_R_imulV pm_M76 (pc_q := 24) rfl rfl B2079 sf_k4 (by decide) (by decide) (by decide) e2097 ?_
              refine pm_R_op pm_M76 (pc_q := 25) (st_q := [.int 2, .int z2096, .ref (lo + 3), .int z2146, .ref 34]) rfl rfl rfl ?_
              refine sf_R_iadd pm_M76 (pc_q := 26) rfl rfl B2098 sf_k2 (by decide) (by decide) (fun z2149 e2150 B2151 => ?_)
              have q2155 := cl_in4 (n := rc2054) (Nat.le_trans h2062 (by decide)) (Int32.not_le.mp c2075) (cl_aux6 _ _ _ e2097 e2150) B2079 (by decide) (by decide)
              obtain ⟨z2152, ez2153⟩ : ∃ y, fr2059 (Int32.toNatClampNeg z2149) = y := ⟨_, rfl⟩
              have B2154 : sf_B 0 5 z2152 := ez2153 ▸ q2155.2.2 ▸ (b2071 _ q2155.2.1).2.2
              refine pm_R_iald pm_M76 (pc_q := 27) (v := z2152) rfl (T_2049.im kq2074.2.2.1 (by decide) (by decide) eE2068) (T_2049.al kq2074.2.2.1 (by decide)) q2155.1 ez2153 rfl ?_
              refine sf_R_iadd pm_M76 (pc_q := 28) rfl rfl B2148 B2154 (by decide) (by decide) (fun z2156 e2157 B2158 => ?_)
              obtain ⟨z2159, ez2160⟩ : ∃ y, f2109 (Int32.toNatClampNeg z2156) = y := ⟨_, rfl⟩
              refine pm_R_lald pm_M76 (pc_q := 29) (v := z2159) rfl e2110 (by decide) (T_2049.lt (by decide)) (sf_in B2158 (by decide) (by decide)) ez2160 rfl ?_
              refine pm_R_ret pm_M76 (r := some (.long z2159)) rfl rfl ?_
              show pm_R _ 74 74 [.ref 33, .int a0, .int a1, .int x3_1367, .int x4_2049, .int z2103] [.long z2159, .long z2137, .long z2106, .int z2103, .ref 34] _ _
              refine pm_R_cs pm_M74 (pc_q := 77) (ra := [.long z2159, .long z2137]) (rest := [.long z2106, .int z2103, .ref 34]) (ls_q := [.long z2137, pm_no, .long z2159, pm_no]) rfl rfl (Or.inr rfl) pm_M77 rfl rfl (Nat.le_of_ble_eq_true rfl) rfl rfl ?_
              refine cl_c77 (d := d + 1)  (fun r2162 => ?_)
              show pm_R _ 74 77 [.ref 33, .int a0, .int a1, .int x3_1367, .int x4_2049, .int z2103] [.long r2162, .long z2106, .int z2103, .ref 34] _ _
              refine pm_R_cs pm_M74 (pc_q := 80) (ra := [.long r2162, .long z2106]) (rest := [.int z2103, .ref 34]) (ls_q := [.long z2106, pm_no, .long r2162, pm_no]) rfl rfl (Or.inr rfl) pm_M78 rfl rfl (Nat.le_of_ble_eq_true rfl) rfl rfl ?_
              refine cl_c78 (d := d + 1)  (fun r2169 => ?_)
              show pm_R _ 74 80 [.ref 33, .int a0, .int a1, .int x3_1367, .int x4_2049, .int z2103] [.long r2169, .int z2103, .ref 34] _ _
              refine cl_R_lst G pm_M74 T_2049 (pc_q := 81) rfl e2110 (by decide) ⟨_, rfl⟩ (sf_in B2105 (by decide) (by decide)) rfl (fun h2176 T2177 F2178 e2179 => ?_)
              have F2180 := F2178.cl (ck := ck) T_2049.1
              have F2181 := F_2049.trans (N := 0) (S := 0) F2180 (by decide) (by decide) (by decide)
              refine sf_R_iinc pm_M74 (pc_q := 84) (ls_q := fun z => [.ref 33, .int a0, .int a1, .int x3_1367, .int z, .int z2103]) rfl B2079 rfl (by decide) (by decide) (by decide) (fun _ => rfl) rfl (fun z2182 e2183 B2184 => ?_)
              show pm_R _ 74 84 [.ref 33, .int a0, .int a1, .int x3_1367, .int z2182, .int z2103] [] _ _
              refine pm_R_br pm_M74 (pc_q := 10) rfl rfl ?_
              exact ih_2049 _ (sf_up hN_2049 e2183 B2079 (by decide) (by decide)) h2176 m_2049 z2182 (.int z2103) T2177 F2181 W_2049 (sf_weak B2184 (by decide) (by decide)) rfl rfl
        exact L_2049 _ h_1367 m_1367 0 (g5_1367) T_1367 F_1367 (rf_W.refl _ _) (sf_weak sf_k0 (by decide) (by decide)) Cg5_1367 rfl
  exact L_1367 _ h m a0 (pm_no) (pm_no) T (cl_F.refl (ck := ck) (A := [34]) (n := 0) (s := 0) T.1) (rf_W.refl _ _) Ba0 rfl rfl rfl

set_option maxRecDepth 100000 in
set_option maxHeartbeats 4000000 in
/-- SilentTable$TreeChart.countFor -/
theorem cl_c70 {d : Nat} {ck : cl_K} {E : Nat → pm_E} {m : Nat → Int32} {o : Nat → Option Nat} {h : pm_H} {Q : Option Value → pm_H → Prop} {a0 : Nat} {a1 : Nat} (G : cl_G ck E) (T : cl_T ck E m o h) (hk0 : ck a0 = 1) (hk1 : ck a1 = 7) (K : ∀ (m_q : Nat → Int32) (o_q : Nat → Option Nat) (h_q : pm_H), cl_T ck E m_q o_q h_q → cl_F ck [33, 34] 0 0 h h_q → rf_W [] m m_q → o_q 1 = some a0 → o_q 2 = some a1 → Q none h_q) : pm_R (d + 3) 70 0 [.ref 33, .ref a0, .ref a1, pm_no, pm_no] [] h Q := by
  refine pm_R_lo pm_M70 (pc_q := 1) rfl rfl rfl ?_
  refine pm_R_get pm_M70 (pc_q := 4) (v := va_rf (o 1)) rfl rfl T.e33 (by decide) (T.lt (by decide)) rfl rfl ?_
  refine pm_R_lo pm_M70 (pc_q := 5) rfl rfl rfl ?_
  refine cl_R_acmp pm_M70 (t := 17) (pc_q := 8) rfl rfl rfl (G.ge hk0 (by decide)) (cl_og1 G T) (fun c1 => ?_) (fun c1 => ?_)
  · skip
    refine pm_R_lo pm_M70 (pc_q := 18) rfl rfl rfl ?_
    refine pm_R_lo pm_M70 (pc_q := 19) rfl rfl rfl ?_
    refine cl_R_puto33 G pm_M70 T (k := 1) (pc_q := 22) rfl rfl rfl (by decide) rfl rfl (cl_ok1 T hk0) rfl rfl rfl (fun h2 o5 eo6 T3 F4 => ?_)
    have eo7 : o5 1 = some a0 := by rw [eo6]; rfl
    have F8 := F4.cl (ck := ck) T.1
    have F9 := (cl_F.refl (ck := ck) (A := [33, 34]) (n := 0) (s := 0) T.1).trans (N := 0) (S := 0) F8 (by decide) (by decide) (by decide)
    refine pm_R_lo pm_M70 (pc_q := 23) rfl rfl rfl ?_
    refine pm_R_lo pm_M70 (pc_q := 24) rfl rfl rfl ?_
    refine cl_R_puto33 G pm_M70 T3 (k := 2) (pc_q := 27) rfl rfl rfl (by decide) rfl rfl (cl_ok2 T3 hk1) rfl rfl rfl (fun h10 o13 eo14 T11 F12 => ?_)
    have eo15 : o13 1 = some a0 := by rw [eo14]; exact eo7
    have eo16 : o13 2 = some a1 := by rw [eo14]; rfl
    have F17 := F12.cl (ck := ck) T3.1
    have F18 := F9.trans (N := 0) (S := 0) F17 (by decide) (by decide) (by decide)
    refine pm_R_lo pm_M70 (pc_q := 28) rfl rfl rfl ?_
    refine pm_R_get pm_M70 (pc_q := 31) (v := .ref 34) rfl rfl T11.e33 (by decide) (T11.lt (by decide)) rfl rfl ?_
    refine pm_R_op pm_M70 (pc_q := 32) (st_q := [.long 0, .ref 34]) rfl rfl rfl ?_
    refine pm_R_cs pm_M70 (pc_q := 35) (ra := [.long 0, .ref 34]) (rest := []) (ls_q := [.ref 34, .long 0, pm_no, pm_no, pm_no]) rfl rfl (Or.inl rfl) pm_M71 rfl rfl (Nat.le_of_ble_eq_true rfl) rfl rfl ?_
    refine cl_c71_34 (d := d + 2) G T11  (fun m21 h22 T23 F24 W25 => ?_)
    have F26 := F18.trans (N := 0) (S := 0) F24 (by decide) (by decide) (by decide)
    have W27 : rf_W [] m m21 := (rf_W.refl [] m).trans W25 (by decide)
    show pm_R _ 70 35 [.ref 33, .ref a0, .ref a1, pm_no, pm_no] [] _ _
    refine pm_R_op pm_M70 (pc_q := 36) (st_q := [.int 0]) rfl rfl rfl ?_
    refine pm_R_lo pm_M70 (pc_q := 37) (ls_q := [.ref 33, .ref a0, .ref a1, .int 0, pm_no]) (st_q := []) rfl rfl rfl ?_
    have L_412 : ∀ (N : Nat) (h_412 : pm_H) (m_412 : Nat → Int32) (x3_412 : Int32) (g4_412 : Value), cl_T ck E m_412 o13 h_412 → cl_F ck [33, 34] 0 0 h h_412 → rf_W [] m21 m_412 → sf_B 0 12 x3_412 → g4_412.category = 1 → (12 - x3_412.toInt).toNat = N → pm_R (d + 3) 70 37 [.ref 33, .ref a0, .ref a1, .int x3_412, g4_412] [] h_412 Q := by
      intro N
      induction N using Nat.strongRecOn with
      | ind N ih_412 =>
        intro h_412 m_412 x3_412 g4_412 T_412 F_412 W_412 Bx3_412 Cg4_412 hN_412
        have W415 : rf_W [] m m_412 := W27.trans W_412 (by decide)
        refine pm_R_lo pm_M70 (pc_q := 38) rfl rfl rfl ?_
        refine pm_R_lo pm_M70 (pc_q := 39) rfl rfl rfl ?_
        refine pm_R_get pm_M70 (pc_q := 42) (v := .ref a1) rfl rfl T_412.e33 (by decide) (T_412.lt (by decide)) (by show some (va_rf (o13 2)) = _; rw [eo16]; rfl) rfl ?_
        obtain ⟨n416, f417, h418, h419, eE420, eE421, b422⟩ := (G.2.2.1 a1 hk1).2
        have kq423 := (G.2.2.1 a1 hk1).1
        refine pm_R_get pm_M70 (pc_q := 45) (v := .int (Int32.ofNat n416)) rfl rfl (T_412.im hk1 (by decide) (by decide) eE420) (G.ge hk1 (by decide)) (T_412.al hk1 (by decide)) rfl rfl ?_
        refine pm_R_icmp pm_M70 (t := 82) (pc_q := 48) rfl rfl rfl (fun c424 => ?_) (fun c424 => ?_)
        · have B425 : sf_B 1 12 x3_412 := sf_leR c424 (sf_ofB1 h419 h418 (by decide)) Bx3_412
          exact pm_R_ret pm_M70 (r := none) rfl rfl (K m_412 o13 h_412 T_412 F_412 W415 eo15 eo16)
        · have B426 : sf_B 0 11 x3_412 := sf_ltL (Int32.not_le.mp c424) Bx3_412 (sf_ofB1 h419 h418 (by decide))
          refine pm_R_lo pm_M70 (pc_q := 49) rfl rfl rfl ?_
          refine pm_R_lo pm_M70 (pc_q := 50) rfl rfl rfl ?_
          refine pm_R_cv pm_M70 (pc_q := 53) (a := 33) (ra := [.int x3_412]) (rest := []) (ls_q := [.ref 33, .int x3_412, pm_no]) rfl rfl (Or.inl rfl) pm_M72 T_412.e33 rfl (by decide) (T_412.lt (by decide)) rfl rfl (Nat.le_of_ble_eq_true rfl) rfl rfl ?_
          refine cl_c72 (d := d + 1) G T_412 B426 eo15 eo16 eE420 (Int32.not_le.mp c424) (fun m429 h430 T431 F432 W433 => ?_)
          have F434 := F_412.trans (N := 0) (S := 0) F432 (by decide) (by decide) (by decide)
          have W435 : rf_W [] m m429 := W415.trans W433 (by decide)
          have W436 : rf_W [] m21 m429 := W_412.trans W433 (by decide)
          show pm_R _ 70 53 [.ref 33, .ref a0, .ref a1, .int x3_412, g4_412] [] _ _
          refine pm_R_lo pm_M70 (pc_q := 54) rfl rfl rfl ?_
          refine pm_R_op pm_M70 (pc_q := 55) (st_q := [.int 1, .int x3_412]) rfl rfl rfl ?_
          refine sf_R_isub pm_M70 (pc_q := 56) rfl rfl B426 sf_k1 (by decide) (by decide) (fun z437 e438 B439 => ?_)
          refine pm_R_lo pm_M70 (pc_q := 58) (ls_q := [.ref 33, .ref a0, .ref a1, .int x3_412, .int z437]) (st_q := []) rfl rfl rfl ?_
          have L_484 : ∀ (N : Nat) (h_484 : pm_H) (m_484 : Nat → Int32) (x4_484 : Int32), cl_T ck E m_484 o13 h_484 → cl_F ck [33, 34] 0 0 h h_484 → rf_W [] m429 m_484 → sf_B (-1) 10 x4_484 → (x4_484.toInt - (-1)).toNat = N → pm_R (d + 3) 70 58 [.ref 33, .ref a0, .ref a1, .int x3_412, .int x4_484] [] h_484 Q := by
            intro N
            induction N using Nat.strongRecOn with
            | ind N ih_484 =>
              intro h_484 m_484 x4_484 T_484 F_484 W_484 Bx4_484 hN_484
              have W487 : rf_W [] m m_484 := W435.trans W_484 (by decide)
              have W488 : rf_W [] m21 m_484 := W436.trans W_484 (by decide)
              refine pm_R_lo pm_M70 (pc_q := 60) rfl rfl rfl ?_
              refine pm_R_ifc pm_M70 (t := 76) (pc_q := 63) rfl rfl rfl (fun c489 => ?_) (fun c489 => ?_)
              · have B490 : sf_B (-1) (-1) x4_484 := sf_ltL c489 Bx4_484 sf_k0
                refine sf_R_iinc pm_M70 (pc_q := 79) (ls_q := fun z => [.ref 33, .ref a0, .ref a1, .int z, .int x4_484]) rfl B426 rfl (by decide) (by decide) (by decide) (fun _ => rfl) rfl (fun z491 e492 B493 => ?_)
                show pm_R _ 70 79 [.ref 33, .ref a0, .ref a1, .int z491, .int x4_484] [] _ _
                refine pm_R_br pm_M70 (pc_q := 37) rfl rfl ?_
                exact ih_412 _ (sf_up hN_412 e492 B426 (by decide) (by decide)) h_484 m_484 z491 (.int x4_484) T_484 F_484 W488 (sf_weak B493 (by decide) (by decide)) rfl rfl
              · have B494 : sf_B 0 10 x4_484 := sf_leR (Int32.not_lt.mp c489) sf_k0 Bx4_484
                refine pm_R_lo pm_M70 (pc_q := 64) rfl rfl rfl ?_
                refine pm_R_lo pm_M70 (pc_q := 66) rfl rfl rfl ?_
                refine pm_R_lo pm_M70 (pc_q := 67) rfl rfl rfl ?_
                refine pm_R_cv pm_M70 (pc_q := 70) (a := 33) (ra := [.int x3_412, .int x4_484]) (rest := []) (ls_q := [.ref 33, .int x4_484, .int x3_412, pm_no, pm_no, pm_no]) rfl rfl (Or.inl rfl) pm_M74 T_484.e33 rfl (by decide) (T_484.lt (by decide)) rfl rfl (Nat.le_of_ble_eq_true rfl) rfl rfl ?_
                refine cl_c74 (d := d + 0) G T_484 (sf_weak B494 (by decide) (by decide)) B426 eo15 eo16 (fun m497 h498 T499 F500 W501 => ?_)
                have F502 := F_484.trans (N := 0) (S := 0) F500 (by decide) (by decide) (by decide)
                have W503 : rf_W [] m m497 := W487.trans W501 (by decide)
                have W504 : rf_W [] m21 m497 := W488.trans W501 (by decide)
                have W505 : rf_W [] m429 m497 := W_484.trans W501 (by decide)
                show pm_R _ 70 70 [.ref 33, .ref a0, .ref a1, .int x3_412, .int x4_484] [] _ _
                refine sf_R_iinc pm_M70 (pc_q := 73) (ls_q := fun z => [.ref 33, .ref a0, .ref a1, .int x3_412, .int z]) rfl B494 rfl (by decide) (by decide) (by decide) (fun _ => rfl) rfl (fun z506 e507 B508 => ?_)
                show pm_R _ 70 73 [.ref 33, .ref a0, .ref a1, .int x3_412, .int z506] [] _ _
                refine pm_R_br pm_M70 (pc_q := 58) rfl rfl ?_
                exact ih_484 _ (sf_dn hN_484 e507 B494 (by decide) (by decide)) h498 m497 z506 T499 F502 W505 (sf_weak B508 (by decide) (by decide)) rfl
          exact L_484 _ h430 m429 z437 T431 F434 (rf_W.refl _ _) B439 rfl
    exact L_412 _ h22 m21 0 (pm_no) T23 F26 (rf_W.refl _ _) (sf_weak sf_k0 (by decide) (by decide)) rfl rfl
  · skip
    refine pm_R_lo pm_M70 (pc_q := 9) rfl rfl rfl ?_
    refine pm_R_get pm_M70 (pc_q := 12) (v := va_rf (o 2)) rfl rfl T.e33 (by decide) (T.lt (by decide)) rfl rfl ?_
    refine pm_R_lo pm_M70 (pc_q := 13) rfl rfl rfl ?_
    refine cl_R_acmp pm_M70 (t := 17) (pc_q := 16) rfl rfl rfl (G.ge hk1 (by decide)) (cl_og2 G T) (fun c509 => ?_) (fun c509 => ?_)
    · skip
      refine pm_R_lo pm_M70 (pc_q := 18) rfl rfl rfl ?_
      refine pm_R_lo pm_M70 (pc_q := 19) rfl rfl rfl ?_
      refine cl_R_puto33 G pm_M70 T (k := 1) (pc_q := 22) rfl rfl rfl (by decide) rfl rfl (cl_ok1 T hk0) rfl rfl rfl (fun h510 o513 eo514 T511 F512 => ?_)
      have eo515 : o513 1 = some a0 := by rw [eo514]; rfl
      have F516 := F512.cl (ck := ck) T.1
      have F517 := (cl_F.refl (ck := ck) (A := [33, 34]) (n := 0) (s := 0) T.1).trans (N := 0) (S := 0) F516 (by decide) (by decide) (by decide)
      refine pm_R_lo pm_M70 (pc_q := 23) rfl rfl rfl ?_
      refine pm_R_lo pm_M70 (pc_q := 24) rfl rfl rfl ?_
      refine cl_R_puto33 G pm_M70 T511 (k := 2) (pc_q := 27) rfl rfl rfl (by decide) rfl rfl (cl_ok2 T511 hk1) rfl rfl rfl (fun h518 o521 eo522 T519 F520 => ?_)
      have eo523 : o521 1 = some a0 := by rw [eo522]; exact eo515
      have eo524 : o521 2 = some a1 := by rw [eo522]; rfl
      have F525 := F520.cl (ck := ck) T511.1
      have F526 := F517.trans (N := 0) (S := 0) F525 (by decide) (by decide) (by decide)
      refine pm_R_lo pm_M70 (pc_q := 28) rfl rfl rfl ?_
      refine pm_R_get pm_M70 (pc_q := 31) (v := .ref 34) rfl rfl T519.e33 (by decide) (T519.lt (by decide)) rfl rfl ?_
      refine pm_R_op pm_M70 (pc_q := 32) (st_q := [.long 0, .ref 34]) rfl rfl rfl ?_
      refine pm_R_cs pm_M70 (pc_q := 35) (ra := [.long 0, .ref 34]) (rest := []) (ls_q := [.ref 34, .long 0, pm_no, pm_no, pm_no]) rfl rfl (Or.inl rfl) pm_M71 rfl rfl (Nat.le_of_ble_eq_true rfl) rfl rfl ?_
      refine cl_c71_34 (d := d + 2) G T519  (fun m529 h530 T531 F532 W533 => ?_)
      have F534 := F526.trans (N := 0) (S := 0) F532 (by decide) (by decide) (by decide)
      have W535 : rf_W [] m m529 := (rf_W.refl [] m).trans W533 (by decide)
      show pm_R _ 70 35 [.ref 33, .ref a0, .ref a1, pm_no, pm_no] [] _ _
      refine pm_R_op pm_M70 (pc_q := 36) (st_q := [.int 0]) rfl rfl rfl ?_
      refine pm_R_lo pm_M70 (pc_q := 37) (ls_q := [.ref 33, .ref a0, .ref a1, .int 0, pm_no]) (st_q := []) rfl rfl rfl ?_
      have L_920 : ∀ (N : Nat) (h_920 : pm_H) (m_920 : Nat → Int32) (x3_920 : Int32) (g4_920 : Value), cl_T ck E m_920 o521 h_920 → cl_F ck [33, 34] 0 0 h h_920 → rf_W [] m529 m_920 → sf_B 0 12 x3_920 → g4_920.category = 1 → (12 - x3_920.toInt).toNat = N → pm_R (d + 3) 70 37 [.ref 33, .ref a0, .ref a1, .int x3_920, g4_920] [] h_920 Q := by
        intro N
        induction N using Nat.strongRecOn with
        | ind N ih_920 =>
          intro h_920 m_920 x3_920 g4_920 T_920 F_920 W_920 Bx3_920 Cg4_920 hN_920
          have W923 : rf_W [] m m_920 := W535.trans W_920 (by decide)
          refine pm_R_lo pm_M70 (pc_q := 38) rfl rfl rfl ?_
          refine pm_R_lo pm_M70 (pc_q := 39) rfl rfl rfl ?_
          refine pm_R_get pm_M70 (pc_q := 42) (v := .ref a1) rfl rfl T_920.e33 (by decide) (T_920.lt (by decide)) (by show some (va_rf (o521 2)) = _; rw [eo524]; rfl) rfl ?_
          obtain ⟨n924, f925, h926, h927, eE928, eE929, b930⟩ := (G.2.2.1 a1 hk1).2
          have kq931 := (G.2.2.1 a1 hk1).1
          refine pm_R_get pm_M70 (pc_q := 45) (v := .int (Int32.ofNat n924)) rfl rfl (T_920.im hk1 (by decide) (by decide) eE928) (G.ge hk1 (by decide)) (T_920.al hk1 (by decide)) rfl rfl ?_
          refine pm_R_icmp pm_M70 (t := 82) (pc_q := 48) rfl rfl rfl (fun c932 => ?_) (fun c932 => ?_)
          · have B933 : sf_B 1 12 x3_920 := sf_leR c932 (sf_ofB1 h927 h926 (by decide)) Bx3_920
            exact pm_R_ret pm_M70 (r := none) rfl rfl (K m_920 o521 h_920 T_920 F_920 W923 eo523 eo524)
          · have B934 : sf_B 0 11 x3_920 := sf_ltL (Int32.not_le.mp c932) Bx3_920 (sf_ofB1 h927 h926 (by decide))
            refine pm_R_lo pm_M70 (pc_q := 49) rfl rfl rfl ?_
            refine pm_R_lo pm_M70 (pc_q := 50) rfl rfl rfl ?_
            refine pm_R_cv pm_M70 (pc_q := 53) (a := 33) (ra := [.int x3_920]) (rest := []) (ls_q := [.ref 33, .int x3_920, pm_no]) rfl rfl (Or.inl rfl) pm_M72 T_920.e33 rfl (by decide) (T_920.lt (by decide)) rfl rfl (Nat.le_of_ble_eq_true rfl) rfl rfl ?_
            refine cl_c72 (d := d + 1) G T_920 B934 eo523 eo524 eE928 (Int32.not_le.mp c932) (fun m937 h938 T939 F940 W941 => ?_)
            have F942 := F_920.trans (N := 0) (S := 0) F940 (by decide) (by decide) (by decide)
            have W943 : rf_W [] m m937 := W923.trans W941 (by decide)
            have W944 : rf_W [] m529 m937 := W_920.trans W941 (by decide)
            show pm_R _ 70 53 [.ref 33, .ref a0, .ref a1, .int x3_920, g4_920] [] _ _
            refine pm_R_lo pm_M70 (pc_q := 54) rfl rfl rfl ?_
            refine pm_R_op pm_M70 (pc_q := 55) (st_q := [.int 1, .int x3_920]) rfl rfl rfl ?_
            refine sf_R_isub pm_M70 (pc_q := 56) rfl rfl B934 sf_k1 (by decide) (by decide) (fun z945 e946 B947 => ?_)
            refine pm_R_lo pm_M70 (pc_q := 58) (ls_q := [.ref 33, .ref a0, .ref a1, .int x3_920, .int z945]) (st_q := []) rfl rfl rfl ?_
            have L_992 : ∀ (N : Nat) (h_992 : pm_H) (m_992 : Nat → Int32) (x4_992 : Int32), cl_T ck E m_992 o521 h_992 → cl_F ck [33, 34] 0 0 h h_992 → rf_W [] m937 m_992 → sf_B (-1) 10 x4_992 → (x4_992.toInt - (-1)).toNat = N → pm_R (d + 3) 70 58 [.ref 33, .ref a0, .ref a1, .int x3_920, .int x4_992] [] h_992 Q := by
              intro N
              induction N using Nat.strongRecOn with
              | ind N ih_992 =>
                intro h_992 m_992 x4_992 T_992 F_992 W_992 Bx4_992 hN_992
                have W995 : rf_W [] m m_992 := W943.trans W_992 (by decide)
                have W996 : rf_W [] m529 m_992 := W944.trans W_992 (by decide)
                refine pm_R_lo pm_M70 (pc_q := 60) rfl rfl rfl ?_
                refine pm_R_ifc pm_M70 (t := 76) (pc_q := 63) rfl rfl rfl (fun c997 => ?_) (fun c997 => ?_)
                · have B998 : sf_B (-1) (-1) x4_992 := sf_ltL c997 Bx4_992 sf_k0
                  refine sf_R_iinc pm_M70 (pc_q := 79) (ls_q := fun z => [.ref 33, .ref a0, .ref a1, .int z, .int x4_992]) rfl B934 rfl (by decide) (by decide) (by decide) (fun _ => rfl) rfl (fun z999 e1000 B1001 => ?_)
                  show pm_R _ 70 79 [.ref 33, .ref a0, .ref a1, .int z999, .int x4_992] [] _ _
                  refine pm_R_br pm_M70 (pc_q := 37) rfl rfl ?_
                  exact ih_920 _ (sf_up hN_920 e1000 B934 (by decide) (by decide)) h_992 m_992 z999 (.int x4_992) T_992 F_992 W996 (sf_weak B1001 (by decide) (by decide)) rfl rfl
                · have B1002 : sf_B 0 10 x4_992 := sf_leR (Int32.not_lt.mp c997) sf_k0 Bx4_992
                  refine pm_R_lo pm_M70 (pc_q := 64) rfl rfl rfl ?_
                  refine pm_R_lo pm_M70 (pc_q := 66) rfl rfl rfl ?_
                  refine pm_R_lo pm_M70 (pc_q := 67) rfl rfl rfl ?_
                  refine pm_R_cv pm_M70 (pc_q := 70) (a := 33) (ra := [.int x3_920, .int x4_992]) (rest := []) (ls_q := [.ref 33, .int x4_992, .int x3_920, pm_no, pm_no, pm_no]) rfl rfl (Or.inl rfl) pm_M74 T_992.e33 rfl (by decide) (T_992.lt (by decide)) rfl rfl (Nat.le_of_ble_eq_true rfl) rfl rfl ?_
                  refine cl_c74 (d := d + 0) G T_992 (sf_weak B1002 (by decide) (by decide)) B934 eo523 eo524 (fun m1005 h1006 T1007 F1008 W1009 => ?_)
                  have F1010 := F_992.trans (N := 0) (S := 0) F1008 (by decide) (by decide) (by decide)
                  have W1011 : rf_W [] m m1005 := W995.trans W1009 (by decide)
                  have W1012 : rf_W [] m529 m1005 := W996.trans W1009 (by decide)
                  have W1013 : rf_W [] m937 m1005 := W_992.trans W1009 (by decide)
                  show pm_R _ 70 70 [.ref 33, .ref a0, .ref a1, .int x3_920, .int x4_992] [] _ _
                  refine sf_R_iinc pm_M70 (pc_q := 73) (ls_q := fun z => [.ref 33, .ref a0, .ref a1, .int x3_920, .int z]) rfl B1002 rfl (by decide) (by decide) (by decide) (fun _ => rfl) rfl (fun z1014 e1015 B1016 => ?_)
                  show pm_R _ 70 73 [.ref 33, .ref a0, .ref a1, .int x3_920, .int z1014] [] _ _
                  refine pm_R_br pm_M70 (pc_q := 58) rfl rfl ?_
                  exact ih_992 _ (sf_dn hN_992 e1015 B1002 (by decide) (by decide)) h1006 m1005 z1014 T1007 F1010 W1013 (sf_weak B1016 (by decide) (by decide)) rfl
            exact L_992 _ h938 m937 z945 T939 F942 (rf_W.refl _ _) B947 rfl
      exact L_920 _ h530 m529 0 (pm_no) T531 F534 (rf_W.refl _ _) (sf_weak sf_k0 (by decide) (by decide)) rfl rfl
    · skip
      exact pm_R_ret pm_M70 (r := none) rfl rfl (K m o h T (cl_F.refl (ck := ck) (A := [33, 34]) (n := 0) (s := 0) T.1) (rf_W.refl [] m) c1 c509)

set_option maxRecDepth 100000 in
set_option maxHeartbeats 4000000 in
/-- SilentTable$TreeChart.pickReading -/
theorem cl_c93 {d : Nat} {ck : cl_K} {E : Nat → pm_E} {m : Nat → Int32} {o : Nat → Option Nat} {h : pm_H} {Q : Option Value → pm_H → Prop} {a0 : Int32} {a1 : Int32} {a2 : Int64} (G : cl_G ck E) (T : cl_T ck E m o h) (Ba0 : sf_B 0 5 a0) (Ba1 : sf_B 0 11 a1) {lo ro : Nat} (ol : o 1 = some lo) (orr : o 2 = some ro) {n : Nat} (en : E ro = .inr (5, [.int (Int32.ofNat n), .ref (ro + 1)])) (Q1 : a1 < Int32.ofNat n) (K : ∀ (r : Int32) (m_q : Nat → Int32) (h_q : pm_H), cl_T ck E m_q o h_q → cl_F ck [35] 0 0 h h_q → rf_W [] m m_q → sf_B (-1) 49 r → Q (some (.int r)) h_q) : pm_R (d + 0) 93 0 [.ref 33, .int a0, .int a1, .long a2, pm_no, pm_no, pm_no, pm_no] [] h Q := by
  have hkl := T.oo.2.1 _ ol
  have hkr := T.oo.2.2 _ orr
  obtain ⟨n1, f2, h3, h4, eE5, eE6, b7⟩ := (G.2.2.1 ro hkr).2
  have kq8 := (G.2.2.1 ro hkr).1
  have P1 : a1 < (Int32.ofNat n1) := by rw [cl_rowN eE5 en]; exact Q1
  refine pm_R_lo pm_M93 (pc_q := 1) rfl rfl rfl ?_
  refine pm_R_lo pm_M93 (pc_q := 3) (ls_q := [.ref 33, .int a0, .int a1, .long a2, pm_no, .long a2, pm_no, pm_no]) (st_q := []) rfl rfl rfl ?_
  refine pm_R_op pm_M93 (pc_q := 4) (st_q := [.int 0]) rfl rfl rfl ?_
  refine pm_R_lo pm_M93 (pc_q := 6) (ls_q := [.ref 33, .int a0, .int a1, .long a2, pm_no, .long a2, pm_no, .int 0]) (st_q := []) rfl rfl rfl ?_
  have L_399 : ∀ (N : Nat) (x7_399 : Int32) (y5_399 : Int64), sf_B 0 16 x7_399 → (16 - x7_399.toInt).toNat = N → pm_R (d + 0) 93 6 [.ref 33, .int a0, .int a1, .long a2, pm_no, .long y5_399, pm_no, .int x7_399] [] h Q := by
    intro N
    induction N using Nat.strongRecOn with
    | ind N ih_399 =>
      intro x7_399 y5_399 Bx7_399 hN_399
      refine pm_R_lo pm_M93 (pc_q := 8) rfl rfl rfl ?_
      refine pm_R_lo pm_M93 (pc_q := 9) rfl rfl rfl ?_
      refine pm_R_get pm_M93 (pc_q := 12) (v := .ref lo) rfl rfl T.e33 (by decide) (T.lt (by decide)) (by show some (va_rf (o 1)) = _; rw [ol]; rfl) rfl ?_
      obtain ⟨rc400, tc401, rs402, fv403, fw404, fr405, ft406, fn407, h408, h409, B410, eE411, eE412, eE413, eE414, eE415, eE416, b417, b418, b419⟩ := (G.2.1 lo hkl).2.2.2.2.2
      have kq420 := G.2.1 lo hkl
      refine pm_R_get pm_M93 (pc_q := 15) (v := .int (Int32.ofNat tc401)) rfl rfl (T.im hkl (by decide) (by decide) eE411) (G.ge hkl (by decide)) (T.al hkl (by decide)) rfl rfl ?_
      refine pm_R_icmp pm_M93 (t := 102) (pc_q := 18) rfl rfl rfl (fun c421 => ?_) (fun c421 => ?_)
      · skip
        refine pm_R_op pm_M93 (pc_q := 103) (st_q := [.int (-1)]) rfl rfl rfl ?_
        exact pm_R_ret pm_M93 (r := some (.int (-1))) rfl rfl (K (-1) m h T (cl_F.refl (ck := ck) (A := [35]) (n := 0) (s := 0) T.1) (rf_W.refl [] m) (sf_weak sf_kn1 (by decide) (by decide)))
      · have B422 : sf_B 0 15 x7_399 := sf_ltL (Int32.not_le.mp c421) Bx7_399 (sf_ofB h409 (by decide))
        have B423 : sf_B 1 16 (Int32.ofNat tc401) := sf_ltR (Int32.not_le.mp c421) Bx7_399 (sf_ofB h409 (by decide))
        refine pm_R_lo pm_M93 (pc_q := 19) rfl rfl rfl ?_
        refine pm_R_get pm_M93 (pc_q := 22) (v := .ref lo) rfl rfl T.e33 (by decide) (T.lt (by decide)) (by show some (va_rf (o 1)) = _; rw [ol]; rfl) rfl ?_
        refine pm_R_get pm_M93 (pc_q := 25) (v := .ref (lo + 4)) rfl rfl (T.im hkl (by decide) (by decide) eE411) (G.ge hkl (by decide)) (T.al hkl (by decide)) rfl rfl ?_
        refine pm_R_lo pm_M93 (pc_q := 27) rfl rfl rfl ?_
        refine pm_R_op pm_M93 (pc_q := 28) (st_q := [.int 4, .int x7_399, .ref (lo + 4)]) rfl rfl rfl ?_
        refine sf_R_imul pm_M93 (pc_q := 29) rfl rfl B422 sf_k4 (by decide) (by decide) (by decide) (fun z424 e425 B426 => ?_)
        have q430 := cl_in4 (n := tc401) (Nat.le_trans h409 (by decide)) (Int32.not_le.mp c421) (cl_aux5 _ _ e425) B422 (by decide) (by decide)
        obtain ⟨z427, ez428⟩ : ∃ y, ft406 (Int32.toNatClampNeg z424) = y := ⟨_, rfl⟩
        have B429 : sf_B 0 9 z427 := ez428 ▸ q430.2.2 ▸ (b418 _ q430.2.1).1
        refine pm_R_iald pm_M93 (pc_q := 30) (v := z427) rfl (T.im kq420.2.2.2.1 (by decide) (by decide) eE415) (T.al kq420.2.2.2.1 (by decide)) q430.1 ez428 rfl ?_
        refine pm_R_lo pm_M93 (pc_q := 31) rfl rfl rfl ?_
        refine pm_R_get pm_M93 (pc_q := 34) (v := .ref ro) rfl rfl T.e33 (by decide) (T.lt (by decide)) (by show some (va_rf (o 2)) = _; rw [orr]; rfl) rfl ?_
        refine pm_R_get pm_M93 (pc_q := 37) (v := .ref (ro + 1)) rfl rfl (T.im hkr (by decide) (by decide) eE5) (G.ge hkr (by decide)) (T.al hkr (by decide)) rfl rfl ?_
        refine pm_R_lo pm_M93 (pc_q := 38) rfl rfl rfl ?_
        have q434 := cl_in1 (n := n1) (Nat.le_trans h4 (by decide)) P1 Ba1 (by decide)
        obtain ⟨z431, ez432⟩ : ∃ y, f2 (Int32.toNatClampNeg a1) = y := ⟨_, rfl⟩
        have B433 : sf_B 0 9 z431 := ez432 ▸ b7 _
        refine pm_R_iald pm_M93 (pc_q := 39) (v := z431) rfl (T.im kq8 (by decide) (by decide) eE6) (T.al kq8 (by decide)) q434.1 ez432 rfl ?_
        refine pm_R_icmp pm_M93 (t := 96) (pc_q := 42) rfl rfl rfl (fun c435 => ?_) (fun c435 => ?_)
        · skip
          refine sf_R_iinc pm_M93 (pc_q := 99) (ls_q := fun z => [.ref 33, .int a0, .int a1, .long a2, pm_no, .long y5_399, pm_no, .int z]) rfl B422 rfl (by decide) (by decide) (by decide) (fun _ => rfl) rfl (fun z436 e437 B438 => ?_)
          show pm_R _ 93 99 [.ref 33, .int a0, .int a1, .long a2, pm_no, .long y5_399, pm_no, .int z436] [] _ _
          refine pm_R_br pm_M93 (pc_q := 6) rfl rfl ?_
          exact ih_399 _ (sf_up hN_399 e437 B422 (by decide) (by decide)) z436 y5_399 (sf_weak B438 (by decide) (by decide)) rfl
        · refine pm_R_lo pm_M93 (pc_q := 43) rfl rfl rfl ?_
          refine pm_R_get pm_M93 (pc_q := 46) (v := .ref lo) rfl rfl T.e33 (by decide) (T.lt (by decide)) (by show some (va_rf (o 1)) = _; rw [ol]; rfl) rfl ?_
          refine pm_R_get pm_M93 (pc_q := 49) (v := .ref (lo + 4)) rfl rfl (T.im hkl (by decide) (by decide) eE411) (G.ge hkl (by decide)) (T.al hkl (by decide)) rfl rfl ?_
          refine pm_R_lo pm_M93 (pc_q := 51) rfl rfl rfl ?_
          refine pm_R_op pm_M93 (pc_q := 52) (st_q := [.int 4, .int x7_399, .ref (lo + 4)]) rfl rfl rfl ?_
          refine sf_R_imulV pm_M93 (pc_q := 53) rfl rfl B422 sf_k4 (by decide) (by decide) (by decide) e425 ?_
          refine pm_R_op pm_M93 (pc_q := 54) (st_q := [.int 1, .int z424, .ref (lo + 4)]) rfl rfl rfl ?_
          refine sf_R_iadd pm_M93 (pc_q := 55) rfl rfl B426 sf_k1 (by decide) (by decide) (fun z439 e440 B441 => ?_)
          have q445 := cl_in4 (n := tc401) (Nat.le_trans h409 (by decide)) (Int32.not_le.mp c421) (cl_aux7 _ _ _ e425 e440) B422 (by decide) (by decide)
          obtain ⟨z442, ez443⟩ : ∃ y, ft406 (Int32.toNatClampNeg z439) = y := ⟨_, rfl⟩
          have B444 : sf_B 0 5 z442 := ez443 ▸ q445.2.2 ▸ (b418 _ q445.2.1).2.1
          refine pm_R_iald pm_M93 (pc_q := 56) (v := z442) rfl (T.im kq420.2.2.2.1 (by decide) (by decide) eE415) (T.al kq420.2.2.2.1 (by decide)) q445.1 ez443 rfl ?_
          refine pm_R_lo pm_M93 (pc_q := 57) rfl rfl rfl ?_
          refine pm_R_icmp pm_M93 (t := 96) (pc_q := 60) rfl rfl rfl (fun c446 => ?_) (fun c446 => ?_)
          · skip
            refine sf_R_iinc pm_M93 (pc_q := 99) (ls_q := fun z => [.ref 33, .int a0, .int a1, .long a2, pm_no, .long y5_399, pm_no, .int z]) rfl B422 rfl (by decide) (by decide) (by decide) (fun _ => rfl) rfl (fun z447 e448 B449 => ?_)
            show pm_R _ 93 99 [.ref 33, .int a0, .int a1, .long a2, pm_no, .long y5_399, pm_no, .int z447] [] _ _
            refine pm_R_br pm_M93 (pc_q := 6) rfl rfl ?_
            exact ih_399 _ (sf_up hN_399 e448 B422 (by decide) (by decide)) z447 y5_399 (sf_weak B449 (by decide) (by decide)) rfl
          · refine pm_R_lo pm_M93 (pc_q := 62) rfl rfl rfl ?_
            refine pm_R_op pm_M93 (pc_q := 63) (st_q := [.long 0, .long y5_399]) rfl rfl rfl ?_
            refine sf_R_lcmp pm_M93 (pc_q := 64) rfl rfl (fun z450 e451 => ?_)
            refine pm_R_ifc pm_M93 (t := 90) (pc_q := 67) rfl rfl rfl (fun c452 => ?_) (fun c452 => ?_)
            · have k453 := sf_lneC e451 c452
              refine pm_R_lo pm_M93 (pc_q := 92) rfl rfl rfl ?_
              refine pm_R_op pm_M93 (pc_q := 93) (st_q := [.long 1, .long y5_399]) rfl rfl rfl ?_
              refine sf_R_lany pm_M93 (pc_q := 94) (st := []) rfl rfl rfl (fun z454 => ?_)
              refine pm_R_lo pm_M93 (pc_q := 96) (ls_q := [.ref 33, .int a0, .int a1, .long a2, pm_no, .long z454, pm_no, .int x7_399]) (st_q := []) rfl rfl rfl ?_
              refine sf_R_iinc pm_M93 (pc_q := 99) (ls_q := fun z => [.ref 33, .int a0, .int a1, .long a2, pm_no, .long z454, pm_no, .int z]) rfl B422 rfl (by decide) (by decide) (by decide) (fun _ => rfl) rfl (fun z455 e456 B457 => ?_)
              show pm_R _ 93 99 [.ref 33, .int a0, .int a1, .long a2, pm_no, .long z454, pm_no, .int z455] [] _ _
              refine pm_R_br pm_M93 (pc_q := 6) rfl rfl ?_
              exact ih_399 _ (sf_up hN_399 e456 B422 (by decide) (by decide)) z455 z454 (sf_weak B457 (by decide) (by decide)) rfl
            · have B458 : sf_B 0 0 z450 := sf_eqL (Classical.not_not.mp c452) sf_k0
              have B459 : lf_B 0 0 y5_399 := lf_eqB e451 B458 (⟨by decide, by decide⟩ : lf_B 0 0 0)
              refine pm_R_lo pm_M93 (pc_q := 68) rfl rfl rfl ?_
              refine pm_R_get pm_M93 (pc_q := 71) (v := .ref 35) rfl rfl T.e33 (by decide) (T.lt (by decide)) rfl rfl ?_
              refine pm_R_lo pm_M93 (pc_q := 72) rfl rfl rfl ?_
              refine pm_R_lo pm_M93 (pc_q := 74) rfl rfl rfl ?_
              obtain ⟨f460, e461⟩ := T.C 35 (by decide) (by decide)
              refine cl_R_ist G pm_M93 T (pc_q := 75) rfl e461 (by decide) ⟨_, rfl⟩ (sf_in Ba1 (by decide) (by decide)) rfl (fun h463 T464 F465 e466 => ?_)
              have F467 := F465.cl (ck := ck) T.1
              have F468 := (cl_F.refl (ck := ck) (A := [35]) (n := 0) (s := 0) T.1).trans (N := 0) (S := 0) F467 (by decide) (by decide) (by decide)
              refine pm_R_lo pm_M93 (pc_q := 76) rfl rfl rfl ?_
              refine pm_R_get pm_M93 (pc_q := 79) (v := .ref lo) rfl rfl T464.e33 (by decide) (T464.lt (by decide)) (by show some (va_rf (o 1)) = _; rw [ol]; rfl) rfl ?_
              refine pm_R_get pm_M93 (pc_q := 82) (v := .ref (lo + 4)) rfl rfl (T464.im hkl (by decide) (by decide) eE411) (G.ge hkl (by decide)) (T464.al hkl (by decide)) rfl rfl ?_
              refine pm_R_lo pm_M93 (pc_q := 84) rfl rfl rfl ?_
              refine pm_R_op pm_M93 (pc_q := 85) (st_q := [.int 4, .int x7_399, .ref (lo + 4)]) rfl rfl rfl ?_
              refine sf_R_imulV pm_M93 (pc_q := 86) rfl rfl B422 sf_k4 (by decide) (by decide) (by decide) e425 ?_
              refine pm_R_op pm_M93 (pc_q := 87) (st_q := [.int 2, .int z424, .ref (lo + 4)]) rfl rfl rfl ?_
              refine sf_R_iadd pm_M93 (pc_q := 88) rfl rfl B426 sf_k2 (by decide) (by decide) (fun z469 e470 B471 => ?_)
              have q475 := cl_in4 (n := tc401) (Nat.le_trans h409 (by decide)) (Int32.not_le.mp c421) (cl_aux6 _ _ _ e425 e470) B422 (by decide) (by decide)
              obtain ⟨z472, ez473⟩ : ∃ y, ft406 (Int32.toNatClampNeg z469) = y := ⟨_, rfl⟩
              have B474 : sf_B 0 49 z472 := ez473 ▸ q475.2.2 ▸ (b418 _ q475.2.1).2.2
              refine pm_R_iald pm_M93 (pc_q := 89) (v := z472) rfl (T464.im kq420.2.2.2.1 (by decide) (by decide) eE415) (T464.al kq420.2.2.2.1 (by decide)) q475.1 ez473 rfl ?_
              exact pm_R_ret pm_M93 (r := some (.int z472)) rfl (pm_ret_i _) (K z472 m h463 T464 F468 (rf_W.refl [] m) (sf_weak B474 (by decide) (by decide)))
  exact L_399 _ 0 a2 (sf_weak sf_k0 (by decide) (by decide)) rfl

set_option maxRecDepth 100000 in
set_option maxHeartbeats 4000000 in
/-- SilentTable$TreeChart.pick -/
theorem cl_c92_13 {d : Nat} {ck : cl_K} {E : Nat → pm_E} {m : Nat → Int32} {o : Nat → Option Nat} {h : pm_H} {Q : Option Value → pm_H → Prop} {a0 : Int32} {a1 : Int32} {a2 : Int32} {a3 : Int64} (G : cl_G ck E) (T : cl_T ck E m o h) (Ba0 : sf_B 0 5 a0) (Ba1 : sf_B 0 11 a1) (Ba2 : sf_B 0 11 a2) {lo ro : Nat} (ol : o 1 = some lo) (orr : o 2 = some ro) {n : Nat} (en : E ro = .inr (5, [.int (Int32.ofNat n), .ref (ro + 1)])) (Q1 : a1 < Int32.ofNat n) (Q2 : a2 < Int32.ofNat n) (K : ∀ (r : Int32) (m_q : Nat → Int32) (h_q : pm_H), cl_T ck E m_q o h_q → cl_F ck [35] 0 0 h h_q → rf_W [14, 15] m m_q → sf_B (-1) 49 r → Q (some (.int r)) h_q) : pm_R (d + 2) 92 0 [.ref 33, .int a0, .int a1, .int a2, .long a3, pm_no, .int 13, pm_no, pm_no, pm_no, pm_no, pm_no, pm_no, pm_no, pm_no, pm_no, pm_no, pm_no] [] h Q := by
  have hkl := T.oo.2.1 _ ol
  have hkr := T.oo.2.2 _ orr
  obtain ⟨n1, f2, h3, h4, eE5, eE6, b7⟩ := (G.2.2.1 ro hkr).2
  have kq8 := (G.2.2.1 ro hkr).1
  have P1 : a1 < (Int32.ofNat n1) := by rw [cl_rowN eE5 en]; exact Q1
  have P2 : a2 < (Int32.ofNat n1) := by rw [cl_rowN eE5 en]; exact Q2
  refine pm_R_lo pm_M92 (pc_q := 1) rfl rfl rfl ?_
  refine pm_R_lo pm_M92 (pc_q := 2) rfl rfl rfl ?_
  refine pm_R_icmp pm_M92 (t := 12) (pc_q := 5) rfl rfl rfl (fun c9 => ?_) (fun c9 => ?_)
  · skip
    refine pm_R_lo pm_M92 (pc_q := 13) rfl rfl rfl ?_
    refine pm_R_lo pm_M92 (pc_q := 14) rfl rfl rfl ?_
    refine pm_R_lo pm_M92 (pc_q := 15) rfl rfl rfl ?_
    refine pm_R_lo pm_M92 (pc_q := 17) rfl rfl rfl ?_
    refine pm_R_cv pm_M92 (pc_q := 20) (a := 33) (ra := [.long a3, .int a1, .int a0]) (rest := []) (ls_q := [.ref 33, .int a0, .int a1, .long a3, pm_no, pm_no, pm_no, pm_no]) rfl rfl (Or.inl rfl) pm_M93 T.e33 rfl (by decide) (T.lt (by decide)) rfl rfl (Nat.le_of_ble_eq_true rfl) rfl rfl ?_
    refine cl_c93 (d := d + 1) G T Ba0 Ba1 ol orr eE5 P1 (fun r10 m12 h13 T14 F15 W16 B11 => ?_)
    have F17 := (cl_F.refl (ck := ck) (A := [35]) (n := 0) (s := 0) T.1).trans (N := 0) (S := 0) F15 (by decide) (by decide) (by decide)
    have W18 : rf_W [14, 15] m m12 := (rf_W.refl [14, 15] m).trans W16 (by decide)
    show pm_R _ 92 20 [.ref 33, .int a0, .int a1, .int a2, .long a3, pm_no, .int 13, pm_no, pm_no, pm_no, pm_no, pm_no, pm_no, pm_no, pm_no, pm_no, pm_no, pm_no] [.int r10] _ _
    exact pm_R_ret pm_M92 (r := some (.int r10)) rfl (pm_ret_i _) (K r10 m12 h13 T14 F17 W18 B11)
  · have B19 : sf_B 0 10 a1 := sf_ltL (Int32.not_le.mp c9) Ba1 Ba2
    have B20 : sf_B 1 11 a2 := sf_ltR (Int32.not_le.mp c9) Ba1 Ba2
    refine pm_R_lo pm_M92 (pc_q := 7) rfl rfl rfl ?_
    refine pm_R_op pm_M92 (pc_q := 9) (st_q := [.int 12, .int 13]) rfl rfl rfl ?_
    refine pm_R_br pm_M92 (pc_q := 12) (st_q := []) rfl rfl ?_
    refine pm_R_lo pm_M92 (pc_q := 13) rfl rfl rfl ?_
    refine pm_R_lo pm_M92 (pc_q := 14) rfl rfl rfl ?_
    refine pm_R_lo pm_M92 (pc_q := 15) rfl rfl rfl ?_
    refine pm_R_lo pm_M92 (pc_q := 17) rfl rfl rfl ?_
    refine pm_R_cv pm_M92 (pc_q := 20) (a := 33) (ra := [.long a3, .int a1, .int a0]) (rest := []) (ls_q := [.ref 33, .int a0, .int a1, .long a3, pm_no, pm_no, pm_no, pm_no]) rfl rfl (Or.inl rfl) pm_M93 T.e33 rfl (by decide) (T.lt (by decide)) rfl rfl (Nat.le_of_ble_eq_true rfl) rfl rfl ?_
    refine cl_c93 (d := d + 1) G T Ba0 (sf_weak B19 (by decide) (by decide)) ol orr eE5 P1 (fun r21 m23 h24 T25 F26 W27 B22 => ?_)
    have F28 := (cl_F.refl (ck := ck) (A := [35]) (n := 0) (s := 0) T.1).trans (N := 0) (S := 0) F26 (by decide) (by decide) (by decide)
    have W29 : rf_W [14, 15] m m23 := (rf_W.refl [14, 15] m).trans W27 (by decide)
    show pm_R _ 92 20 [.ref 33, .int a0, .int a1, .int a2, .long a3, pm_no, .int 13, pm_no, pm_no, pm_no, pm_no, pm_no, pm_no, pm_no, pm_no, pm_no, pm_no, pm_no] [.int r21] _ _
    exact pm_R_ret pm_M92 (r := some (.int r21)) rfl (pm_ret_i _) (K r21 m23 h24 T25 F28 W29 B22)

theorem cl_aux14 (v0 v1 v2 : Int) (q0 : v0 < v1) (q1 : v1 < v2) : v0 < v2 := by omega
theorem cl_aux15 (v0 v1 v2 v3 : Int) (q0 : v0 = v1 + 1) (q1 : v1 < v2) (q2 : v2 < v3) : v0 < v3 := by omega
set_option maxRecDepth 100000 in
set_option maxHeartbeats 4000000 in
/-- SilentTable$TreeChart.pick -/
theorem cl_c92_12 {d : Nat} {ck : cl_K} {E : Nat → pm_E} {m : Nat → Int32} {o : Nat → Option Nat} {h : pm_H} {Q : Option Value → pm_H → Prop} {a0 : Int32} {a1 : Int32} {a2 : Int32} {a3 : Int64} (G : cl_G ck E) (T : cl_T ck E m o h) (Ba0 : sf_B 0 5 a0) (Ba1 : sf_B 0 11 a1) (Ba2 : sf_B 0 11 a2) {lo ro : Nat} (ol : o 1 = some lo) (orr : o 2 = some ro) {n : Nat} (en : E ro = .inr (5, [.int (Int32.ofNat n), .ref (ro + 1)])) (Q1 : a1 < Int32.ofNat n) (Q2 : a2 < Int32.ofNat n) (K : ∀ (r : Int32) (m_q : Nat → Int32) (h_q : pm_H), cl_T ck E m_q o h_q → cl_F ck [33, 35] 0 0 h h_q → rf_W [14, 15] m m_q → Q (some (.int r)) h_q) : pm_R (d + 3) 92 0 [.ref 33, .int a0, .int a1, .int a2, .long a3, pm_no, .int 12, pm_no, pm_no, pm_no, pm_no, pm_no, pm_no, pm_no, pm_no, pm_no, pm_no, pm_no] [] h Q := by
  have hkl := T.oo.2.1 _ ol
  have hkr := T.oo.2.2 _ orr
  obtain ⟨n1, f2, h3, h4, eE5, eE6, b7⟩ := (G.2.2.1 ro hkr).2
  have kq8 := (G.2.2.1 ro hkr).1
  have P1 : a1 < (Int32.ofNat n1) := by rw [cl_rowN eE5 en]; exact Q1
  have P2 : a2 < (Int32.ofNat n1) := by rw [cl_rowN eE5 en]; exact Q2
  refine pm_R_lo pm_M92 (pc_q := 1) rfl rfl rfl ?_
  refine pm_R_lo pm_M92 (pc_q := 2) rfl rfl rfl ?_
  refine pm_R_icmp pm_M92 (t := 12) (pc_q := 5) rfl rfl rfl (fun c9 => ?_) (fun c9 => ?_)
  · skip
    refine pm_R_lo pm_M92 (pc_q := 13) rfl rfl rfl ?_
    refine pm_R_lo pm_M92 (pc_q := 14) rfl rfl rfl ?_
    refine pm_R_lo pm_M92 (pc_q := 15) rfl rfl rfl ?_
    refine pm_R_lo pm_M92 (pc_q := 17) rfl rfl rfl ?_
    refine pm_R_cv pm_M92 (pc_q := 20) (a := 33) (ra := [.long a3, .int a1, .int a0]) (rest := []) (ls_q := [.ref 33, .int a0, .int a1, .long a3, pm_no, pm_no, pm_no, pm_no]) rfl rfl (Or.inl rfl) pm_M93 T.e33 rfl (by decide) (T.lt (by decide)) rfl rfl (Nat.le_of_ble_eq_true rfl) rfl rfl ?_
    refine cl_c93 (d := d + 2) G T Ba0 Ba1 ol orr eE5 P1 (fun r10 m12 h13 T14 F15 W16 B11 => ?_)
    have F17 := (cl_F.refl (ck := ck) (A := [33, 35]) (n := 0) (s := 0) T.1).trans (N := 0) (S := 0) F15 (by decide) (by decide) (by decide)
    have W18 : rf_W [14, 15] m m12 := (rf_W.refl [14, 15] m).trans W16 (by decide)
    show pm_R _ 92 20 [.ref 33, .int a0, .int a1, .int a2, .long a3, pm_no, .int 12, pm_no, pm_no, pm_no, pm_no, pm_no, pm_no, pm_no, pm_no, pm_no, pm_no, pm_no] [.int r10] _ _
    exact pm_R_ret pm_M92 (r := some (.int r10)) rfl (pm_ret_i _) (K r10 m12 h13 T14 F17 W18)
  · have B19 : sf_B 0 10 a1 := sf_ltL (Int32.not_le.mp c9) Ba1 Ba2
    have B20 : sf_B 1 11 a2 := sf_ltR (Int32.not_le.mp c9) Ba1 Ba2
    refine pm_R_lo pm_M92 (pc_q := 7) rfl rfl rfl ?_
    refine pm_R_op pm_M92 (pc_q := 9) (st_q := [.int 12, .int 12]) rfl rfl rfl ?_
    refine pm_R_br pm_M92 (pc_q := 21) (st_q := []) rfl rfl ?_
    refine pm_R_lo pm_M92 (pc_q := 23) rfl rfl rfl ?_
    refine pm_R_lo pm_M92 (pc_q := 25) (ls_q := [.ref 33, .int a0, .int a1, .int a2, .long a3, pm_no, .int 12, .long a3, pm_no, pm_no, pm_no, pm_no, pm_no, pm_no, pm_no, pm_no, pm_no, pm_no]) (st_q := []) rfl rfl rfl ?_
    refine pm_R_lo pm_M92 (pc_q := 26) rfl rfl rfl ?_
    refine pm_R_lo pm_M92 (pc_q := 28) (ls_q := [.ref 33, .int a0, .int a1, .int a2, .long a3, pm_no, .int 12, .long a3, pm_no, .int a1, pm_no, pm_no, pm_no, pm_no, pm_no, pm_no, pm_no, pm_no]) (st_q := []) rfl rfl rfl ?_
    have L_8826 : ∀ (N : Nat) (x9_8826 : Int32) (y7_8826 : Int64) (g10_8826 : Value) (g11_8826 : Value) (g12_8826 : Value) (g13_8826 : Value) (g14_8826 : Value), sf_B 0 11 x9_8826 → g10_8826.category = 1 → g12_8826.category = 1 → g14_8826.category = 1 → (11 - x9_8826.toInt).toNat = N → pm_R (d + 3) 92 28 [.ref 33, .int a0, .int a1, .int a2, .long a3, pm_no, .int 12, .long y7_8826, pm_no, .int x9_8826, g10_8826, g11_8826, g12_8826, g13_8826, g14_8826, pm_no, pm_no, pm_no] [] h Q := by
      intro N
      induction N using Nat.strongRecOn with
      | ind N ih_8826 =>
        intro x9_8826 y7_8826 g10_8826 g11_8826 g12_8826 g13_8826 g14_8826 Bx9_8826 Cg10_8826 Cg12_8826 Cg14_8826 hN_8826
        refine pm_R_lo pm_M92 (pc_q := 30) rfl rfl rfl ?_
        refine pm_R_lo pm_M92 (pc_q := 31) rfl rfl rfl ?_
        refine pm_R_icmp pm_M92 (t := 278) (pc_q := 34) rfl rfl rfl (fun c8827 => ?_) (fun c8827 => ?_)
        · have B8828 : sf_B 1 11 x9_8826 := sf_leR c8827 B20 Bx9_8826
          refine pm_R_op pm_M92 (pc_q := 279) (st_q := [.int (-1)]) (pm_q92_2 (Nat.le_of_ble_eq_true rfl)) rfl rfl ?_
          exact pm_R_ret pm_M92 (r := some (.int (-1))) (pm_q92_2 (Nat.le_of_ble_eq_true rfl)) rfl (K (-1) m h T (cl_F.refl (ck := ck) (A := [33, 35]) (n := 0) (s := 0) T.1) (rf_W.refl [14, 15] m))
        · have B8829 : sf_B 0 10 x9_8826 := sf_ltL (Int32.not_le.mp c8827) Bx9_8826 B20
          refine pm_R_op pm_M92 (pc_q := 35) (st_q := [.int 0]) rfl rfl rfl ?_
          refine pm_R_lo pm_M92 (pc_q := 37) (ls_q := [.ref 33, .int a0, .int a1, .int a2, .long a3, pm_no, .int 12, .long y7_8826, pm_no, .int x9_8826, .int 0, g11_8826, g12_8826, g13_8826, g14_8826, pm_no, pm_no, pm_no]) (st_q := []) rfl rfl rfl ?_
          have L_11755 : ∀ (N : Nat) (x10_11755 : Int32) (y7_11755 : Int64) (g11_11755 : Value) (g12_11755 : Value) (g13_11755 : Value) (g14_11755 : Value), sf_B 0 10 x10_11755 → g12_11755.category = 1 → g14_11755.category = 1 → (10 - x10_11755.toInt).toNat = N → pm_R (d + 3) 92 37 [.ref 33, .int a0, .int a1, .int a2, .long a3, pm_no, .int 12, .long y7_11755, pm_no, .int x9_8826, .int x10_11755, g11_11755, g12_11755, g13_11755, g14_11755, pm_no, pm_no, pm_no] [] h Q := by
            intro N
            induction N using Nat.strongRecOn with
            | ind N ih_11755 =>
              intro x10_11755 y7_11755 g11_11755 g12_11755 g13_11755 g14_11755 Bx10_11755 Cg12_11755 Cg14_11755 hN_11755
              refine pm_R_lo pm_M92 (pc_q := 39) rfl rfl rfl ?_
              refine pm_R_lo pm_M92 (pc_q := 40) rfl rfl rfl ?_
              refine pm_R_get pm_M92 (pc_q := 43) (v := .ref lo) rfl rfl T.e33 (by decide) (T.lt (by decide)) (by show some (va_rf (o 1)) = _; rw [ol]; rfl) rfl ?_
              obtain ⟨rc11756, tc11757, rs11758, fv11759, fw11760, fr11761, ft11762, fn11763, h11764, h11765, B11766, eE11767, eE11768, eE11769, eE11770, eE11771, eE11772, b11773, b11774, b11775⟩ := (G.2.1 lo hkl).2.2.2.2.2
              have kq11776 := G.2.1 lo hkl
              refine pm_R_get pm_M92 (pc_q := 46) (v := .int (Int32.ofNat rc11756)) rfl rfl (T.im hkl (by decide) (by decide) eE11767) (G.ge hkl (by decide)) (T.al hkl (by decide)) rfl rfl ?_
              refine pm_R_icmp pm_M92 (t := 272) (pc_q := 49) rfl rfl rfl (fun c11777 => ?_) (fun c11777 => ?_)
              · skip
                refine sf_R_iinc pm_M92 (pc_q := 275) (ls_q := fun z => [.ref 33, .int a0, .int a1, .int a2, .long a3, pm_no, .int 12, .long y7_11755, pm_no, .int z, .int x10_11755, g11_11755, g12_11755, g13_11755, g14_11755, pm_no, pm_no, pm_no]) (pm_q92_2 (Nat.le_of_ble_eq_true rfl)) B8829 rfl (by decide) (by decide) (by decide) (fun _ => rfl) rfl (fun z11778 e11779 B11780 => ?_)
                show pm_R _ 92 275 [.ref 33, .int a0, .int a1, .int a2, .long a3, pm_no, .int 12, .long y7_11755, pm_no, .int z11778, .int x10_11755, g11_11755, g12_11755, g13_11755, g14_11755, pm_no, pm_no, pm_no] [] _ _
                refine pm_R_br pm_M92 (pc_q := 28) (pm_q92_2 (Nat.le_of_ble_eq_true rfl)) rfl ?_
                exact ih_8826 _ (sf_up hN_8826 e11779 B8829 (by decide) (by decide)) z11778 y7_11755 (.int x10_11755) (g11_11755) (g12_11755) (g13_11755) (g14_11755) (sf_weak B11780 (by decide) (by decide)) rfl Cg12_11755 Cg14_11755 rfl
              · have B11781 : sf_B 0 9 x10_11755 := sf_ltL (Int32.not_le.mp c11777) Bx10_11755 (sf_ofB h11764 (by decide))
                have B11782 : sf_B 1 10 (Int32.ofNat rc11756) := sf_ltR (Int32.not_le.mp c11777) Bx10_11755 (sf_ofB h11764 (by decide))
                refine pm_R_lo pm_M92 (pc_q := 50) rfl rfl rfl ?_
                refine pm_R_lo pm_M92 (pc_q := 52) rfl rfl rfl ?_
                refine pm_R_lo pm_M92 (pc_q := 54) rfl rfl rfl ?_
                refine pm_R_lo pm_M92 (pc_q := 55) rfl rfl rfl ?_
                refine pm_R_cv pm_M92 (pc_q := 58) (a := 33) (ra := [.int a2, .int x9_8826, .int x10_11755]) (rest := []) (ls_q := [.ref 33, .int x10_11755, .int x9_8826, .int a2]) rfl rfl (Or.inl rfl) pm_M76 T.e33 rfl (by decide) (T.lt (by decide)) rfl rfl (Nat.le_of_ble_eq_true rfl) rfl rfl ?_
                refine pm_R_lo pm_M76 (pc_q := 1) rfl rfl rfl ?_
                refine pm_R_get pm_M76 (pc_q := 4) (v := .ref 34) rfl rfl T.e33 (by decide) (T.lt (by decide)) rfl rfl ?_
                refine pm_R_lo pm_M76 (pc_q := 5) rfl rfl rfl ?_
                refine pm_R_op pm_M76 (pc_q := 6) (st_q := [.int 1, .int x9_8826, .ref 34]) rfl rfl rfl ?_
                refine sf_R_iadd pm_M76 (pc_q := 7) rfl rfl B8829 sf_k1 (by decide) (by decide) (fun z11783 e11784 B11785 => ?_)
                refine pm_R_lo pm_M76 (pc_q := 8) rfl rfl rfl ?_
                refine pm_R_cs pm_M76 (pc_q := 11) (ra := [.int a2, .int z11783]) (rest := [.ref 34]) (ls_q := [.int z11783, .int a2]) rfl rfl (Or.inr rfl) pm_M73 rfl rfl (Nat.le_of_ble_eq_true rfl) rfl rfl ?_
                refine pm_R_lo pm_M73 (pc_q := 1) rfl rfl rfl ?_
                refine pm_R_lo pm_M73 (pc_q := 2) rfl rfl rfl ?_
                refine pm_R_op pm_M73 (pc_q := 3) (st_q := [.int 1, .int a2, .int a2]) rfl rfl rfl ?_
                refine sf_R_iadd pm_M73 (pc_q := 4) rfl rfl B20 sf_k1 (by decide) (by decide) (fun z11786 e11787 B11788 => ?_)
                refine sf_R_imul pm_M73 (pc_q := 5) rfl rfl B20 B11788 (by decide) (by decide) (by decide) (fun z11789 e11790 B11791 => ?_)
                refine pm_R_op pm_M73 (pc_q := 6) (st_q := [.int 2, .int z11789]) rfl rfl rfl ?_
                refine sf_R_idiv pm_M73 (pc_q := 7) rfl rfl B11791 sf_k2 (by decide) (by decide) (fun z11792 e11793 B11794 => ?_)
                refine pm_R_lo pm_M73 (pc_q := 8) rfl rfl rfl ?_
                refine sf_R_iadd pm_M73 (pc_q := 9) rfl rfl B11794 B11785 (by decide) (by decide) (fun z11795 e11796 B11797 => ?_)
                refine pm_R_ret pm_M73 (r := some (.int z11795)) rfl (pm_ret_i _) ?_
                show pm_R _ 76 11 [.ref 33, .int x10_11755, .int x9_8826, .int a2] [.int z11795, .ref 34] _ _
                refine pm_R_op pm_M76 (pc_q := 13) (st_q := [.int 6, .int z11795, .ref 34]) rfl rfl rfl ?_
                refine sf_R_imul pm_M76 (pc_q := 14) rfl rfl B11797 sf_k6 (by decide) (by decide) (by decide) (fun z11798 e11799 B11800 => ?_)
                refine pm_R_lo pm_M76 (pc_q := 15) rfl rfl rfl ?_
                refine pm_R_get pm_M76 (pc_q := 18) (v := .ref lo) rfl rfl T.e33 (by decide) (T.lt (by decide)) (by show some (va_rf (o 1)) = _; rw [ol]; rfl) rfl ?_
                refine pm_R_get pm_M76 (pc_q := 21) (v := .ref (lo + 3)) rfl rfl (T.im hkl (by decide) (by decide) eE11767) (G.ge hkl (by decide)) (T.al hkl (by decide)) rfl rfl ?_
                refine pm_R_lo pm_M76 (pc_q := 22) rfl rfl rfl ?_
                refine pm_R_op pm_M76 (pc_q := 23) (st_q := [.int 4, .int x10_11755, .ref (lo + 3), .int z11798, .ref 34]) rfl rfl rfl ?_
                refine sf_R_imul pm_M76 (pc_q := 24) rfl rfl B11781 sf_k4 (by decide) (by decide) (by decide) (fun z11801 e11802 B11803 => ?_)
                refine pm_R_op pm_M76 (pc_q := 25) (st_q := [.int 2, .int z11801, .ref (lo + 3), .int z11798, .ref 34]) rfl rfl rfl ?_
                refine sf_R_iadd pm_M76 (pc_q := 26) rfl rfl B11803 sf_k2 (by decide) (by decide) (fun z11804 e11805 B11806 => ?_)
                have q11810 := cl_in4 (n := rc11756) (Nat.le_trans h11764 (by decide)) (Int32.not_le.mp c11777) (cl_aux6 _ _ _ e11802 e11805) B11781 (by decide) (by decide)
                obtain ⟨z11807, ez11808⟩ : ∃ y, fr11761 (Int32.toNatClampNeg z11804) = y := ⟨_, rfl⟩
                have B11809 : sf_B 0 5 z11807 := ez11808 ▸ q11810.2.2 ▸ (b11773 _ q11810.2.1).2.2
                refine pm_R_iald pm_M76 (pc_q := 27) (v := z11807) rfl (T.im kq11776.2.2.1 (by decide) (by decide) eE11770) (T.al kq11776.2.2.1 (by decide)) q11810.1 ez11808 rfl ?_
                refine sf_R_iadd pm_M76 (pc_q := 28) rfl rfl B11800 B11809 (by decide) (by decide) (fun z11811 e11812 B11813 => ?_)
                obtain ⟨f11817, e11818⟩ := T.C 34 (by decide) (by decide)
                obtain ⟨z11814, ez11815⟩ : ∃ y, f11817 (Int32.toNatClampNeg z11811) = y := ⟨_, rfl⟩
                refine pm_R_lald pm_M76 (pc_q := 29) (v := z11814) rfl e11818 (by decide) (T.lt (by decide)) (sf_in B11813 (by decide) (by decide)) ez11815 rfl ?_
                refine pm_R_ret pm_M76 (r := some (.long z11814)) rfl rfl ?_
                show pm_R _ 92 58 [.ref 33, .int a0, .int a1, .int a2, .long a3, pm_no, .int 12, .long y7_11755, pm_no, .int x9_8826, .int x10_11755, g11_11755, g12_11755, g13_11755, g14_11755, pm_no, pm_no, pm_no] [.long z11814] _ _
                refine pm_R_lo pm_M92 (pc_q := 60) (ls_q := [.ref 33, .int a0, .int a1, .int a2, .long a3, pm_no, .int 12, .long y7_11755, pm_no, .int x9_8826, .int x10_11755, .long z11814, pm_no, g13_11755, g14_11755, pm_no, pm_no, pm_no]) (st_q := []) rfl rfl rfl ?_
                refine pm_R_lo pm_M92 (pc_q := 61) rfl rfl rfl ?_
                refine pm_R_get pm_M92 (pc_q := 64) (v := .ref lo) rfl rfl T.e33 (by decide) (T.lt (by decide)) (by show some (va_rf (o 1)) = _; rw [ol]; rfl) rfl ?_
                refine pm_R_get pm_M92 (pc_q := 67) (v := .ref (lo + 3)) rfl rfl (T.im hkl (by decide) (by decide) eE11767) (G.ge hkl (by decide)) (T.al hkl (by decide)) rfl rfl ?_
                refine pm_R_lo pm_M92 (pc_q := 69) rfl rfl rfl ?_
                refine pm_R_op pm_M92 (pc_q := 70) (st_q := [.int 4, .int x10_11755, .ref (lo + 3)]) rfl rfl rfl ?_
                refine sf_R_imulV pm_M92 (pc_q := 71) rfl rfl B11781 sf_k4 (by decide) (by decide) (by decide) e11802 ?_
                have q11823 := cl_in4 (n := rc11756) (Nat.le_trans h11764 (by decide)) (Int32.not_le.mp c11777) (cl_aux5 _ _ e11802) B11781 (by decide) (by decide)
                obtain ⟨z11820, ez11821⟩ : ∃ y, fr11761 (Int32.toNatClampNeg z11801) = y := ⟨_, rfl⟩
                have B11822 : sf_B 0 5 z11820 := ez11821 ▸ q11823.2.2 ▸ (b11773 _ q11823.2.1).1
                refine pm_R_iald pm_M92 (pc_q := 72) (v := z11820) rfl (T.im kq11776.2.2.1 (by decide) (by decide) eE11770) (T.al kq11776.2.2.1 (by decide)) q11823.1 ez11821 rfl ?_
                refine pm_R_lo pm_M92 (pc_q := 73) rfl rfl rfl ?_
                refine pm_R_icmp pm_M92 (t := 93) (pc_q := 76) rfl rfl rfl (fun c11824 => ?_) (fun c11824 => ?_)
                · skip
                  refine pm_R_op pm_M92 (pc_q := 94) (st_q := [.long 0]) rfl rfl rfl ?_
                  refine pm_R_lo pm_M92 (pc_q := 96) (ls_q := [.ref 33, .int a0, .int a1, .int a2, .long a3, pm_no, .int 12, .long y7_11755, pm_no, .int x9_8826, .int x10_11755, .long z11814, pm_no, .long 0, pm_no, pm_no, pm_no, pm_no]) (st_q := []) rfl rfl rfl ?_
                  refine pm_R_lo pm_M92 (pc_q := 98) rfl rfl rfl ?_
                  refine pm_R_op pm_M92 (pc_q := 99) (st_q := [.long 0, .long z11814]) rfl rfl rfl ?_
                  refine sf_R_lcmp pm_M92 (pc_q := 100) rfl rfl (fun z11825 e11826 => ?_)
                  refine pm_R_ifc pm_M92 (t := 259) (pc_q := 103) rfl rfl rfl (fun c11827 => ?_) (fun c11827 => ?_)
                  · have B11828 : sf_B 0 0 z11825 := sf_eqL c11827 sf_k0
                    have B11829 : lf_B 0 0 z11814 := lf_eqB e11826 B11828 (⟨by decide, by decide⟩ : lf_B 0 0 0)
                    refine pm_R_lo pm_M92 (pc_q := 261) (pm_q92_2 (Nat.le_of_ble_eq_true rfl)) rfl rfl ?_
                    refine pm_R_lo pm_M92 (pc_q := 263) (pm_q92_2 (Nat.le_of_ble_eq_true rfl)) rfl rfl ?_
                    refine sf_R_lany pm_M92 (pc_q := 264) (st := []) (pm_q92_2 (Nat.le_of_ble_eq_true rfl)) rfl rfl (fun z11830 => ?_)
                    refine pm_R_lo pm_M92 (pc_q := 266) (ls_q := [.ref 33, .int a0, .int a1, .int a2, .long a3, pm_no, .int 12, .long z11830, pm_no, .int x9_8826, .int x10_11755, .long z11814, pm_no, .long 0, pm_no, pm_no, pm_no, pm_no]) (st_q := []) (pm_q92_2 (Nat.le_of_ble_eq_true rfl)) rfl rfl ?_
                    refine sf_R_iinc pm_M92 (pc_q := 269) (ls_q := fun z => [.ref 33, .int a0, .int a1, .int a2, .long a3, pm_no, .int 12, .long z11830, pm_no, .int x9_8826, .int z, .long z11814, pm_no, .long 0, pm_no, pm_no, pm_no, pm_no]) (pm_q92_2 (Nat.le_of_ble_eq_true rfl)) B11781 rfl (by decide) (by decide) (by decide) (fun _ => rfl) rfl (fun z11831 e11832 B11833 => ?_)
                    show pm_R _ 92 269 [.ref 33, .int a0, .int a1, .int a2, .long a3, pm_no, .int 12, .long z11830, pm_no, .int x9_8826, .int z11831, .long z11814, pm_no, .long 0, pm_no, pm_no, pm_no, pm_no] [] _ _
                    refine pm_R_br pm_M92 (pc_q := 37) (pm_q92_2 (Nat.le_of_ble_eq_true rfl)) rfl ?_
                    exact ih_11755 _ (sf_up hN_11755 e11832 B11781 (by decide) (by decide)) z11831 z11830 (.long z11814) (pm_no) (.long 0) (pm_no) (sf_weak B11833 (by decide) (by decide)) rfl rfl rfl
                  · have k11834 := sf_lneC e11826 c11827
                    refine pm_R_lo pm_M92 (pc_q := 105) rfl rfl rfl ?_
                    refine pm_R_lo pm_M92 (pc_q := 107) rfl rfl rfl ?_
                    refine sf_R_lcmp pm_M92 (pc_q := 108) rfl rfl (fun z11835 e11836 => ?_)
                    refine pm_R_ifc pm_M92 (t := 120) (pc_q := 111) rfl rfl rfl (fun c11837 => ?_) (fun c11837 => ?_)
                    · have B11838 : sf_B (-2147483648) (-1) z11835 := sf_ltL c11837 (sf_any z11835) sf_k0
                      have k11839 := lf_lt e11836 B11838 (by decide)
                      have k11840 := sf_lneB e11836 B11838 (by decide)
                      refine pm_R_lo pm_M92 (pc_q := 122) (pm_q92_1 (Nat.le_of_ble_eq_true rfl)) rfl rfl ?_
                      refine pm_R_ldc2 pm_M92 (pc_q := 125) (pm_q92_1 (Nat.le_of_ble_eq_true rfl)) rfl rfl ?_
                      refine sf_R_lcmp pm_M92 (pc_q := 126) (pm_q92_1 (Nat.le_of_ble_eq_true rfl)) rfl (fun z11841 e11842 => ?_)
                      refine pm_R_ifc pm_M92 (t := 133) (pc_q := 129) (pm_q92_1 (Nat.le_of_ble_eq_true rfl)) rfl rfl (fun c11843 => ?_) (fun c11843 => ?_)
                      · have k11844 := sf_lneC e11842 c11843
                        refine pm_R_op pm_M92 (pc_q := 134) (st_q := [.int 0]) (pm_q92_1 (Nat.le_of_ble_eq_true rfl)) rfl rfl ?_
                        refine pm_R_lo pm_M92 (pc_q := 136) (ls_q := [.ref 33, .int a0, .int a1, .int a2, .long a3, pm_no, .int 12, .long y7_11755, pm_no, .int x9_8826, .int x10_11755, .long z11814, pm_no, .long 0, pm_no, .int 0, pm_no, pm_no]) (st_q := []) (pm_q92_1 (Nat.le_of_ble_eq_true rfl)) rfl rfl ?_
                        refine pm_R_lo pm_M92 (pc_q := 137) (pm_q92_1 (Nat.le_of_ble_eq_true rfl)) rfl rfl ?_
                        refine pm_R_lo pm_M92 (pc_q := 138) (pm_q92_1 (Nat.le_of_ble_eq_true rfl)) rfl rfl ?_
                        refine pm_R_get pm_M92 (pc_q := 141) (v := .ref lo) (pm_q92_1 (Nat.le_of_ble_eq_true rfl)) rfl T.e33 (by decide) (T.lt (by decide)) (by show some (va_rf (o 1)) = _; rw [ol]; rfl) rfl ?_
                        refine pm_R_get pm_M92 (pc_q := 144) (v := .ref (lo + 3)) (pm_q92_1 (Nat.le_of_ble_eq_true rfl)) rfl (T.im hkl (by decide) (by decide) eE11767) (G.ge hkl (by decide)) (T.al hkl (by decide)) rfl rfl ?_
                        refine pm_R_lo pm_M92 (pc_q := 146) (pm_q92_1 (Nat.le_of_ble_eq_true rfl)) rfl rfl ?_
                        refine pm_R_op pm_M92 (pc_q := 147) (st_q := [.int 4, .int x10_11755, .ref (lo + 3), .ref 33]) (pm_q92_1 (Nat.le_of_ble_eq_true rfl)) rfl rfl ?_
                        refine sf_R_imulV pm_M92 (pc_q := 148) (pm_q92_1 (Nat.le_of_ble_eq_true rfl)) rfl B11781 sf_k4 (by decide) (by decide) (by decide) e11802 ?_
                        refine pm_R_op pm_M92 (pc_q := 149) (st_q := [.int 1, .int z11801, .ref (lo + 3), .ref 33]) (pm_q92_1 (Nat.le_of_ble_eq_true rfl)) rfl rfl ?_
                        refine sf_R_iadd pm_M92 (pc_q := 150) (pm_q92_1 (Nat.le_of_ble_eq_true rfl)) rfl B11803 sf_k1 (by decide) (by decide) (fun z11845 e11846 B11847 => ?_)
                        have q11851 := cl_in4 (n := rc11756) (Nat.le_trans h11764 (by decide)) (Int32.not_le.mp c11777) (cl_aux7 _ _ _ e11802 e11846) B11781 (by decide) (by decide)
                        obtain ⟨z11848, ez11849⟩ : ∃ y, fr11761 (Int32.toNatClampNeg z11845) = y := ⟨_, rfl⟩
                        have B11850 : sf_B 0 5 z11848 := ez11849 ▸ q11851.2.2 ▸ (b11773 _ q11851.2.1).2.1
                        refine pm_R_iald pm_M92 (pc_q := 151) (v := z11848) (pm_q92_1 (Nat.le_of_ble_eq_true rfl)) (T.im kq11776.2.2.1 (by decide) (by decide) eE11770) (T.al kq11776.2.2.1 (by decide)) q11851.1 ez11849 rfl ?_
                        refine pm_R_lo pm_M92 (pc_q := 152) (pm_q92_1 (Nat.le_of_ble_eq_true rfl)) rfl rfl ?_
                        refine pm_R_lo pm_M92 (pc_q := 154) (pm_q92_1 (Nat.le_of_ble_eq_true rfl)) rfl rfl ?_
                        refine pm_R_lo pm_M92 (pc_q := 156) (pm_q92_1 (Nat.le_of_ble_eq_true rfl)) rfl rfl ?_
                        refine pm_R_br pm_M92 (pc_q := 163) (st_q := [.int x9_8826, .int a1, .int z11848, .ref 33]) (pm_q92_1 (Nat.le_of_ble_eq_true rfl)) rfl ?_
                        refine pm_R_lo pm_M92 (pc_q := 165) (pm_q92_1 (Nat.le_of_ble_eq_true rfl)) rfl rfl ?_
                        refine pm_R_lo pm_M92 (pc_q := 167) (pm_q92_1 (Nat.le_of_ble_eq_true rfl)) rfl rfl ?_
                        refine sf_R_ldivA pm_M92 (pc_q := 168) (pm_q92_1 (Nat.le_of_ble_eq_true rfl)) rfl k11834 (fun z11852 => ?_)
                        refine pm_R_lo pm_M92 (pc_q := 170) (pm_q92_1 (Nat.le_of_ble_eq_true rfl)) rfl rfl ?_
                        refine pm_R_op pm_M92 (pc_q := 171) (st_q := [.int 1, .int 12, .long z11852, .int x9_8826, .int a1, .int z11848, .ref 33]) (pm_q92_1 (Nat.le_of_ble_eq_true rfl)) rfl rfl ?_
                        refine pm_R_op pm_M92 (pc_q := 172) (st_q := [.int 13, .long z11852, .int x9_8826, .int a1, .int z11848, .ref 33]) (pm_q92_1 (Nat.le_of_ble_eq_true rfl)) rfl rfl ?_
                        refine pm_R_cv pm_M92 (pc_q := 175) (a := 33) (ra := [.int 13, .long z11852, .int x9_8826, .int a1, .int z11848]) (rest := []) (ls_q := [.ref 33, .int z11848, .int a1, .int x9_8826, .long z11852, pm_no, .int 13, pm_no, pm_no, pm_no, pm_no, pm_no, pm_no, pm_no, pm_no, pm_no, pm_no, pm_no]) (pm_q92_1 (Nat.le_of_ble_eq_true rfl)) rfl (Or.inl rfl) pm_M92 T.e33 rfl (by decide) (T.lt (by decide)) rfl rfl (Nat.le_of_ble_eq_true rfl) rfl rfl ?_
                        refine cl_c92_13 (d := d + 0) G T B11850 (sf_weak B19 (by decide) (by decide)) (sf_weak B8829 (by decide) (by decide)) ol orr eE5 P1 (Int32.lt_iff_toInt_lt.mpr (cl_aux14 _ _ _ (Int32.lt_iff_toInt_lt.mp (Int32.not_le.mp c8827)) (Int32.lt_iff_toInt_lt.mp P2))) (fun r11853 m11855 h11856 T11857 F11858 W11859 B11854 => ?_)
                        have F11860 := (cl_F.refl (ck := ck) (A := [33, 35]) (n := 0) (s := 0) T.1).trans (N := 0) (S := 0) F11858 (by decide) (by decide) (by decide)
                        have W11861 : rf_W [14, 15] m m11855 := (rf_W.refl [14, 15] m).trans W11859 (by decide)
                        show pm_R _ 92 175 [.ref 33, .int a0, .int a1, .int a2, .long a3, pm_no, .int 12, .long y7_11755, pm_no, .int x9_8826, .int x10_11755, .long z11814, pm_no, .long 0, pm_no, .int 0, pm_no, pm_no] [.int r11853] _ _
                        refine pm_R_lo pm_M92 (pc_q := 177) (ls_q := [.ref 33, .int a0, .int a1, .int a2, .long a3, pm_no, .int 12, .long y7_11755, pm_no, .int x9_8826, .int x10_11755, .long z11814, pm_no, .long 0, pm_no, .int 0, .int r11853, pm_no]) (st_q := []) (pm_q92_1 (Nat.le_of_ble_eq_true rfl)) rfl rfl ?_
                        refine pm_R_lo pm_M92 (pc_q := 178) (pm_q92_1 (Nat.le_of_ble_eq_true rfl)) rfl rfl ?_
                        refine pm_R_lo pm_M92 (pc_q := 179) (pm_q92_1 (Nat.le_of_ble_eq_true rfl)) rfl rfl ?_
                        refine pm_R_get pm_M92 (pc_q := 182) (v := .ref lo) (pm_q92_1 (Nat.le_of_ble_eq_true rfl)) rfl T11857.e33 (by decide) (T11857.lt (by decide)) (by show some (va_rf (o 1)) = _; rw [ol]; rfl) rfl ?_
                        refine pm_R_get pm_M92 (pc_q := 185) (v := .ref (lo + 3)) (pm_q92_1 (Nat.le_of_ble_eq_true rfl)) rfl (T11857.im hkl (by decide) (by decide) eE11767) (G.ge hkl (by decide)) (T11857.al hkl (by decide)) rfl rfl ?_
                        refine pm_R_lo pm_M92 (pc_q := 187) (pm_q92_1 (Nat.le_of_ble_eq_true rfl)) rfl rfl ?_
                        refine pm_R_op pm_M92 (pc_q := 188) (st_q := [.int 4, .int x10_11755, .ref (lo + 3), .ref 33]) (pm_q92_1 (Nat.le_of_ble_eq_true rfl)) rfl rfl ?_
                        refine sf_R_imulV pm_M92 (pc_q := 189) (pm_q92_1 (Nat.le_of_ble_eq_true rfl)) rfl B11781 sf_k4 (by decide) (by decide) (by decide) e11802 ?_
                        refine pm_R_op pm_M92 (pc_q := 190) (st_q := [.int 2, .int z11801, .ref (lo + 3), .ref 33]) (pm_q92_1 (Nat.le_of_ble_eq_true rfl)) rfl rfl ?_
                        refine sf_R_iaddV pm_M92 (pc_q := 191) (pm_q92_1 (Nat.le_of_ble_eq_true rfl)) rfl B11803 sf_k2 (by decide) (by decide) e11805 ?_
                        have q11865 := cl_in4 (n := rc11756) (Nat.le_trans h11764 (by decide)) (Int32.not_le.mp c11777) (cl_aux6 _ _ _ e11802 e11805) B11781 (by decide) (by decide)
                        refine pm_R_iald pm_M92 (pc_q := 192) (v := z11807) (pm_q92_1 (Nat.le_of_ble_eq_true rfl)) (T11857.im kq11776.2.2.1 (by decide) (by decide) eE11770) (T11857.al kq11776.2.2.1 (by decide)) q11865.1 ez11808 rfl ?_
                        refine pm_R_lo pm_M92 (pc_q := 194) (pm_q92_1 (Nat.le_of_ble_eq_true rfl)) rfl rfl ?_
                        refine pm_R_op pm_M92 (pc_q := 195) (st_q := [.int 1, .int x9_8826, .int z11807, .ref 33]) (pm_q92_1 (Nat.le_of_ble_eq_true rfl)) rfl rfl ?_
                        refine sf_R_iaddV pm_M92 (pc_q := 196) (pm_q92_1 (Nat.le_of_ble_eq_true rfl)) rfl B8829 sf_k1 (by decide) (by decide) e11784 ?_
                        refine pm_R_lo pm_M92 (pc_q := 197) (pm_q92_1 (Nat.le_of_ble_eq_true rfl)) rfl rfl ?_
                        refine pm_R_lo pm_M92 (pc_q := 199) (pm_q92_1 (Nat.le_of_ble_eq_true rfl)) rfl rfl ?_
                        refine pm_R_br pm_M92 (pc_q := 207) (st_q := [.int a2, .int z11783, .int z11807, .ref 33]) (pm_q92_1 (Nat.le_of_ble_eq_true rfl)) rfl ?_
                        refine pm_R_lo pm_M92 (pc_q := 209) (pm_q92_1 (Nat.le_of_ble_eq_true rfl)) rfl rfl ?_
                        refine pm_R_lo pm_M92 (pc_q := 211) (pm_q92_1 (Nat.le_of_ble_eq_true rfl)) rfl rfl ?_
                        refine sf_R_lremA pm_M92 (pc_q := 212) (pm_q92_1 (Nat.le_of_ble_eq_true rfl)) rfl k11834 (fun z11866 => ?_)
                        refine pm_R_lo pm_M92 (pc_q := 214) (pm_q92_1 (Nat.le_of_ble_eq_true rfl)) rfl rfl ?_
                        refine pm_R_op pm_M92 (pc_q := 215) (st_q := [.int 1, .int 12, .long z11866, .int a2, .int z11783, .int z11807, .ref 33]) (pm_q92_1 (Nat.le_of_ble_eq_true rfl)) rfl rfl ?_
                        refine pm_R_op pm_M92 (pc_q := 216) (st_q := [.int 13, .long z11866, .int a2, .int z11783, .int z11807, .ref 33]) (pm_q92_1 (Nat.le_of_ble_eq_true rfl)) rfl rfl ?_
                        refine pm_R_cv pm_M92 (pc_q := 219) (a := 33) (ra := [.int 13, .long z11866, .int a2, .int z11783, .int z11807]) (rest := []) (ls_q := [.ref 33, .int z11807, .int z11783, .int a2, .long z11866, pm_no, .int 13, pm_no, pm_no, pm_no, pm_no, pm_no, pm_no, pm_no, pm_no, pm_no, pm_no, pm_no]) (pm_q92_1 (Nat.le_of_ble_eq_true rfl)) rfl (Or.inl rfl) pm_M92 T11857.e33 rfl (by decide) (T11857.lt (by decide)) rfl rfl (Nat.le_of_ble_eq_true rfl) rfl rfl ?_
                        refine cl_c92_13 (d := d + 0) G T11857 B11809 (sf_weak B11785 (by decide) (by decide)) (sf_weak B20 (by decide) (by decide)) ol orr eE5 (Int32.lt_iff_toInt_lt.mpr (cl_aux15 _ _ _ _ e11784 (Int32.lt_iff_toInt_lt.mp (Int32.not_le.mp c8827)) (Int32.lt_iff_toInt_lt.mp P2))) P2 (fun r11867 m11869 h11870 T11871 F11872 W11873 B11868 => ?_)
                        have F11874 := F11860.trans (N := 0) (S := 0) F11872 (by decide) (by decide) (by decide)
                        have W11875 : rf_W [14, 15] m m11869 := W11861.trans W11873 (by decide)
                        show pm_R _ 92 219 [.ref 33, .int a0, .int a1, .int a2, .long a3, pm_no, .int 12, .long y7_11755, pm_no, .int x9_8826, .int x10_11755, .long z11814, pm_no, .long 0, pm_no, .int 0, .int r11853, pm_no] [.int r11867] _ _
                        refine pm_R_lo pm_M92 (pc_q := 221) (ls_q := [.ref 33, .int a0, .int a1, .int a2, .long a3, pm_no, .int 12, .long y7_11755, pm_no, .int x9_8826, .int x10_11755, .long z11814, pm_no, .long 0, pm_no, .int 0, .int r11853, .int r11867]) (st_q := []) (pm_q92_2 (Nat.le_of_ble_eq_true rfl)) rfl rfl ?_
                        refine pm_R_lo pm_M92 (pc_q := 222) (pm_q92_2 (Nat.le_of_ble_eq_true rfl)) rfl rfl ?_
                        refine pm_R_lo pm_M92 (pc_q := 224) (pm_q92_2 (Nat.le_of_ble_eq_true rfl)) rfl rfl ?_
                        refine cl_R_put33 G pm_M92 T11871 (k := 14) (pc_q := 227) (pm_q92_2 (Nat.le_of_ble_eq_true rfl)) rfl rfl (by decide) rfl rfl (sf_any _) rfl rfl rfl rfl rfl (fun h11876 m11879 em11880 T11877 F11878 => ?_)
                        have F11881 := F11878.cl (ck := ck) T11871.1
                        have F11882 := F11874.trans (N := 0) (S := 0) F11881 (by decide) (by decide) (by decide)
                        have B11883 : sf_B 0 9 (m11879 14) := by rw [em11880]; exact B11781
                        have ek11884 : (m11879 14).toInt = (x10_11755).toInt := by rw [em11880]; rfl
                        have W11885 : rf_W [14, 15] m m11879 := by rw [em11880]; exact W11875.put (by decide)
                        refine pm_R_lo pm_M92 (pc_q := 228) (pm_q92_2 (Nat.le_of_ble_eq_true rfl)) rfl rfl ?_
                        refine pm_R_lo pm_M92 (pc_q := 230) (pm_q92_2 (Nat.le_of_ble_eq_true rfl)) rfl rfl ?_
                        refine pm_R_op pm_M92 (pc_q := 231) (st_q := [.int 1, .int x9_8826, .ref 33]) (pm_q92_2 (Nat.le_of_ble_eq_true rfl)) rfl rfl ?_
                        refine sf_R_iaddV pm_M92 (pc_q := 232) (pm_q92_2 (Nat.le_of_ble_eq_true rfl)) rfl B8829 sf_k1 (by decide) (by decide) e11784 ?_
                        refine pm_R_lo pm_M92 (pc_q := 233) (pm_q92_2 (Nat.le_of_ble_eq_true rfl)) rfl rfl ?_
                        refine sf_R_isub pm_M92 (pc_q := 234) (pm_q92_2 (Nat.le_of_ble_eq_true rfl)) rfl B11785 B19 (by decide) (by decide) (fun z11886 e11887 B11888 => ?_)
                        refine cl_R_put33 G pm_M92 T11877 (k := 15) (pc_q := 237) (pm_q92_2 (Nat.le_of_ble_eq_true rfl)) rfl rfl (by decide) rfl rfl (sf_any _) rfl rfl rfl rfl rfl (fun h11889 m11892 em11893 T11890 F11891 => ?_)
                        have F11894 := F11891.cl (ck := ck) T11877.1
                        have F11895 := F11882.trans (N := 0) (S := 0) F11894 (by decide) (by decide) (by decide)
                        have B11896 : sf_B 0 9 (m11892 14) := by rw [em11893]; exact B11883
                        have ek11897 : (m11892 14).toInt = (x10_11755).toInt := by rw [em11893]; exact ek11884
                        have B11898 : sf_B (-9) 11 (m11892 15) := by rw [em11893]; exact B11888
                        have ek11899 : (m11892 15).toInt = (z11886).toInt := by rw [em11893]; rfl
                        have W11900 : rf_W [14, 15] m m11892 := by rw [em11893]; exact W11885.put (by decide)
                        refine pm_R_lo pm_M92 (pc_q := 238) (pm_q92_2 (Nat.le_of_ble_eq_true rfl)) rfl rfl ?_
                        refine pm_R_get pm_M92 (pc_q := 241) (v := .ref lo) (pm_q92_2 (Nat.le_of_ble_eq_true rfl)) rfl T11890.e33 (by decide) (T11890.lt (by decide)) (by show some (va_rf (o 1)) = _; rw [ol]; rfl) rfl ?_
                        refine pm_R_get pm_M92 (pc_q := 244) (v := .ref (lo + 3)) (pm_q92_2 (Nat.le_of_ble_eq_true rfl)) rfl (T11890.im hkl (by decide) (by decide) eE11767) (G.ge hkl (by decide)) (T11890.al hkl (by decide)) rfl rfl ?_
                        refine pm_R_lo pm_M92 (pc_q := 246) (pm_q92_2 (Nat.le_of_ble_eq_true rfl)) rfl rfl ?_
                        refine pm_R_op pm_M92 (pc_q := 247) (st_q := [.int 4, .int x10_11755, .ref (lo + 3)]) (pm_q92_2 (Nat.le_of_ble_eq_true rfl)) rfl rfl ?_
                        refine sf_R_imulV pm_M92 (pc_q := 248) (pm_q92_2 (Nat.le_of_ble_eq_true rfl)) rfl B11781 sf_k4 (by decide) (by decide) (by decide) e11802 ?_
                        refine pm_R_op pm_M92 (pc_q := 249) (st_q := [.int 3, .int z11801, .ref (lo + 3)]) (pm_q92_2 (Nat.le_of_ble_eq_true rfl)) rfl rfl ?_
                        refine sf_R_iadd pm_M92 (pc_q := 250) (pm_q92_2 (Nat.le_of_ble_eq_true rfl)) rfl B11803 sf_k3 (by decide) (by decide) (fun z11901 e11902 B11903 => ?_)
                        have q11907 := cl_in4 (n := rc11756) (Nat.le_trans h11764 (by decide)) (Int32.not_le.mp c11777) (cl_aux9 _ _ _ e11802 e11902) B11781 (by decide) (by decide)
                        obtain ⟨z11904, ez11905⟩ : ∃ y, fr11761 (Int32.toNatClampNeg z11901) = y := ⟨_, rfl⟩
                        refine pm_R_iald pm_M92 (pc_q := 251) (v := z11904) (pm_q92_2 (Nat.le_of_ble_eq_true rfl)) (T11890.im kq11776.2.2.1 (by decide) (by decide) eE11770) (T11890.al kq11776.2.2.1 (by decide)) q11907.1 ez11905 rfl ?_
                        refine pm_R_lo pm_M92 (pc_q := 253) (pm_q92_2 (Nat.le_of_ble_eq_true rfl)) rfl rfl ?_
                        refine pm_R_lo pm_M92 (pc_q := 255) (pm_q92_2 (Nat.le_of_ble_eq_true rfl)) rfl rfl ?_
                        refine pm_R_cs pm_M92 (pc_q := 258) (ra := [.int r11867, .int r11853, .int z11904]) (rest := []) (ls_q := [.int z11904, .int r11853, .int r11867]) (pm_q92_2 (Nat.le_of_ble_eq_true rfl)) rfl (Or.inr rfl) pm_M88 rfl rfl (Nat.le_of_ble_eq_true rfl) rfl rfl ?_
                        refine cl_c88_u (d := d + 2)  (fun r11908 => ?_)
                        show pm_R _ 92 258 [.ref 33, .int a0, .int a1, .int a2, .long a3, pm_no, .int 12, .long y7_11755, pm_no, .int x9_8826, .int x10_11755, .long z11814, pm_no, .long 0, pm_no, .int 0, .int r11853, .int r11867] [.int r11908] _ _
                        exact pm_R_ret pm_M92 (r := some (.int r11908)) (pm_q92_2 (Nat.le_of_ble_eq_true rfl)) (pm_ret_i _) (K r11908 m11892 h11889 T11890 F11895 W11900)
                      · have B11915 : sf_B 0 0 z11841 := sf_eqL (Classical.not_not.mp c11843) sf_k0
                        have B11916 : lf_B (-1) (-1) z11814 := lf_eqB e11842 B11915 (⟨by decide, by decide⟩ : lf_B (-1) (-1) (-1))
                        refine pm_R_op pm_M92 (pc_q := 130) (st_q := [.int 1]) (pm_q92_1 (Nat.le_of_ble_eq_true rfl)) rfl rfl ?_
                        refine pm_R_br pm_M92 (pc_q := 134) (pm_q92_1 (Nat.le_of_ble_eq_true rfl)) rfl ?_
                        refine pm_R_lo pm_M92 (pc_q := 136) (ls_q := [.ref 33, .int a0, .int a1, .int a2, .long a3, pm_no, .int 12, .long y7_11755, pm_no, .int x9_8826, .int x10_11755, .long z11814, pm_no, .long 0, pm_no, .int 1, pm_no, pm_no]) (st_q := []) (pm_q92_1 (Nat.le_of_ble_eq_true rfl)) rfl rfl ?_
                        refine pm_R_lo pm_M92 (pc_q := 137) (pm_q92_1 (Nat.le_of_ble_eq_true rfl)) rfl rfl ?_
                        refine pm_R_lo pm_M92 (pc_q := 138) (pm_q92_1 (Nat.le_of_ble_eq_true rfl)) rfl rfl ?_
                        refine pm_R_get pm_M92 (pc_q := 141) (v := .ref lo) (pm_q92_1 (Nat.le_of_ble_eq_true rfl)) rfl T.e33 (by decide) (T.lt (by decide)) (by show some (va_rf (o 1)) = _; rw [ol]; rfl) rfl ?_
                        refine pm_R_get pm_M92 (pc_q := 144) (v := .ref (lo + 3)) (pm_q92_1 (Nat.le_of_ble_eq_true rfl)) rfl (T.im hkl (by decide) (by decide) eE11767) (G.ge hkl (by decide)) (T.al hkl (by decide)) rfl rfl ?_
                        refine pm_R_lo pm_M92 (pc_q := 146) (pm_q92_1 (Nat.le_of_ble_eq_true rfl)) rfl rfl ?_
                        refine pm_R_op pm_M92 (pc_q := 147) (st_q := [.int 4, .int x10_11755, .ref (lo + 3), .ref 33]) (pm_q92_1 (Nat.le_of_ble_eq_true rfl)) rfl rfl ?_
                        refine sf_R_imulV pm_M92 (pc_q := 148) (pm_q92_1 (Nat.le_of_ble_eq_true rfl)) rfl B11781 sf_k4 (by decide) (by decide) (by decide) e11802 ?_
                        refine pm_R_op pm_M92 (pc_q := 149) (st_q := [.int 1, .int z11801, .ref (lo + 3), .ref 33]) (pm_q92_1 (Nat.le_of_ble_eq_true rfl)) rfl rfl ?_
                        refine sf_R_iadd pm_M92 (pc_q := 150) (pm_q92_1 (Nat.le_of_ble_eq_true rfl)) rfl B11803 sf_k1 (by decide) (by decide) (fun z11917 e11918 B11919 => ?_)
                        have q11923 := cl_in4 (n := rc11756) (Nat.le_trans h11764 (by decide)) (Int32.not_le.mp c11777) (cl_aux7 _ _ _ e11802 e11918) B11781 (by decide) (by decide)
                        obtain ⟨z11920, ez11921⟩ : ∃ y, fr11761 (Int32.toNatClampNeg z11917) = y := ⟨_, rfl⟩
                        have B11922 : sf_B 0 5 z11920 := ez11921 ▸ q11923.2.2 ▸ (b11773 _ q11923.2.1).2.1
                        refine pm_R_iald pm_M92 (pc_q := 151) (v := z11920) (pm_q92_1 (Nat.le_of_ble_eq_true rfl)) (T.im kq11776.2.2.1 (by decide) (by decide) eE11770) (T.al kq11776.2.2.1 (by decide)) q11923.1 ez11921 rfl ?_
                        refine pm_R_lo pm_M92 (pc_q := 152) (pm_q92_1 (Nat.le_of_ble_eq_true rfl)) rfl rfl ?_
                        refine pm_R_lo pm_M92 (pc_q := 154) (pm_q92_1 (Nat.le_of_ble_eq_true rfl)) rfl rfl ?_
                        refine pm_R_lo pm_M92 (pc_q := 156) (pm_q92_1 (Nat.le_of_ble_eq_true rfl)) rfl rfl ?_
                        refine pm_R_br pm_M92 (pc_q := 159) (st_q := [.int x9_8826, .int a1, .int z11920, .ref 33]) (pm_q92_1 (Nat.le_of_ble_eq_true rfl)) rfl ?_
                        refine pm_R_op pm_M92 (pc_q := 160) (st_q := [.long 0, .int x9_8826, .int a1, .int z11920, .ref 33]) (pm_q92_1 (Nat.le_of_ble_eq_true rfl)) rfl rfl ?_
                        refine pm_R_br pm_M92 (pc_q := 168) (pm_q92_1 (Nat.le_of_ble_eq_true rfl)) rfl ?_
                        refine pm_R_lo pm_M92 (pc_q := 170) (pm_q92_1 (Nat.le_of_ble_eq_true rfl)) rfl rfl ?_
                        refine pm_R_op pm_M92 (pc_q := 171) (st_q := [.int 1, .int 12, .long 0, .int x9_8826, .int a1, .int z11920, .ref 33]) (pm_q92_1 (Nat.le_of_ble_eq_true rfl)) rfl rfl ?_
                        refine pm_R_op pm_M92 (pc_q := 172) (st_q := [.int 13, .long 0, .int x9_8826, .int a1, .int z11920, .ref 33]) (pm_q92_1 (Nat.le_of_ble_eq_true rfl)) rfl rfl ?_
                        refine pm_R_cv pm_M92 (pc_q := 175) (a := 33) (ra := [.int 13, .long 0, .int x9_8826, .int a1, .int z11920]) (rest := []) (ls_q := [.ref 33, .int z11920, .int a1, .int x9_8826, .long 0, pm_no, .int 13, pm_no, pm_no, pm_no, pm_no, pm_no, pm_no, pm_no, pm_no, pm_no, pm_no, pm_no]) (pm_q92_1 (Nat.le_of_ble_eq_true rfl)) rfl (Or.inl rfl) pm_M92 T.e33 rfl (by decide) (T.lt (by decide)) rfl rfl (Nat.le_of_ble_eq_true rfl) rfl rfl ?_
                        refine cl_c92_13 (d := d + 0) G T B11922 (sf_weak B19 (by decide) (by decide)) (sf_weak B8829 (by decide) (by decide)) ol orr eE5 P1 (Int32.lt_iff_toInt_lt.mpr (cl_aux14 _ _ _ (Int32.lt_iff_toInt_lt.mp (Int32.not_le.mp c8827)) (Int32.lt_iff_toInt_lt.mp P2))) (fun r11924 m11926 h11927 T11928 F11929 W11930 B11925 => ?_)
                        have F11931 := (cl_F.refl (ck := ck) (A := [33, 35]) (n := 0) (s := 0) T.1).trans (N := 0) (S := 0) F11929 (by decide) (by decide) (by decide)
                        have W11932 : rf_W [14, 15] m m11926 := (rf_W.refl [14, 15] m).trans W11930 (by decide)
                        show pm_R _ 92 175 [.ref 33, .int a0, .int a1, .int a2, .long a3, pm_no, .int 12, .long y7_11755, pm_no, .int x9_8826, .int x10_11755, .long z11814, pm_no, .long 0, pm_no, .int 1, pm_no, pm_no] [.int r11924] _ _
                        refine pm_R_lo pm_M92 (pc_q := 177) (ls_q := [.ref 33, .int a0, .int a1, .int a2, .long a3, pm_no, .int 12, .long y7_11755, pm_no, .int x9_8826, .int x10_11755, .long z11814, pm_no, .long 0, pm_no, .int 1, .int r11924, pm_no]) (st_q := []) (pm_q92_1 (Nat.le_of_ble_eq_true rfl)) rfl rfl ?_
                        refine pm_R_lo pm_M92 (pc_q := 178) (pm_q92_1 (Nat.le_of_ble_eq_true rfl)) rfl rfl ?_
                        refine pm_R_lo pm_M92 (pc_q := 179) (pm_q92_1 (Nat.le_of_ble_eq_true rfl)) rfl rfl ?_
                        refine pm_R_get pm_M92 (pc_q := 182) (v := .ref lo) (pm_q92_1 (Nat.le_of_ble_eq_true rfl)) rfl T11928.e33 (by decide) (T11928.lt (by decide)) (by show some (va_rf (o 1)) = _; rw [ol]; rfl) rfl ?_
                        refine pm_R_get pm_M92 (pc_q := 185) (v := .ref (lo + 3)) (pm_q92_1 (Nat.le_of_ble_eq_true rfl)) rfl (T11928.im hkl (by decide) (by decide) eE11767) (G.ge hkl (by decide)) (T11928.al hkl (by decide)) rfl rfl ?_
                        refine pm_R_lo pm_M92 (pc_q := 187) (pm_q92_1 (Nat.le_of_ble_eq_true rfl)) rfl rfl ?_
                        refine pm_R_op pm_M92 (pc_q := 188) (st_q := [.int 4, .int x10_11755, .ref (lo + 3), .ref 33]) (pm_q92_1 (Nat.le_of_ble_eq_true rfl)) rfl rfl ?_
                        refine sf_R_imulV pm_M92 (pc_q := 189) (pm_q92_1 (Nat.le_of_ble_eq_true rfl)) rfl B11781 sf_k4 (by decide) (by decide) (by decide) e11802 ?_
                        refine pm_R_op pm_M92 (pc_q := 190) (st_q := [.int 2, .int z11801, .ref (lo + 3), .ref 33]) (pm_q92_1 (Nat.le_of_ble_eq_true rfl)) rfl rfl ?_
                        refine sf_R_iaddV pm_M92 (pc_q := 191) (pm_q92_1 (Nat.le_of_ble_eq_true rfl)) rfl B11803 sf_k2 (by decide) (by decide) e11805 ?_
                        have q11936 := cl_in4 (n := rc11756) (Nat.le_trans h11764 (by decide)) (Int32.not_le.mp c11777) (cl_aux6 _ _ _ e11802 e11805) B11781 (by decide) (by decide)
                        refine pm_R_iald pm_M92 (pc_q := 192) (v := z11807) (pm_q92_1 (Nat.le_of_ble_eq_true rfl)) (T11928.im kq11776.2.2.1 (by decide) (by decide) eE11770) (T11928.al kq11776.2.2.1 (by decide)) q11936.1 ez11808 rfl ?_
                        refine pm_R_lo pm_M92 (pc_q := 194) (pm_q92_1 (Nat.le_of_ble_eq_true rfl)) rfl rfl ?_
                        refine pm_R_op pm_M92 (pc_q := 195) (st_q := [.int 1, .int x9_8826, .int z11807, .ref 33]) (pm_q92_1 (Nat.le_of_ble_eq_true rfl)) rfl rfl ?_
                        refine sf_R_iaddV pm_M92 (pc_q := 196) (pm_q92_1 (Nat.le_of_ble_eq_true rfl)) rfl B8829 sf_k1 (by decide) (by decide) e11784 ?_
                        refine pm_R_lo pm_M92 (pc_q := 197) (pm_q92_1 (Nat.le_of_ble_eq_true rfl)) rfl rfl ?_
                        refine pm_R_lo pm_M92 (pc_q := 199) (pm_q92_1 (Nat.le_of_ble_eq_true rfl)) rfl rfl ?_
                        refine pm_R_br pm_M92 (pc_q := 202) (st_q := [.int a2, .int z11783, .int z11807, .ref 33]) (pm_q92_1 (Nat.le_of_ble_eq_true rfl)) rfl ?_
                        refine pm_R_lo pm_M92 (pc_q := 204) (pm_q92_1 (Nat.le_of_ble_eq_true rfl)) rfl rfl ?_
                        refine pm_R_br pm_M92 (pc_q := 212) (pm_q92_1 (Nat.le_of_ble_eq_true rfl)) rfl ?_
                        refine pm_R_lo pm_M92 (pc_q := 214) (pm_q92_1 (Nat.le_of_ble_eq_true rfl)) rfl rfl ?_
                        refine pm_R_op pm_M92 (pc_q := 215) (st_q := [.int 1, .int 12, .long y7_11755, .int a2, .int z11783, .int z11807, .ref 33]) (pm_q92_1 (Nat.le_of_ble_eq_true rfl)) rfl rfl ?_
                        refine pm_R_op pm_M92 (pc_q := 216) (st_q := [.int 13, .long y7_11755, .int a2, .int z11783, .int z11807, .ref 33]) (pm_q92_1 (Nat.le_of_ble_eq_true rfl)) rfl rfl ?_
                        refine pm_R_cv pm_M92 (pc_q := 219) (a := 33) (ra := [.int 13, .long y7_11755, .int a2, .int z11783, .int z11807]) (rest := []) (ls_q := [.ref 33, .int z11807, .int z11783, .int a2, .long y7_11755, pm_no, .int 13, pm_no, pm_no, pm_no, pm_no, pm_no, pm_no, pm_no, pm_no, pm_no, pm_no, pm_no]) (pm_q92_1 (Nat.le_of_ble_eq_true rfl)) rfl (Or.inl rfl) pm_M92 T11928.e33 rfl (by decide) (T11928.lt (by decide)) rfl rfl (Nat.le_of_ble_eq_true rfl) rfl rfl ?_
                        refine cl_c92_13 (d := d + 0) G T11928 B11809 (sf_weak B11785 (by decide) (by decide)) (sf_weak B20 (by decide) (by decide)) ol orr eE5 (Int32.lt_iff_toInt_lt.mpr (cl_aux15 _ _ _ _ e11784 (Int32.lt_iff_toInt_lt.mp (Int32.not_le.mp c8827)) (Int32.lt_iff_toInt_lt.mp P2))) P2 (fun r11937 m11939 h11940 T11941 F11942 W11943 B11938 => ?_)
                        have F11944 := F11931.trans (N := 0) (S := 0) F11942 (by decide) (by decide) (by decide)
                        have W11945 : rf_W [14, 15] m m11939 := W11932.trans W11943 (by decide)
                        show pm_R _ 92 219 [.ref 33, .int a0, .int a1, .int a2, .long a3, pm_no, .int 12, .long y7_11755, pm_no, .int x9_8826, .int x10_11755, .long z11814, pm_no, .long 0, pm_no, .int 1, .int r11924, pm_no] [.int r11937] _ _
                        refine pm_R_lo pm_M92 (pc_q := 221) (ls_q := [.ref 33, .int a0, .int a1, .int a2, .long a3, pm_no, .int 12, .long y7_11755, pm_no, .int x9_8826, .int x10_11755, .long z11814, pm_no, .long 0, pm_no, .int 1, .int r11924, .int r11937]) (st_q := []) (pm_q92_2 (Nat.le_of_ble_eq_true rfl)) rfl rfl ?_
                        refine pm_R_lo pm_M92 (pc_q := 222) (pm_q92_2 (Nat.le_of_ble_eq_true rfl)) rfl rfl ?_
                        refine pm_R_lo pm_M92 (pc_q := 224) (pm_q92_2 (Nat.le_of_ble_eq_true rfl)) rfl rfl ?_
                        refine cl_R_put33 G pm_M92 T11941 (k := 14) (pc_q := 227) (pm_q92_2 (Nat.le_of_ble_eq_true rfl)) rfl rfl (by decide) rfl rfl (sf_any _) rfl rfl rfl rfl rfl (fun h11946 m11949 em11950 T11947 F11948 => ?_)
                        have F11951 := F11948.cl (ck := ck) T11941.1
                        have F11952 := F11944.trans (N := 0) (S := 0) F11951 (by decide) (by decide) (by decide)
                        have B11953 : sf_B 0 9 (m11949 14) := by rw [em11950]; exact B11781
                        have ek11954 : (m11949 14).toInt = (x10_11755).toInt := by rw [em11950]; rfl
                        have W11955 : rf_W [14, 15] m m11949 := by rw [em11950]; exact W11945.put (by decide)
                        refine pm_R_lo pm_M92 (pc_q := 228) (pm_q92_2 (Nat.le_of_ble_eq_true rfl)) rfl rfl ?_
                        refine pm_R_lo pm_M92 (pc_q := 230) (pm_q92_2 (Nat.le_of_ble_eq_true rfl)) rfl rfl ?_
                        refine pm_R_op pm_M92 (pc_q := 231) (st_q := [.int 1, .int x9_8826, .ref 33]) (pm_q92_2 (Nat.le_of_ble_eq_true rfl)) rfl rfl ?_
                        refine sf_R_iaddV pm_M92 (pc_q := 232) (pm_q92_2 (Nat.le_of_ble_eq_true rfl)) rfl B8829 sf_k1 (by decide) (by decide) e11784 ?_
                        refine pm_R_lo pm_M92 (pc_q := 233) (pm_q92_2 (Nat.le_of_ble_eq_true rfl)) rfl rfl ?_
                        refine sf_R_isub pm_M92 (pc_q := 234) (pm_q92_2 (Nat.le_of_ble_eq_true rfl)) rfl B11785 B19 (by decide) (by decide) (fun z11956 e11957 B11958 => ?_)
                        refine cl_R_put33 G pm_M92 T11947 (k := 15) (pc_q := 237) (pm_q92_2 (Nat.le_of_ble_eq_true rfl)) rfl rfl (by decide) rfl rfl (sf_any _) rfl rfl rfl rfl rfl (fun h11959 m11962 em11963 T11960 F11961 => ?_)
                        have F11964 := F11961.cl (ck := ck) T11947.1
                        have F11965 := F11952.trans (N := 0) (S := 0) F11964 (by decide) (by decide) (by decide)
                        have B11966 : sf_B 0 9 (m11962 14) := by rw [em11963]; exact B11953
                        have ek11967 : (m11962 14).toInt = (x10_11755).toInt := by rw [em11963]; exact ek11954
                        have B11968 : sf_B (-9) 11 (m11962 15) := by rw [em11963]; exact B11958
                        have ek11969 : (m11962 15).toInt = (z11956).toInt := by rw [em11963]; rfl
                        have W11970 : rf_W [14, 15] m m11962 := by rw [em11963]; exact W11955.put (by decide)
                        refine pm_R_lo pm_M92 (pc_q := 238) (pm_q92_2 (Nat.le_of_ble_eq_true rfl)) rfl rfl ?_
                        refine pm_R_get pm_M92 (pc_q := 241) (v := .ref lo) (pm_q92_2 (Nat.le_of_ble_eq_true rfl)) rfl T11960.e33 (by decide) (T11960.lt (by decide)) (by show some (va_rf (o 1)) = _; rw [ol]; rfl) rfl ?_
                        refine pm_R_get pm_M92 (pc_q := 244) (v := .ref (lo + 3)) (pm_q92_2 (Nat.le_of_ble_eq_true rfl)) rfl (T11960.im hkl (by decide) (by decide) eE11767) (G.ge hkl (by decide)) (T11960.al hkl (by decide)) rfl rfl ?_
                        refine pm_R_lo pm_M92 (pc_q := 246) (pm_q92_2 (Nat.le_of_ble_eq_true rfl)) rfl rfl ?_
                        refine pm_R_op pm_M92 (pc_q := 247) (st_q := [.int 4, .int x10_11755, .ref (lo + 3)]) (pm_q92_2 (Nat.le_of_ble_eq_true rfl)) rfl rfl ?_
                        refine sf_R_imulV pm_M92 (pc_q := 248) (pm_q92_2 (Nat.le_of_ble_eq_true rfl)) rfl B11781 sf_k4 (by decide) (by decide) (by decide) e11802 ?_
                        refine pm_R_op pm_M92 (pc_q := 249) (st_q := [.int 3, .int z11801, .ref (lo + 3)]) (pm_q92_2 (Nat.le_of_ble_eq_true rfl)) rfl rfl ?_
                        refine sf_R_iadd pm_M92 (pc_q := 250) (pm_q92_2 (Nat.le_of_ble_eq_true rfl)) rfl B11803 sf_k3 (by decide) (by decide) (fun z11971 e11972 B11973 => ?_)
                        have q11977 := cl_in4 (n := rc11756) (Nat.le_trans h11764 (by decide)) (Int32.not_le.mp c11777) (cl_aux9 _ _ _ e11802 e11972) B11781 (by decide) (by decide)
                        obtain ⟨z11974, ez11975⟩ : ∃ y, fr11761 (Int32.toNatClampNeg z11971) = y := ⟨_, rfl⟩
                        refine pm_R_iald pm_M92 (pc_q := 251) (v := z11974) (pm_q92_2 (Nat.le_of_ble_eq_true rfl)) (T11960.im kq11776.2.2.1 (by decide) (by decide) eE11770) (T11960.al kq11776.2.2.1 (by decide)) q11977.1 ez11975 rfl ?_
                        refine pm_R_lo pm_M92 (pc_q := 253) (pm_q92_2 (Nat.le_of_ble_eq_true rfl)) rfl rfl ?_
                        refine pm_R_lo pm_M92 (pc_q := 255) (pm_q92_2 (Nat.le_of_ble_eq_true rfl)) rfl rfl ?_
                        refine pm_R_cs pm_M92 (pc_q := 258) (ra := [.int r11937, .int r11924, .int z11974]) (rest := []) (ls_q := [.int z11974, .int r11924, .int r11937]) (pm_q92_2 (Nat.le_of_ble_eq_true rfl)) rfl (Or.inr rfl) pm_M88 rfl rfl (Nat.le_of_ble_eq_true rfl) rfl rfl ?_
                        refine cl_c88_u (d := d + 2)  (fun r11978 => ?_)
                        show pm_R _ 92 258 [.ref 33, .int a0, .int a1, .int a2, .long a3, pm_no, .int 12, .long y7_11755, pm_no, .int x9_8826, .int x10_11755, .long z11814, pm_no, .long 0, pm_no, .int 1, .int r11924, .int r11937] [.int r11978] _ _
                        exact pm_R_ret pm_M92 (r := some (.int r11978)) (pm_q92_2 (Nat.le_of_ble_eq_true rfl)) (pm_ret_i _) (K r11978 m11962 h11959 T11960 F11965 W11970)
                    · have B11985 : sf_B 0 2147483647 z11835 := sf_leR (Int32.not_lt.mp c11837) sf_k0 (sf_any z11835)
                      have k11986 := lf_ge e11836 B11985 (by decide)
                      have B11987 : lf_B 0 9223372036854775807 y7_11755 := lf_geB k11986 (⟨by decide, by decide⟩ : lf_B 0 0 0) (lf_any _)
                      refine pm_R_lo pm_M92 (pc_q := 113) rfl rfl rfl ?_
                      refine pm_R_ldc2 pm_M92 (pc_q := 116) (pm_q92_1 (Nat.le_of_ble_eq_true rfl)) rfl rfl ?_
                      refine sf_R_lcmp pm_M92 (pc_q := 117) (pm_q92_1 (Nat.le_of_ble_eq_true rfl)) rfl (fun z11988 e11989 => ?_)
                      have B11990 : sf_B 1 2147483647 z11988 := lf_cmpGt e11989 (⟨by decide, by decide⟩ : lf_B 0 0 0) (⟨by decide, by decide⟩ : lf_B (-1) (-1) (-1)) (by decide)
                      refine pm_R_ifc pm_M92 (t := 259) (pc_q := 120) (pm_q92_1 (Nat.le_of_ble_eq_true rfl)) rfl rfl (fun c11991 => ?_) (fun c11991 => absurd (Classical.not_not.mp c11991) (sf_neq1 B11990 sf_k0 (by decide)))
                      have k11992 := sf_lneC e11989 c11991
                      refine pm_R_lo pm_M92 (pc_q := 261) (pm_q92_2 (Nat.le_of_ble_eq_true rfl)) rfl rfl ?_
                      refine pm_R_lo pm_M92 (pc_q := 263) (pm_q92_2 (Nat.le_of_ble_eq_true rfl)) rfl rfl ?_
                      refine sf_R_lsubN pm_M92 (pc_q := 264) (pm_q92_2 (Nat.le_of_ble_eq_true rfl)) rfl B11987 (⟨by decide, by decide⟩ : lf_B 0 0 0) (by decide) k11986 (fun z11993 e11994 B11995 => ?_)
                      refine pm_R_lo pm_M92 (pc_q := 266) (ls_q := [.ref 33, .int a0, .int a1, .int a2, .long a3, pm_no, .int 12, .long z11993, pm_no, .int x9_8826, .int x10_11755, .long z11814, pm_no, .long 0, pm_no, pm_no, pm_no, pm_no]) (st_q := []) (pm_q92_2 (Nat.le_of_ble_eq_true rfl)) rfl rfl ?_
                      refine sf_R_iinc pm_M92 (pc_q := 269) (ls_q := fun z => [.ref 33, .int a0, .int a1, .int a2, .long a3, pm_no, .int 12, .long z11993, pm_no, .int x9_8826, .int z, .long z11814, pm_no, .long 0, pm_no, pm_no, pm_no, pm_no]) (pm_q92_2 (Nat.le_of_ble_eq_true rfl)) B11781 rfl (by decide) (by decide) (by decide) (fun _ => rfl) rfl (fun z11996 e11997 B11998 => ?_)
                      show pm_R _ 92 269 [.ref 33, .int a0, .int a1, .int a2, .long a3, pm_no, .int 12, .long z11993, pm_no, .int x9_8826, .int z11996, .long z11814, pm_no, .long 0, pm_no, pm_no, pm_no, pm_no] [] _ _
                      refine pm_R_br pm_M92 (pc_q := 37) (pm_q92_2 (Nat.le_of_ble_eq_true rfl)) rfl ?_
                      exact ih_11755 _ (sf_up hN_11755 e11997 B11781 (by decide) (by decide)) z11996 z11993 (.long z11814) (pm_no) (.long 0) (pm_no) (sf_weak B11998 (by decide) (by decide)) rfl rfl rfl
                · refine pm_R_lo pm_M92 (pc_q := 77) rfl rfl rfl ?_
                  refine pm_R_lo pm_M92 (pc_q := 79) rfl rfl rfl ?_
                  refine pm_R_lo pm_M92 (pc_q := 80) rfl rfl rfl ?_
                  refine pm_R_lo pm_M92 (pc_q := 82) rfl rfl rfl ?_
                  refine pm_R_cv pm_M92 (pc_q := 85) (a := 33) (ra := [.int x9_8826, .int a1, .int x10_11755]) (rest := []) (ls_q := [.ref 33, .int x10_11755, .int a1, .int x9_8826]) rfl rfl (Or.inl rfl) pm_M75 T.e33 rfl (by decide) (T.lt (by decide)) rfl rfl (Nat.le_of_ble_eq_true rfl) rfl rfl ?_
                  refine pm_R_lo pm_M75 (pc_q := 1) rfl rfl rfl ?_
                  refine pm_R_get pm_M75 (pc_q := 4) (v := .ref 34) rfl rfl T.e33 (by decide) (T.lt (by decide)) rfl rfl ?_
                  refine pm_R_lo pm_M75 (pc_q := 5) rfl rfl rfl ?_
                  refine pm_R_lo pm_M75 (pc_q := 6) rfl rfl rfl ?_
                  refine pm_R_cs pm_M75 (pc_q := 9) (ra := [.int x9_8826, .int a1]) (rest := [.ref 34]) (ls_q := [.int a1, .int x9_8826]) rfl rfl (Or.inr rfl) pm_M73 rfl rfl (Nat.le_of_ble_eq_true rfl) rfl rfl ?_
                  refine pm_R_lo pm_M73 (pc_q := 1) rfl rfl rfl ?_
                  refine pm_R_lo pm_M73 (pc_q := 2) rfl rfl rfl ?_
                  refine pm_R_op pm_M73 (pc_q := 3) (st_q := [.int 1, .int x9_8826, .int x9_8826]) rfl rfl rfl ?_
                  refine sf_R_iaddV pm_M73 (pc_q := 4) rfl rfl B8829 sf_k1 (by decide) (by decide) e11784 ?_
                  refine sf_R_imul pm_M73 (pc_q := 5) rfl rfl B8829 B11785 (by decide) (by decide) (by decide) (fun z11999 e12000 B12001 => ?_)
                  refine pm_R_op pm_M73 (pc_q := 6) (st_q := [.int 2, .int z11999]) rfl rfl rfl ?_
                  refine sf_R_idiv pm_M73 (pc_q := 7) rfl rfl B12001 sf_k2 (by decide) (by decide) (fun z12002 e12003 B12004 => ?_)
                  refine pm_R_lo pm_M73 (pc_q := 8) rfl rfl rfl ?_
                  refine sf_R_iadd pm_M73 (pc_q := 9) rfl rfl B12004 B19 (by decide) (by decide) (fun z12005 e12006 B12007 => ?_)
                  refine pm_R_ret pm_M73 (r := some (.int z12005)) rfl (pm_ret_i _) ?_
                  show pm_R _ 75 9 [.ref 33, .int x10_11755, .int a1, .int x9_8826] [.int z12005, .ref 34] _ _
                  refine pm_R_op pm_M75 (pc_q := 11) (st_q := [.int 6, .int z12005, .ref 34]) rfl rfl rfl ?_
                  refine sf_R_imul pm_M75 (pc_q := 12) rfl rfl B12007 sf_k6 (by decide) (by decide) (by decide) (fun z12008 e12009 B12010 => ?_)
                  refine pm_R_lo pm_M75 (pc_q := 13) rfl rfl rfl ?_
                  refine pm_R_get pm_M75 (pc_q := 16) (v := .ref lo) rfl rfl T.e33 (by decide) (T.lt (by decide)) (by show some (va_rf (o 1)) = _; rw [ol]; rfl) rfl ?_
                  refine pm_R_get pm_M75 (pc_q := 19) (v := .ref (lo + 3)) rfl rfl (T.im hkl (by decide) (by decide) eE11767) (G.ge hkl (by decide)) (T.al hkl (by decide)) rfl rfl ?_
                  refine pm_R_lo pm_M75 (pc_q := 20) rfl rfl rfl ?_
                  refine pm_R_op pm_M75 (pc_q := 21) (st_q := [.int 4, .int x10_11755, .ref (lo + 3), .int z12008, .ref 34]) rfl rfl rfl ?_
                  refine sf_R_imulV pm_M75 (pc_q := 22) rfl rfl B11781 sf_k4 (by decide) (by decide) (by decide) e11802 ?_
                  refine pm_R_op pm_M75 (pc_q := 23) (st_q := [.int 1, .int z11801, .ref (lo + 3), .int z12008, .ref 34]) rfl rfl rfl ?_
                  refine sf_R_iadd pm_M75 (pc_q := 24) rfl rfl B11803 sf_k1 (by decide) (by decide) (fun z12011 e12012 B12013 => ?_)
                  have q12017 := cl_in4 (n := rc11756) (Nat.le_trans h11764 (by decide)) (Int32.not_le.mp c11777) (cl_aux7 _ _ _ e11802 e12012) B11781 (by decide) (by decide)
                  obtain ⟨z12014, ez12015⟩ : ∃ y, fr11761 (Int32.toNatClampNeg z12011) = y := ⟨_, rfl⟩
                  have B12016 : sf_B 0 5 z12014 := ez12015 ▸ q12017.2.2 ▸ (b11773 _ q12017.2.1).2.1
                  refine pm_R_iald pm_M75 (pc_q := 25) (v := z12014) rfl (T.im kq11776.2.2.1 (by decide) (by decide) eE11770) (T.al kq11776.2.2.1 (by decide)) q12017.1 ez12015 rfl ?_
                  refine sf_R_iadd pm_M75 (pc_q := 26) rfl rfl B12010 B12016 (by decide) (by decide) (fun z12018 e12019 B12020 => ?_)
                  obtain ⟨z12021, ez12022⟩ : ∃ y, f11817 (Int32.toNatClampNeg z12018) = y := ⟨_, rfl⟩
                  refine pm_R_lald pm_M75 (pc_q := 27) (v := z12021) rfl e11818 (by decide) (T.lt (by decide)) (sf_in B12020 (by decide) (by decide)) ez12022 rfl ?_
                  refine pm_R_ret pm_M75 (r := some (.long z12021)) rfl rfl ?_
                  show pm_R _ 92 85 [.ref 33, .int a0, .int a1, .int a2, .long a3, pm_no, .int 12, .long y7_11755, pm_no, .int x9_8826, .int x10_11755, .long z11814, pm_no, g13_11755, g14_11755, pm_no, pm_no, pm_no] [.long z12021] _ _
                  refine pm_R_lo pm_M92 (pc_q := 87) rfl rfl rfl ?_
                  refine pm_R_cs pm_M92 (pc_q := 90) (ra := [.long z11814, .long z12021]) (rest := []) (ls_q := [.long z12021, pm_no, .long z11814, pm_no]) rfl rfl (Or.inr rfl) pm_M77 rfl rfl (Nat.le_of_ble_eq_true rfl) rfl rfl ?_
                  refine cl_c77 (d := d + 2)  (fun r12024 => ?_)
                  show pm_R _ 92 90 [.ref 33, .int a0, .int a1, .int a2, .long a3, pm_no, .int 12, .long y7_11755, pm_no, .int x9_8826, .int x10_11755, .long z11814, pm_no, g13_11755, g14_11755, pm_no, pm_no, pm_no] [.long r12024] _ _
                  refine pm_R_br pm_M92 (pc_q := 94) rfl rfl ?_
                  refine pm_R_lo pm_M92 (pc_q := 96) (ls_q := [.ref 33, .int a0, .int a1, .int a2, .long a3, pm_no, .int 12, .long y7_11755, pm_no, .int x9_8826, .int x10_11755, .long z11814, pm_no, .long r12024, pm_no, pm_no, pm_no, pm_no]) (st_q := []) rfl rfl rfl ?_
                  refine pm_R_lo pm_M92 (pc_q := 98) rfl rfl rfl ?_
                  refine pm_R_op pm_M92 (pc_q := 99) (st_q := [.long 0, .long z11814]) rfl rfl rfl ?_
                  refine sf_R_lcmp pm_M92 (pc_q := 100) rfl rfl (fun z12031 e12032 => ?_)
                  refine pm_R_ifc pm_M92 (t := 259) (pc_q := 103) rfl rfl rfl (fun c12033 => ?_) (fun c12033 => ?_)
                  · have B12034 : sf_B 0 0 z12031 := sf_eqL c12033 sf_k0
                    have B12035 : lf_B 0 0 z11814 := lf_eqB e12032 B12034 (⟨by decide, by decide⟩ : lf_B 0 0 0)
                    refine pm_R_lo pm_M92 (pc_q := 261) (pm_q92_2 (Nat.le_of_ble_eq_true rfl)) rfl rfl ?_
                    refine pm_R_lo pm_M92 (pc_q := 263) (pm_q92_2 (Nat.le_of_ble_eq_true rfl)) rfl rfl ?_
                    refine sf_R_lany pm_M92 (pc_q := 264) (st := []) (pm_q92_2 (Nat.le_of_ble_eq_true rfl)) rfl rfl (fun z12036 => ?_)
                    refine pm_R_lo pm_M92 (pc_q := 266) (ls_q := [.ref 33, .int a0, .int a1, .int a2, .long a3, pm_no, .int 12, .long z12036, pm_no, .int x9_8826, .int x10_11755, .long z11814, pm_no, .long r12024, pm_no, pm_no, pm_no, pm_no]) (st_q := []) (pm_q92_2 (Nat.le_of_ble_eq_true rfl)) rfl rfl ?_
                    refine sf_R_iinc pm_M92 (pc_q := 269) (ls_q := fun z => [.ref 33, .int a0, .int a1, .int a2, .long a3, pm_no, .int 12, .long z12036, pm_no, .int x9_8826, .int z, .long z11814, pm_no, .long r12024, pm_no, pm_no, pm_no, pm_no]) (pm_q92_2 (Nat.le_of_ble_eq_true rfl)) B11781 rfl (by decide) (by decide) (by decide) (fun _ => rfl) rfl (fun z12037 e12038 B12039 => ?_)
                    show pm_R _ 92 269 [.ref 33, .int a0, .int a1, .int a2, .long a3, pm_no, .int 12, .long z12036, pm_no, .int x9_8826, .int z12037, .long z11814, pm_no, .long r12024, pm_no, pm_no, pm_no, pm_no] [] _ _
                    refine pm_R_br pm_M92 (pc_q := 37) (pm_q92_2 (Nat.le_of_ble_eq_true rfl)) rfl ?_
                    exact ih_11755 _ (sf_up hN_11755 e12038 B11781 (by decide) (by decide)) z12037 z12036 (.long z11814) (pm_no) (.long r12024) (pm_no) (sf_weak B12039 (by decide) (by decide)) rfl rfl rfl
                  · have k12040 := sf_lneC e12032 c12033
                    refine pm_R_lo pm_M92 (pc_q := 105) rfl rfl rfl ?_
                    refine pm_R_lo pm_M92 (pc_q := 107) rfl rfl rfl ?_
                    refine sf_R_lcmp pm_M92 (pc_q := 108) rfl rfl (fun z12041 e12042 => ?_)
                    refine pm_R_ifc pm_M92 (t := 120) (pc_q := 111) rfl rfl rfl (fun c12043 => ?_) (fun c12043 => ?_)
                    · have B12044 : sf_B (-2147483648) (-1) z12041 := sf_ltL c12043 (sf_any z12041) sf_k0
                      have k12045 := lf_lt e12042 B12044 (by decide)
                      have k12046 := sf_lneB e12042 B12044 (by decide)
                      refine pm_R_lo pm_M92 (pc_q := 122) (pm_q92_1 (Nat.le_of_ble_eq_true rfl)) rfl rfl ?_
                      refine pm_R_ldc2 pm_M92 (pc_q := 125) (pm_q92_1 (Nat.le_of_ble_eq_true rfl)) rfl rfl ?_
                      refine sf_R_lcmp pm_M92 (pc_q := 126) (pm_q92_1 (Nat.le_of_ble_eq_true rfl)) rfl (fun z12047 e12048 => ?_)
                      refine pm_R_ifc pm_M92 (t := 133) (pc_q := 129) (pm_q92_1 (Nat.le_of_ble_eq_true rfl)) rfl rfl (fun c12049 => ?_) (fun c12049 => ?_)
                      · have k12050 := sf_lneC e12048 c12049
                        refine pm_R_op pm_M92 (pc_q := 134) (st_q := [.int 0]) (pm_q92_1 (Nat.le_of_ble_eq_true rfl)) rfl rfl ?_
                        refine pm_R_lo pm_M92 (pc_q := 136) (ls_q := [.ref 33, .int a0, .int a1, .int a2, .long a3, pm_no, .int 12, .long y7_11755, pm_no, .int x9_8826, .int x10_11755, .long z11814, pm_no, .long r12024, pm_no, .int 0, pm_no, pm_no]) (st_q := []) (pm_q92_1 (Nat.le_of_ble_eq_true rfl)) rfl rfl ?_
                        refine pm_R_lo pm_M92 (pc_q := 137) (pm_q92_1 (Nat.le_of_ble_eq_true rfl)) rfl rfl ?_
                        refine pm_R_lo pm_M92 (pc_q := 138) (pm_q92_1 (Nat.le_of_ble_eq_true rfl)) rfl rfl ?_
                        refine pm_R_get pm_M92 (pc_q := 141) (v := .ref lo) (pm_q92_1 (Nat.le_of_ble_eq_true rfl)) rfl T.e33 (by decide) (T.lt (by decide)) (by show some (va_rf (o 1)) = _; rw [ol]; rfl) rfl ?_
                        refine pm_R_get pm_M92 (pc_q := 144) (v := .ref (lo + 3)) (pm_q92_1 (Nat.le_of_ble_eq_true rfl)) rfl (T.im hkl (by decide) (by decide) eE11767) (G.ge hkl (by decide)) (T.al hkl (by decide)) rfl rfl ?_
                        refine pm_R_lo pm_M92 (pc_q := 146) (pm_q92_1 (Nat.le_of_ble_eq_true rfl)) rfl rfl ?_
                        refine pm_R_op pm_M92 (pc_q := 147) (st_q := [.int 4, .int x10_11755, .ref (lo + 3), .ref 33]) (pm_q92_1 (Nat.le_of_ble_eq_true rfl)) rfl rfl ?_
                        refine sf_R_imulV pm_M92 (pc_q := 148) (pm_q92_1 (Nat.le_of_ble_eq_true rfl)) rfl B11781 sf_k4 (by decide) (by decide) (by decide) e11802 ?_
                        refine pm_R_op pm_M92 (pc_q := 149) (st_q := [.int 1, .int z11801, .ref (lo + 3), .ref 33]) (pm_q92_1 (Nat.le_of_ble_eq_true rfl)) rfl rfl ?_
                        refine sf_R_iaddV pm_M92 (pc_q := 150) (pm_q92_1 (Nat.le_of_ble_eq_true rfl)) rfl B11803 sf_k1 (by decide) (by decide) e12012 ?_
                        have q12054 := cl_in4 (n := rc11756) (Nat.le_trans h11764 (by decide)) (Int32.not_le.mp c11777) (cl_aux7 _ _ _ e11802 e12012) B11781 (by decide) (by decide)
                        refine pm_R_iald pm_M92 (pc_q := 151) (v := z12014) (pm_q92_1 (Nat.le_of_ble_eq_true rfl)) (T.im kq11776.2.2.1 (by decide) (by decide) eE11770) (T.al kq11776.2.2.1 (by decide)) q12054.1 ez12015 rfl ?_
                        refine pm_R_lo pm_M92 (pc_q := 152) (pm_q92_1 (Nat.le_of_ble_eq_true rfl)) rfl rfl ?_
                        refine pm_R_lo pm_M92 (pc_q := 154) (pm_q92_1 (Nat.le_of_ble_eq_true rfl)) rfl rfl ?_
                        refine pm_R_lo pm_M92 (pc_q := 156) (pm_q92_1 (Nat.le_of_ble_eq_true rfl)) rfl rfl ?_
                        refine pm_R_br pm_M92 (pc_q := 163) (st_q := [.int x9_8826, .int a1, .int z12014, .ref 33]) (pm_q92_1 (Nat.le_of_ble_eq_true rfl)) rfl ?_
                        refine pm_R_lo pm_M92 (pc_q := 165) (pm_q92_1 (Nat.le_of_ble_eq_true rfl)) rfl rfl ?_
                        refine pm_R_lo pm_M92 (pc_q := 167) (pm_q92_1 (Nat.le_of_ble_eq_true rfl)) rfl rfl ?_
                        refine sf_R_ldivA pm_M92 (pc_q := 168) (pm_q92_1 (Nat.le_of_ble_eq_true rfl)) rfl k12040 (fun z12055 => ?_)
                        refine pm_R_lo pm_M92 (pc_q := 170) (pm_q92_1 (Nat.le_of_ble_eq_true rfl)) rfl rfl ?_
                        refine pm_R_op pm_M92 (pc_q := 171) (st_q := [.int 1, .int 12, .long z12055, .int x9_8826, .int a1, .int z12014, .ref 33]) (pm_q92_1 (Nat.le_of_ble_eq_true rfl)) rfl rfl ?_
                        refine pm_R_op pm_M92 (pc_q := 172) (st_q := [.int 13, .long z12055, .int x9_8826, .int a1, .int z12014, .ref 33]) (pm_q92_1 (Nat.le_of_ble_eq_true rfl)) rfl rfl ?_
                        refine pm_R_cv pm_M92 (pc_q := 175) (a := 33) (ra := [.int 13, .long z12055, .int x9_8826, .int a1, .int z12014]) (rest := []) (ls_q := [.ref 33, .int z12014, .int a1, .int x9_8826, .long z12055, pm_no, .int 13, pm_no, pm_no, pm_no, pm_no, pm_no, pm_no, pm_no, pm_no, pm_no, pm_no, pm_no]) (pm_q92_1 (Nat.le_of_ble_eq_true rfl)) rfl (Or.inl rfl) pm_M92 T.e33 rfl (by decide) (T.lt (by decide)) rfl rfl (Nat.le_of_ble_eq_true rfl) rfl rfl ?_
                        refine cl_c92_13 (d := d + 0) G T B12016 (sf_weak B19 (by decide) (by decide)) (sf_weak B8829 (by decide) (by decide)) ol orr eE5 P1 (Int32.lt_iff_toInt_lt.mpr (cl_aux14 _ _ _ (Int32.lt_iff_toInt_lt.mp (Int32.not_le.mp c8827)) (Int32.lt_iff_toInt_lt.mp P2))) (fun r12056 m12058 h12059 T12060 F12061 W12062 B12057 => ?_)
                        have F12063 := (cl_F.refl (ck := ck) (A := [33, 35]) (n := 0) (s := 0) T.1).trans (N := 0) (S := 0) F12061 (by decide) (by decide) (by decide)
                        have W12064 : rf_W [14, 15] m m12058 := (rf_W.refl [14, 15] m).trans W12062 (by decide)
                        show pm_R _ 92 175 [.ref 33, .int a0, .int a1, .int a2, .long a3, pm_no, .int 12, .long y7_11755, pm_no, .int x9_8826, .int x10_11755, .long z11814, pm_no, .long r12024, pm_no, .int 0, pm_no, pm_no] [.int r12056] _ _
                        refine pm_R_lo pm_M92 (pc_q := 177) (ls_q := [.ref 33, .int a0, .int a1, .int a2, .long a3, pm_no, .int 12, .long y7_11755, pm_no, .int x9_8826, .int x10_11755, .long z11814, pm_no, .long r12024, pm_no, .int 0, .int r12056, pm_no]) (st_q := []) (pm_q92_1 (Nat.le_of_ble_eq_true rfl)) rfl rfl ?_
                        refine pm_R_lo pm_M92 (pc_q := 178) (pm_q92_1 (Nat.le_of_ble_eq_true rfl)) rfl rfl ?_
                        refine pm_R_lo pm_M92 (pc_q := 179) (pm_q92_1 (Nat.le_of_ble_eq_true rfl)) rfl rfl ?_
                        refine pm_R_get pm_M92 (pc_q := 182) (v := .ref lo) (pm_q92_1 (Nat.le_of_ble_eq_true rfl)) rfl T12060.e33 (by decide) (T12060.lt (by decide)) (by show some (va_rf (o 1)) = _; rw [ol]; rfl) rfl ?_
                        refine pm_R_get pm_M92 (pc_q := 185) (v := .ref (lo + 3)) (pm_q92_1 (Nat.le_of_ble_eq_true rfl)) rfl (T12060.im hkl (by decide) (by decide) eE11767) (G.ge hkl (by decide)) (T12060.al hkl (by decide)) rfl rfl ?_
                        refine pm_R_lo pm_M92 (pc_q := 187) (pm_q92_1 (Nat.le_of_ble_eq_true rfl)) rfl rfl ?_
                        refine pm_R_op pm_M92 (pc_q := 188) (st_q := [.int 4, .int x10_11755, .ref (lo + 3), .ref 33]) (pm_q92_1 (Nat.le_of_ble_eq_true rfl)) rfl rfl ?_
                        refine sf_R_imulV pm_M92 (pc_q := 189) (pm_q92_1 (Nat.le_of_ble_eq_true rfl)) rfl B11781 sf_k4 (by decide) (by decide) (by decide) e11802 ?_
                        refine pm_R_op pm_M92 (pc_q := 190) (st_q := [.int 2, .int z11801, .ref (lo + 3), .ref 33]) (pm_q92_1 (Nat.le_of_ble_eq_true rfl)) rfl rfl ?_
                        refine sf_R_iaddV pm_M92 (pc_q := 191) (pm_q92_1 (Nat.le_of_ble_eq_true rfl)) rfl B11803 sf_k2 (by decide) (by decide) e11805 ?_
                        have q12068 := cl_in4 (n := rc11756) (Nat.le_trans h11764 (by decide)) (Int32.not_le.mp c11777) (cl_aux6 _ _ _ e11802 e11805) B11781 (by decide) (by decide)
                        refine pm_R_iald pm_M92 (pc_q := 192) (v := z11807) (pm_q92_1 (Nat.le_of_ble_eq_true rfl)) (T12060.im kq11776.2.2.1 (by decide) (by decide) eE11770) (T12060.al kq11776.2.2.1 (by decide)) q12068.1 ez11808 rfl ?_
                        refine pm_R_lo pm_M92 (pc_q := 194) (pm_q92_1 (Nat.le_of_ble_eq_true rfl)) rfl rfl ?_
                        refine pm_R_op pm_M92 (pc_q := 195) (st_q := [.int 1, .int x9_8826, .int z11807, .ref 33]) (pm_q92_1 (Nat.le_of_ble_eq_true rfl)) rfl rfl ?_
                        refine sf_R_iaddV pm_M92 (pc_q := 196) (pm_q92_1 (Nat.le_of_ble_eq_true rfl)) rfl B8829 sf_k1 (by decide) (by decide) e11784 ?_
                        refine pm_R_lo pm_M92 (pc_q := 197) (pm_q92_1 (Nat.le_of_ble_eq_true rfl)) rfl rfl ?_
                        refine pm_R_lo pm_M92 (pc_q := 199) (pm_q92_1 (Nat.le_of_ble_eq_true rfl)) rfl rfl ?_
                        refine pm_R_br pm_M92 (pc_q := 207) (st_q := [.int a2, .int z11783, .int z11807, .ref 33]) (pm_q92_1 (Nat.le_of_ble_eq_true rfl)) rfl ?_
                        refine pm_R_lo pm_M92 (pc_q := 209) (pm_q92_1 (Nat.le_of_ble_eq_true rfl)) rfl rfl ?_
                        refine pm_R_lo pm_M92 (pc_q := 211) (pm_q92_1 (Nat.le_of_ble_eq_true rfl)) rfl rfl ?_
                        refine sf_R_lremA pm_M92 (pc_q := 212) (pm_q92_1 (Nat.le_of_ble_eq_true rfl)) rfl k12040 (fun z12069 => ?_)
                        refine pm_R_lo pm_M92 (pc_q := 214) (pm_q92_1 (Nat.le_of_ble_eq_true rfl)) rfl rfl ?_
                        refine pm_R_op pm_M92 (pc_q := 215) (st_q := [.int 1, .int 12, .long z12069, .int a2, .int z11783, .int z11807, .ref 33]) (pm_q92_1 (Nat.le_of_ble_eq_true rfl)) rfl rfl ?_
                        refine pm_R_op pm_M92 (pc_q := 216) (st_q := [.int 13, .long z12069, .int a2, .int z11783, .int z11807, .ref 33]) (pm_q92_1 (Nat.le_of_ble_eq_true rfl)) rfl rfl ?_
                        refine pm_R_cv pm_M92 (pc_q := 219) (a := 33) (ra := [.int 13, .long z12069, .int a2, .int z11783, .int z11807]) (rest := []) (ls_q := [.ref 33, .int z11807, .int z11783, .int a2, .long z12069, pm_no, .int 13, pm_no, pm_no, pm_no, pm_no, pm_no, pm_no, pm_no, pm_no, pm_no, pm_no, pm_no]) (pm_q92_1 (Nat.le_of_ble_eq_true rfl)) rfl (Or.inl rfl) pm_M92 T12060.e33 rfl (by decide) (T12060.lt (by decide)) rfl rfl (Nat.le_of_ble_eq_true rfl) rfl rfl ?_
                        refine cl_c92_13 (d := d + 0) G T12060 B11809 (sf_weak B11785 (by decide) (by decide)) (sf_weak B20 (by decide) (by decide)) ol orr eE5 (Int32.lt_iff_toInt_lt.mpr (cl_aux15 _ _ _ _ e11784 (Int32.lt_iff_toInt_lt.mp (Int32.not_le.mp c8827)) (Int32.lt_iff_toInt_lt.mp P2))) P2 (fun r12070 m12072 h12073 T12074 F12075 W12076 B12071 => ?_)
                        have F12077 := F12063.trans (N := 0) (S := 0) F12075 (by decide) (by decide) (by decide)
                        have W12078 : rf_W [14, 15] m m12072 := W12064.trans W12076 (by decide)
                        show pm_R _ 92 219 [.ref 33, .int a0, .int a1, .int a2, .long a3, pm_no, .int 12, .long y7_11755, pm_no, .int x9_8826, .int x10_11755, .long z11814, pm_no, .long r12024, pm_no, .int 0, .int r12056, pm_no] [.int r12070] _ _
                        refine pm_R_lo pm_M92 (pc_q := 221) (ls_q := [.ref 33, .int a0, .int a1, .int a2, .long a3, pm_no, .int 12, .long y7_11755, pm_no, .int x9_8826, .int x10_11755, .long z11814, pm_no, .long r12024, pm_no, .int 0, .int r12056, .int r12070]) (st_q := []) (pm_q92_2 (Nat.le_of_ble_eq_true rfl)) rfl rfl ?_
                        refine pm_R_lo pm_M92 (pc_q := 222) (pm_q92_2 (Nat.le_of_ble_eq_true rfl)) rfl rfl ?_
                        refine pm_R_lo pm_M92 (pc_q := 224) (pm_q92_2 (Nat.le_of_ble_eq_true rfl)) rfl rfl ?_
                        refine cl_R_put33 G pm_M92 T12074 (k := 14) (pc_q := 227) (pm_q92_2 (Nat.le_of_ble_eq_true rfl)) rfl rfl (by decide) rfl rfl (sf_any _) rfl rfl rfl rfl rfl (fun h12079 m12082 em12083 T12080 F12081 => ?_)
                        have F12084 := F12081.cl (ck := ck) T12074.1
                        have F12085 := F12077.trans (N := 0) (S := 0) F12084 (by decide) (by decide) (by decide)
                        have B12086 : sf_B 0 9 (m12082 14) := by rw [em12083]; exact B11781
                        have ek12087 : (m12082 14).toInt = (x10_11755).toInt := by rw [em12083]; rfl
                        have W12088 : rf_W [14, 15] m m12082 := by rw [em12083]; exact W12078.put (by decide)
                        refine pm_R_lo pm_M92 (pc_q := 228) (pm_q92_2 (Nat.le_of_ble_eq_true rfl)) rfl rfl ?_
                        refine pm_R_lo pm_M92 (pc_q := 230) (pm_q92_2 (Nat.le_of_ble_eq_true rfl)) rfl rfl ?_
                        refine pm_R_op pm_M92 (pc_q := 231) (st_q := [.int 1, .int x9_8826, .ref 33]) (pm_q92_2 (Nat.le_of_ble_eq_true rfl)) rfl rfl ?_
                        refine sf_R_iaddV pm_M92 (pc_q := 232) (pm_q92_2 (Nat.le_of_ble_eq_true rfl)) rfl B8829 sf_k1 (by decide) (by decide) e11784 ?_
                        refine pm_R_lo pm_M92 (pc_q := 233) (pm_q92_2 (Nat.le_of_ble_eq_true rfl)) rfl rfl ?_
                        refine sf_R_isub pm_M92 (pc_q := 234) (pm_q92_2 (Nat.le_of_ble_eq_true rfl)) rfl B11785 B19 (by decide) (by decide) (fun z12089 e12090 B12091 => ?_)
                        refine cl_R_put33 G pm_M92 T12080 (k := 15) (pc_q := 237) (pm_q92_2 (Nat.le_of_ble_eq_true rfl)) rfl rfl (by decide) rfl rfl (sf_any _) rfl rfl rfl rfl rfl (fun h12092 m12095 em12096 T12093 F12094 => ?_)
                        have F12097 := F12094.cl (ck := ck) T12080.1
                        have F12098 := F12085.trans (N := 0) (S := 0) F12097 (by decide) (by decide) (by decide)
                        have B12099 : sf_B 0 9 (m12095 14) := by rw [em12096]; exact B12086
                        have ek12100 : (m12095 14).toInt = (x10_11755).toInt := by rw [em12096]; exact ek12087
                        have B12101 : sf_B (-9) 11 (m12095 15) := by rw [em12096]; exact B12091
                        have ek12102 : (m12095 15).toInt = (z12089).toInt := by rw [em12096]; rfl
                        have W12103 : rf_W [14, 15] m m12095 := by rw [em12096]; exact W12088.put (by decide)
                        refine pm_R_lo pm_M92 (pc_q := 238) (pm_q92_2 (Nat.le_of_ble_eq_true rfl)) rfl rfl ?_
                        refine pm_R_get pm_M92 (pc_q := 241) (v := .ref lo) (pm_q92_2 (Nat.le_of_ble_eq_true rfl)) rfl T12093.e33 (by decide) (T12093.lt (by decide)) (by show some (va_rf (o 1)) = _; rw [ol]; rfl) rfl ?_
                        refine pm_R_get pm_M92 (pc_q := 244) (v := .ref (lo + 3)) (pm_q92_2 (Nat.le_of_ble_eq_true rfl)) rfl (T12093.im hkl (by decide) (by decide) eE11767) (G.ge hkl (by decide)) (T12093.al hkl (by decide)) rfl rfl ?_
                        refine pm_R_lo pm_M92 (pc_q := 246) (pm_q92_2 (Nat.le_of_ble_eq_true rfl)) rfl rfl ?_
                        refine pm_R_op pm_M92 (pc_q := 247) (st_q := [.int 4, .int x10_11755, .ref (lo + 3)]) (pm_q92_2 (Nat.le_of_ble_eq_true rfl)) rfl rfl ?_
                        refine sf_R_imulV pm_M92 (pc_q := 248) (pm_q92_2 (Nat.le_of_ble_eq_true rfl)) rfl B11781 sf_k4 (by decide) (by decide) (by decide) e11802 ?_
                        refine pm_R_op pm_M92 (pc_q := 249) (st_q := [.int 3, .int z11801, .ref (lo + 3)]) (pm_q92_2 (Nat.le_of_ble_eq_true rfl)) rfl rfl ?_
                        refine sf_R_iadd pm_M92 (pc_q := 250) (pm_q92_2 (Nat.le_of_ble_eq_true rfl)) rfl B11803 sf_k3 (by decide) (by decide) (fun z12104 e12105 B12106 => ?_)
                        have q12110 := cl_in4 (n := rc11756) (Nat.le_trans h11764 (by decide)) (Int32.not_le.mp c11777) (cl_aux9 _ _ _ e11802 e12105) B11781 (by decide) (by decide)
                        obtain ⟨z12107, ez12108⟩ : ∃ y, fr11761 (Int32.toNatClampNeg z12104) = y := ⟨_, rfl⟩
                        refine pm_R_iald pm_M92 (pc_q := 251) (v := z12107) (pm_q92_2 (Nat.le_of_ble_eq_true rfl)) (T12093.im kq11776.2.2.1 (by decide) (by decide) eE11770) (T12093.al kq11776.2.2.1 (by decide)) q12110.1 ez12108 rfl ?_
                        refine pm_R_lo pm_M92 (pc_q := 253) (pm_q92_2 (Nat.le_of_ble_eq_true rfl)) rfl rfl ?_
                        refine pm_R_lo pm_M92 (pc_q := 255) (pm_q92_2 (Nat.le_of_ble_eq_true rfl)) rfl rfl ?_
                        refine pm_R_cs pm_M92 (pc_q := 258) (ra := [.int r12070, .int r12056, .int z12107]) (rest := []) (ls_q := [.int z12107, .int r12056, .int r12070]) (pm_q92_2 (Nat.le_of_ble_eq_true rfl)) rfl (Or.inr rfl) pm_M88 rfl rfl (Nat.le_of_ble_eq_true rfl) rfl rfl ?_
                        refine cl_c88_u (d := d + 2)  (fun r12111 => ?_)
                        show pm_R _ 92 258 [.ref 33, .int a0, .int a1, .int a2, .long a3, pm_no, .int 12, .long y7_11755, pm_no, .int x9_8826, .int x10_11755, .long z11814, pm_no, .long r12024, pm_no, .int 0, .int r12056, .int r12070] [.int r12111] _ _
                        exact pm_R_ret pm_M92 (r := some (.int r12111)) (pm_q92_2 (Nat.le_of_ble_eq_true rfl)) (pm_ret_i _) (K r12111 m12095 h12092 T12093 F12098 W12103)
                      · have B12118 : sf_B 0 0 z12047 := sf_eqL (Classical.not_not.mp c12049) sf_k0
                        have B12119 : lf_B (-1) (-1) z11814 := lf_eqB e12048 B12118 (⟨by decide, by decide⟩ : lf_B (-1) (-1) (-1))
                        refine pm_R_op pm_M92 (pc_q := 130) (st_q := [.int 1]) (pm_q92_1 (Nat.le_of_ble_eq_true rfl)) rfl rfl ?_
                        refine pm_R_br pm_M92 (pc_q := 134) (pm_q92_1 (Nat.le_of_ble_eq_true rfl)) rfl ?_
                        refine pm_R_lo pm_M92 (pc_q := 136) (ls_q := [.ref 33, .int a0, .int a1, .int a2, .long a3, pm_no, .int 12, .long y7_11755, pm_no, .int x9_8826, .int x10_11755, .long z11814, pm_no, .long r12024, pm_no, .int 1, pm_no, pm_no]) (st_q := []) (pm_q92_1 (Nat.le_of_ble_eq_true rfl)) rfl rfl ?_
                        refine pm_R_lo pm_M92 (pc_q := 137) (pm_q92_1 (Nat.le_of_ble_eq_true rfl)) rfl rfl ?_
                        refine pm_R_lo pm_M92 (pc_q := 138) (pm_q92_1 (Nat.le_of_ble_eq_true rfl)) rfl rfl ?_
                        refine pm_R_get pm_M92 (pc_q := 141) (v := .ref lo) (pm_q92_1 (Nat.le_of_ble_eq_true rfl)) rfl T.e33 (by decide) (T.lt (by decide)) (by show some (va_rf (o 1)) = _; rw [ol]; rfl) rfl ?_
                        refine pm_R_get pm_M92 (pc_q := 144) (v := .ref (lo + 3)) (pm_q92_1 (Nat.le_of_ble_eq_true rfl)) rfl (T.im hkl (by decide) (by decide) eE11767) (G.ge hkl (by decide)) (T.al hkl (by decide)) rfl rfl ?_
                        refine pm_R_lo pm_M92 (pc_q := 146) (pm_q92_1 (Nat.le_of_ble_eq_true rfl)) rfl rfl ?_
                        refine pm_R_op pm_M92 (pc_q := 147) (st_q := [.int 4, .int x10_11755, .ref (lo + 3), .ref 33]) (pm_q92_1 (Nat.le_of_ble_eq_true rfl)) rfl rfl ?_
                        refine sf_R_imulV pm_M92 (pc_q := 148) (pm_q92_1 (Nat.le_of_ble_eq_true rfl)) rfl B11781 sf_k4 (by decide) (by decide) (by decide) e11802 ?_
                        refine pm_R_op pm_M92 (pc_q := 149) (st_q := [.int 1, .int z11801, .ref (lo + 3), .ref 33]) (pm_q92_1 (Nat.le_of_ble_eq_true rfl)) rfl rfl ?_
                        refine sf_R_iaddV pm_M92 (pc_q := 150) (pm_q92_1 (Nat.le_of_ble_eq_true rfl)) rfl B11803 sf_k1 (by decide) (by decide) e12012 ?_
                        have q12123 := cl_in4 (n := rc11756) (Nat.le_trans h11764 (by decide)) (Int32.not_le.mp c11777) (cl_aux7 _ _ _ e11802 e12012) B11781 (by decide) (by decide)
                        refine pm_R_iald pm_M92 (pc_q := 151) (v := z12014) (pm_q92_1 (Nat.le_of_ble_eq_true rfl)) (T.im kq11776.2.2.1 (by decide) (by decide) eE11770) (T.al kq11776.2.2.1 (by decide)) q12123.1 ez12015 rfl ?_
                        refine pm_R_lo pm_M92 (pc_q := 152) (pm_q92_1 (Nat.le_of_ble_eq_true rfl)) rfl rfl ?_
                        refine pm_R_lo pm_M92 (pc_q := 154) (pm_q92_1 (Nat.le_of_ble_eq_true rfl)) rfl rfl ?_
                        refine pm_R_lo pm_M92 (pc_q := 156) (pm_q92_1 (Nat.le_of_ble_eq_true rfl)) rfl rfl ?_
                        refine pm_R_br pm_M92 (pc_q := 159) (st_q := [.int x9_8826, .int a1, .int z12014, .ref 33]) (pm_q92_1 (Nat.le_of_ble_eq_true rfl)) rfl ?_
                        refine pm_R_op pm_M92 (pc_q := 160) (st_q := [.long 0, .int x9_8826, .int a1, .int z12014, .ref 33]) (pm_q92_1 (Nat.le_of_ble_eq_true rfl)) rfl rfl ?_
                        refine pm_R_br pm_M92 (pc_q := 168) (pm_q92_1 (Nat.le_of_ble_eq_true rfl)) rfl ?_
                        refine pm_R_lo pm_M92 (pc_q := 170) (pm_q92_1 (Nat.le_of_ble_eq_true rfl)) rfl rfl ?_
                        refine pm_R_op pm_M92 (pc_q := 171) (st_q := [.int 1, .int 12, .long 0, .int x9_8826, .int a1, .int z12014, .ref 33]) (pm_q92_1 (Nat.le_of_ble_eq_true rfl)) rfl rfl ?_
                        refine pm_R_op pm_M92 (pc_q := 172) (st_q := [.int 13, .long 0, .int x9_8826, .int a1, .int z12014, .ref 33]) (pm_q92_1 (Nat.le_of_ble_eq_true rfl)) rfl rfl ?_
                        refine pm_R_cv pm_M92 (pc_q := 175) (a := 33) (ra := [.int 13, .long 0, .int x9_8826, .int a1, .int z12014]) (rest := []) (ls_q := [.ref 33, .int z12014, .int a1, .int x9_8826, .long 0, pm_no, .int 13, pm_no, pm_no, pm_no, pm_no, pm_no, pm_no, pm_no, pm_no, pm_no, pm_no, pm_no]) (pm_q92_1 (Nat.le_of_ble_eq_true rfl)) rfl (Or.inl rfl) pm_M92 T.e33 rfl (by decide) (T.lt (by decide)) rfl rfl (Nat.le_of_ble_eq_true rfl) rfl rfl ?_
                        refine cl_c92_13 (d := d + 0) G T B12016 (sf_weak B19 (by decide) (by decide)) (sf_weak B8829 (by decide) (by decide)) ol orr eE5 P1 (Int32.lt_iff_toInt_lt.mpr (cl_aux14 _ _ _ (Int32.lt_iff_toInt_lt.mp (Int32.not_le.mp c8827)) (Int32.lt_iff_toInt_lt.mp P2))) (fun r12124 m12126 h12127 T12128 F12129 W12130 B12125 => ?_)
                        have F12131 := (cl_F.refl (ck := ck) (A := [33, 35]) (n := 0) (s := 0) T.1).trans (N := 0) (S := 0) F12129 (by decide) (by decide) (by decide)
                        have W12132 : rf_W [14, 15] m m12126 := (rf_W.refl [14, 15] m).trans W12130 (by decide)
                        show pm_R _ 92 175 [.ref 33, .int a0, .int a1, .int a2, .long a3, pm_no, .int 12, .long y7_11755, pm_no, .int x9_8826, .int x10_11755, .long z11814, pm_no, .long r12024, pm_no, .int 1, pm_no, pm_no] [.int r12124] _ _
                        refine pm_R_lo pm_M92 (pc_q := 177) (ls_q := [.ref 33, .int a0, .int a1, .int a2, .long a3, pm_no, .int 12, .long y7_11755, pm_no, .int x9_8826, .int x10_11755, .long z11814, pm_no, .long r12024, pm_no, .int 1, .int r12124, pm_no]) (st_q := []) (pm_q92_1 (Nat.le_of_ble_eq_true rfl)) rfl rfl ?_
                        refine pm_R_lo pm_M92 (pc_q := 178) (pm_q92_1 (Nat.le_of_ble_eq_true rfl)) rfl rfl ?_
                        refine pm_R_lo pm_M92 (pc_q := 179) (pm_q92_1 (Nat.le_of_ble_eq_true rfl)) rfl rfl ?_
                        refine pm_R_get pm_M92 (pc_q := 182) (v := .ref lo) (pm_q92_1 (Nat.le_of_ble_eq_true rfl)) rfl T12128.e33 (by decide) (T12128.lt (by decide)) (by show some (va_rf (o 1)) = _; rw [ol]; rfl) rfl ?_
                        refine pm_R_get pm_M92 (pc_q := 185) (v := .ref (lo + 3)) (pm_q92_1 (Nat.le_of_ble_eq_true rfl)) rfl (T12128.im hkl (by decide) (by decide) eE11767) (G.ge hkl (by decide)) (T12128.al hkl (by decide)) rfl rfl ?_
                        refine pm_R_lo pm_M92 (pc_q := 187) (pm_q92_1 (Nat.le_of_ble_eq_true rfl)) rfl rfl ?_
                        refine pm_R_op pm_M92 (pc_q := 188) (st_q := [.int 4, .int x10_11755, .ref (lo + 3), .ref 33]) (pm_q92_1 (Nat.le_of_ble_eq_true rfl)) rfl rfl ?_
                        refine sf_R_imulV pm_M92 (pc_q := 189) (pm_q92_1 (Nat.le_of_ble_eq_true rfl)) rfl B11781 sf_k4 (by decide) (by decide) (by decide) e11802 ?_
                        refine pm_R_op pm_M92 (pc_q := 190) (st_q := [.int 2, .int z11801, .ref (lo + 3), .ref 33]) (pm_q92_1 (Nat.le_of_ble_eq_true rfl)) rfl rfl ?_
                        refine sf_R_iaddV pm_M92 (pc_q := 191) (pm_q92_1 (Nat.le_of_ble_eq_true rfl)) rfl B11803 sf_k2 (by decide) (by decide) e11805 ?_
                        have q12136 := cl_in4 (n := rc11756) (Nat.le_trans h11764 (by decide)) (Int32.not_le.mp c11777) (cl_aux6 _ _ _ e11802 e11805) B11781 (by decide) (by decide)
                        refine pm_R_iald pm_M92 (pc_q := 192) (v := z11807) (pm_q92_1 (Nat.le_of_ble_eq_true rfl)) (T12128.im kq11776.2.2.1 (by decide) (by decide) eE11770) (T12128.al kq11776.2.2.1 (by decide)) q12136.1 ez11808 rfl ?_
                        refine pm_R_lo pm_M92 (pc_q := 194) (pm_q92_1 (Nat.le_of_ble_eq_true rfl)) rfl rfl ?_
                        refine pm_R_op pm_M92 (pc_q := 195) (st_q := [.int 1, .int x9_8826, .int z11807, .ref 33]) (pm_q92_1 (Nat.le_of_ble_eq_true rfl)) rfl rfl ?_
                        refine sf_R_iaddV pm_M92 (pc_q := 196) (pm_q92_1 (Nat.le_of_ble_eq_true rfl)) rfl B8829 sf_k1 (by decide) (by decide) e11784 ?_
                        refine pm_R_lo pm_M92 (pc_q := 197) (pm_q92_1 (Nat.le_of_ble_eq_true rfl)) rfl rfl ?_
                        refine pm_R_lo pm_M92 (pc_q := 199) (pm_q92_1 (Nat.le_of_ble_eq_true rfl)) rfl rfl ?_
                        refine pm_R_br pm_M92 (pc_q := 202) (st_q := [.int a2, .int z11783, .int z11807, .ref 33]) (pm_q92_1 (Nat.le_of_ble_eq_true rfl)) rfl ?_
                        refine pm_R_lo pm_M92 (pc_q := 204) (pm_q92_1 (Nat.le_of_ble_eq_true rfl)) rfl rfl ?_
                        refine pm_R_br pm_M92 (pc_q := 212) (pm_q92_1 (Nat.le_of_ble_eq_true rfl)) rfl ?_
                        refine pm_R_lo pm_M92 (pc_q := 214) (pm_q92_1 (Nat.le_of_ble_eq_true rfl)) rfl rfl ?_
                        refine pm_R_op pm_M92 (pc_q := 215) (st_q := [.int 1, .int 12, .long y7_11755, .int a2, .int z11783, .int z11807, .ref 33]) (pm_q92_1 (Nat.le_of_ble_eq_true rfl)) rfl rfl ?_
                        refine pm_R_op pm_M92 (pc_q := 216) (st_q := [.int 13, .long y7_11755, .int a2, .int z11783, .int z11807, .ref 33]) (pm_q92_1 (Nat.le_of_ble_eq_true rfl)) rfl rfl ?_
                        refine pm_R_cv pm_M92 (pc_q := 219) (a := 33) (ra := [.int 13, .long y7_11755, .int a2, .int z11783, .int z11807]) (rest := []) (ls_q := [.ref 33, .int z11807, .int z11783, .int a2, .long y7_11755, pm_no, .int 13, pm_no, pm_no, pm_no, pm_no, pm_no, pm_no, pm_no, pm_no, pm_no, pm_no, pm_no]) (pm_q92_1 (Nat.le_of_ble_eq_true rfl)) rfl (Or.inl rfl) pm_M92 T12128.e33 rfl (by decide) (T12128.lt (by decide)) rfl rfl (Nat.le_of_ble_eq_true rfl) rfl rfl ?_
                        refine cl_c92_13 (d := d + 0) G T12128 B11809 (sf_weak B11785 (by decide) (by decide)) (sf_weak B20 (by decide) (by decide)) ol orr eE5 (Int32.lt_iff_toInt_lt.mpr (cl_aux15 _ _ _ _ e11784 (Int32.lt_iff_toInt_lt.mp (Int32.not_le.mp c8827)) (Int32.lt_iff_toInt_lt.mp P2))) P2 (fun r12137 m12139 h12140 T12141 F12142 W12143 B12138 => ?_)
                        have F12144 := F12131.trans (N := 0) (S := 0) F12142 (by decide) (by decide) (by decide)
                        have W12145 : rf_W [14, 15] m m12139 := W12132.trans W12143 (by decide)
                        show pm_R _ 92 219 [.ref 33, .int a0, .int a1, .int a2, .long a3, pm_no, .int 12, .long y7_11755, pm_no, .int x9_8826, .int x10_11755, .long z11814, pm_no, .long r12024, pm_no, .int 1, .int r12124, pm_no] [.int r12137] _ _
                        refine pm_R_lo pm_M92 (pc_q := 221) (ls_q := [.ref 33, .int a0, .int a1, .int a2, .long a3, pm_no, .int 12, .long y7_11755, pm_no, .int x9_8826, .int x10_11755, .long z11814, pm_no, .long r12024, pm_no, .int 1, .int r12124, .int r12137]) (st_q := []) (pm_q92_2 (Nat.le_of_ble_eq_true rfl)) rfl rfl ?_
                        refine pm_R_lo pm_M92 (pc_q := 222) (pm_q92_2 (Nat.le_of_ble_eq_true rfl)) rfl rfl ?_
                        refine pm_R_lo pm_M92 (pc_q := 224) (pm_q92_2 (Nat.le_of_ble_eq_true rfl)) rfl rfl ?_
                        refine cl_R_put33 G pm_M92 T12141 (k := 14) (pc_q := 227) (pm_q92_2 (Nat.le_of_ble_eq_true rfl)) rfl rfl (by decide) rfl rfl (sf_any _) rfl rfl rfl rfl rfl (fun h12146 m12149 em12150 T12147 F12148 => ?_)
                        have F12151 := F12148.cl (ck := ck) T12141.1
                        have F12152 := F12144.trans (N := 0) (S := 0) F12151 (by decide) (by decide) (by decide)
                        have B12153 : sf_B 0 9 (m12149 14) := by rw [em12150]; exact B11781
                        have ek12154 : (m12149 14).toInt = (x10_11755).toInt := by rw [em12150]; rfl
                        have W12155 : rf_W [14, 15] m m12149 := by rw [em12150]; exact W12145.put (by decide)
                        refine pm_R_lo pm_M92 (pc_q := 228) (pm_q92_2 (Nat.le_of_ble_eq_true rfl)) rfl rfl ?_
                        refine pm_R_lo pm_M92 (pc_q := 230) (pm_q92_2 (Nat.le_of_ble_eq_true rfl)) rfl rfl ?_
                        refine pm_R_op pm_M92 (pc_q := 231) (st_q := [.int 1, .int x9_8826, .ref 33]) (pm_q92_2 (Nat.le_of_ble_eq_true rfl)) rfl rfl ?_
                        refine sf_R_iaddV pm_M92 (pc_q := 232) (pm_q92_2 (Nat.le_of_ble_eq_true rfl)) rfl B8829 sf_k1 (by decide) (by decide) e11784 ?_
                        refine pm_R_lo pm_M92 (pc_q := 233) (pm_q92_2 (Nat.le_of_ble_eq_true rfl)) rfl rfl ?_
                        refine sf_R_isub pm_M92 (pc_q := 234) (pm_q92_2 (Nat.le_of_ble_eq_true rfl)) rfl B11785 B19 (by decide) (by decide) (fun z12156 e12157 B12158 => ?_)
                        refine cl_R_put33 G pm_M92 T12147 (k := 15) (pc_q := 237) (pm_q92_2 (Nat.le_of_ble_eq_true rfl)) rfl rfl (by decide) rfl rfl (sf_any _) rfl rfl rfl rfl rfl (fun h12159 m12162 em12163 T12160 F12161 => ?_)
                        have F12164 := F12161.cl (ck := ck) T12147.1
                        have F12165 := F12152.trans (N := 0) (S := 0) F12164 (by decide) (by decide) (by decide)
                        have B12166 : sf_B 0 9 (m12162 14) := by rw [em12163]; exact B12153
                        have ek12167 : (m12162 14).toInt = (x10_11755).toInt := by rw [em12163]; exact ek12154
                        have B12168 : sf_B (-9) 11 (m12162 15) := by rw [em12163]; exact B12158
                        have ek12169 : (m12162 15).toInt = (z12156).toInt := by rw [em12163]; rfl
                        have W12170 : rf_W [14, 15] m m12162 := by rw [em12163]; exact W12155.put (by decide)
                        refine pm_R_lo pm_M92 (pc_q := 238) (pm_q92_2 (Nat.le_of_ble_eq_true rfl)) rfl rfl ?_
                        refine pm_R_get pm_M92 (pc_q := 241) (v := .ref lo) (pm_q92_2 (Nat.le_of_ble_eq_true rfl)) rfl T12160.e33 (by decide) (T12160.lt (by decide)) (by show some (va_rf (o 1)) = _; rw [ol]; rfl) rfl ?_
                        refine pm_R_get pm_M92 (pc_q := 244) (v := .ref (lo + 3)) (pm_q92_2 (Nat.le_of_ble_eq_true rfl)) rfl (T12160.im hkl (by decide) (by decide) eE11767) (G.ge hkl (by decide)) (T12160.al hkl (by decide)) rfl rfl ?_
                        refine pm_R_lo pm_M92 (pc_q := 246) (pm_q92_2 (Nat.le_of_ble_eq_true rfl)) rfl rfl ?_
                        refine pm_R_op pm_M92 (pc_q := 247) (st_q := [.int 4, .int x10_11755, .ref (lo + 3)]) (pm_q92_2 (Nat.le_of_ble_eq_true rfl)) rfl rfl ?_
                        refine sf_R_imulV pm_M92 (pc_q := 248) (pm_q92_2 (Nat.le_of_ble_eq_true rfl)) rfl B11781 sf_k4 (by decide) (by decide) (by decide) e11802 ?_
                        refine pm_R_op pm_M92 (pc_q := 249) (st_q := [.int 3, .int z11801, .ref (lo + 3)]) (pm_q92_2 (Nat.le_of_ble_eq_true rfl)) rfl rfl ?_
                        refine sf_R_iadd pm_M92 (pc_q := 250) (pm_q92_2 (Nat.le_of_ble_eq_true rfl)) rfl B11803 sf_k3 (by decide) (by decide) (fun z12171 e12172 B12173 => ?_)
                        have q12177 := cl_in4 (n := rc11756) (Nat.le_trans h11764 (by decide)) (Int32.not_le.mp c11777) (cl_aux9 _ _ _ e11802 e12172) B11781 (by decide) (by decide)
                        obtain ⟨z12174, ez12175⟩ : ∃ y, fr11761 (Int32.toNatClampNeg z12171) = y := ⟨_, rfl⟩
                        refine pm_R_iald pm_M92 (pc_q := 251) (v := z12174) (pm_q92_2 (Nat.le_of_ble_eq_true rfl)) (T12160.im kq11776.2.2.1 (by decide) (by decide) eE11770) (T12160.al kq11776.2.2.1 (by decide)) q12177.1 ez12175 rfl ?_
                        refine pm_R_lo pm_M92 (pc_q := 253) (pm_q92_2 (Nat.le_of_ble_eq_true rfl)) rfl rfl ?_
                        refine pm_R_lo pm_M92 (pc_q := 255) (pm_q92_2 (Nat.le_of_ble_eq_true rfl)) rfl rfl ?_
                        refine pm_R_cs pm_M92 (pc_q := 258) (ra := [.int r12137, .int r12124, .int z12174]) (rest := []) (ls_q := [.int z12174, .int r12124, .int r12137]) (pm_q92_2 (Nat.le_of_ble_eq_true rfl)) rfl (Or.inr rfl) pm_M88 rfl rfl (Nat.le_of_ble_eq_true rfl) rfl rfl ?_
                        refine cl_c88_u (d := d + 2)  (fun r12178 => ?_)
                        show pm_R _ 92 258 [.ref 33, .int a0, .int a1, .int a2, .long a3, pm_no, .int 12, .long y7_11755, pm_no, .int x9_8826, .int x10_11755, .long z11814, pm_no, .long r12024, pm_no, .int 1, .int r12124, .int r12137] [.int r12178] _ _
                        exact pm_R_ret pm_M92 (r := some (.int r12178)) (pm_q92_2 (Nat.le_of_ble_eq_true rfl)) (pm_ret_i _) (K r12178 m12162 h12159 T12160 F12165 W12170)
                    · have B12185 : sf_B 0 2147483647 z12041 := sf_leR (Int32.not_lt.mp c12043) sf_k0 (sf_any z12041)
                      have k12186 := lf_ge e12042 B12185 (by decide)
                      refine pm_R_lo pm_M92 (pc_q := 113) rfl rfl rfl ?_
                      refine pm_R_ldc2 pm_M92 (pc_q := 116) (pm_q92_1 (Nat.le_of_ble_eq_true rfl)) rfl rfl ?_
                      refine sf_R_lcmp pm_M92 (pc_q := 117) (pm_q92_1 (Nat.le_of_ble_eq_true rfl)) rfl (fun z12187 e12188 => ?_)
                      refine pm_R_ifc pm_M92 (t := 259) (pc_q := 120) (pm_q92_1 (Nat.le_of_ble_eq_true rfl)) rfl rfl (fun c12189 => ?_) (fun c12189 => ?_)
                      · have k12190 := sf_lneC e12188 c12189
                        refine pm_R_lo pm_M92 (pc_q := 261) (pm_q92_2 (Nat.le_of_ble_eq_true rfl)) rfl rfl ?_
                        refine pm_R_lo pm_M92 (pc_q := 263) (pm_q92_2 (Nat.le_of_ble_eq_true rfl)) rfl rfl ?_
                        refine sf_R_lany pm_M92 (pc_q := 264) (st := []) (pm_q92_2 (Nat.le_of_ble_eq_true rfl)) rfl rfl (fun z12191 => ?_)
                        refine pm_R_lo pm_M92 (pc_q := 266) (ls_q := [.ref 33, .int a0, .int a1, .int a2, .long a3, pm_no, .int 12, .long z12191, pm_no, .int x9_8826, .int x10_11755, .long z11814, pm_no, .long r12024, pm_no, pm_no, pm_no, pm_no]) (st_q := []) (pm_q92_2 (Nat.le_of_ble_eq_true rfl)) rfl rfl ?_
                        refine sf_R_iinc pm_M92 (pc_q := 269) (ls_q := fun z => [.ref 33, .int a0, .int a1, .int a2, .long a3, pm_no, .int 12, .long z12191, pm_no, .int x9_8826, .int z, .long z11814, pm_no, .long r12024, pm_no, pm_no, pm_no, pm_no]) (pm_q92_2 (Nat.le_of_ble_eq_true rfl)) B11781 rfl (by decide) (by decide) (by decide) (fun _ => rfl) rfl (fun z12192 e12193 B12194 => ?_)
                        show pm_R _ 92 269 [.ref 33, .int a0, .int a1, .int a2, .long a3, pm_no, .int 12, .long z12191, pm_no, .int x9_8826, .int z12192, .long z11814, pm_no, .long r12024, pm_no, pm_no, pm_no, pm_no] [] _ _
                        refine pm_R_br pm_M92 (pc_q := 37) (pm_q92_2 (Nat.le_of_ble_eq_true rfl)) rfl ?_
                        exact ih_11755 _ (sf_up hN_11755 e12193 B11781 (by decide) (by decide)) z12192 z12191 (.long z11814) (pm_no) (.long r12024) (pm_no) (sf_weak B12194 (by decide) (by decide)) rfl rfl rfl
                      · have B12195 : sf_B 0 0 z12187 := sf_eqL (Classical.not_not.mp c12189) sf_k0
                        have B12196 : lf_B (-1) (-1) r12024 := lf_eqB e12188 B12195 (⟨by decide, by decide⟩ : lf_B (-1) (-1) (-1))
                        refine pm_R_lo pm_M92 (pc_q := 122) (pm_q92_1 (Nat.le_of_ble_eq_true rfl)) rfl rfl ?_
                        refine pm_R_ldc2 pm_M92 (pc_q := 125) (pm_q92_1 (Nat.le_of_ble_eq_true rfl)) rfl rfl ?_
                        refine sf_R_lcmp pm_M92 (pc_q := 126) (pm_q92_1 (Nat.le_of_ble_eq_true rfl)) rfl (fun z12197 e12198 => ?_)
                        refine pm_R_ifc pm_M92 (t := 133) (pc_q := 129) (pm_q92_1 (Nat.le_of_ble_eq_true rfl)) rfl rfl (fun c12199 => ?_) (fun c12199 => ?_)
                        · have k12200 := sf_lneC e12198 c12199
                          refine pm_R_op pm_M92 (pc_q := 134) (st_q := [.int 0]) (pm_q92_1 (Nat.le_of_ble_eq_true rfl)) rfl rfl ?_
                          refine pm_R_lo pm_M92 (pc_q := 136) (ls_q := [.ref 33, .int a0, .int a1, .int a2, .long a3, pm_no, .int 12, .long y7_11755, pm_no, .int x9_8826, .int x10_11755, .long z11814, pm_no, .long r12024, pm_no, .int 0, pm_no, pm_no]) (st_q := []) (pm_q92_1 (Nat.le_of_ble_eq_true rfl)) rfl rfl ?_
                          refine pm_R_lo pm_M92 (pc_q := 137) (pm_q92_1 (Nat.le_of_ble_eq_true rfl)) rfl rfl ?_
                          refine pm_R_lo pm_M92 (pc_q := 138) (pm_q92_1 (Nat.le_of_ble_eq_true rfl)) rfl rfl ?_
                          refine pm_R_get pm_M92 (pc_q := 141) (v := .ref lo) (pm_q92_1 (Nat.le_of_ble_eq_true rfl)) rfl T.e33 (by decide) (T.lt (by decide)) (by show some (va_rf (o 1)) = _; rw [ol]; rfl) rfl ?_
                          refine pm_R_get pm_M92 (pc_q := 144) (v := .ref (lo + 3)) (pm_q92_1 (Nat.le_of_ble_eq_true rfl)) rfl (T.im hkl (by decide) (by decide) eE11767) (G.ge hkl (by decide)) (T.al hkl (by decide)) rfl rfl ?_
                          refine pm_R_lo pm_M92 (pc_q := 146) (pm_q92_1 (Nat.le_of_ble_eq_true rfl)) rfl rfl ?_
                          refine pm_R_op pm_M92 (pc_q := 147) (st_q := [.int 4, .int x10_11755, .ref (lo + 3), .ref 33]) (pm_q92_1 (Nat.le_of_ble_eq_true rfl)) rfl rfl ?_
                          refine sf_R_imulV pm_M92 (pc_q := 148) (pm_q92_1 (Nat.le_of_ble_eq_true rfl)) rfl B11781 sf_k4 (by decide) (by decide) (by decide) e11802 ?_
                          refine pm_R_op pm_M92 (pc_q := 149) (st_q := [.int 1, .int z11801, .ref (lo + 3), .ref 33]) (pm_q92_1 (Nat.le_of_ble_eq_true rfl)) rfl rfl ?_
                          refine sf_R_iaddV pm_M92 (pc_q := 150) (pm_q92_1 (Nat.le_of_ble_eq_true rfl)) rfl B11803 sf_k1 (by decide) (by decide) e12012 ?_
                          have q12204 := cl_in4 (n := rc11756) (Nat.le_trans h11764 (by decide)) (Int32.not_le.mp c11777) (cl_aux7 _ _ _ e11802 e12012) B11781 (by decide) (by decide)
                          refine pm_R_iald pm_M92 (pc_q := 151) (v := z12014) (pm_q92_1 (Nat.le_of_ble_eq_true rfl)) (T.im kq11776.2.2.1 (by decide) (by decide) eE11770) (T.al kq11776.2.2.1 (by decide)) q12204.1 ez12015 rfl ?_
                          refine pm_R_lo pm_M92 (pc_q := 152) (pm_q92_1 (Nat.le_of_ble_eq_true rfl)) rfl rfl ?_
                          refine pm_R_lo pm_M92 (pc_q := 154) (pm_q92_1 (Nat.le_of_ble_eq_true rfl)) rfl rfl ?_
                          refine pm_R_lo pm_M92 (pc_q := 156) (pm_q92_1 (Nat.le_of_ble_eq_true rfl)) rfl rfl ?_
                          refine pm_R_br pm_M92 (pc_q := 163) (st_q := [.int x9_8826, .int a1, .int z12014, .ref 33]) (pm_q92_1 (Nat.le_of_ble_eq_true rfl)) rfl ?_
                          refine pm_R_lo pm_M92 (pc_q := 165) (pm_q92_1 (Nat.le_of_ble_eq_true rfl)) rfl rfl ?_
                          refine pm_R_lo pm_M92 (pc_q := 167) (pm_q92_1 (Nat.le_of_ble_eq_true rfl)) rfl rfl ?_
                          refine sf_R_ldivA pm_M92 (pc_q := 168) (pm_q92_1 (Nat.le_of_ble_eq_true rfl)) rfl k12040 (fun z12205 => ?_)
                          refine pm_R_lo pm_M92 (pc_q := 170) (pm_q92_1 (Nat.le_of_ble_eq_true rfl)) rfl rfl ?_
                          refine pm_R_op pm_M92 (pc_q := 171) (st_q := [.int 1, .int 12, .long z12205, .int x9_8826, .int a1, .int z12014, .ref 33]) (pm_q92_1 (Nat.le_of_ble_eq_true rfl)) rfl rfl ?_
                          refine pm_R_op pm_M92 (pc_q := 172) (st_q := [.int 13, .long z12205, .int x9_8826, .int a1, .int z12014, .ref 33]) (pm_q92_1 (Nat.le_of_ble_eq_true rfl)) rfl rfl ?_
                          refine pm_R_cv pm_M92 (pc_q := 175) (a := 33) (ra := [.int 13, .long z12205, .int x9_8826, .int a1, .int z12014]) (rest := []) (ls_q := [.ref 33, .int z12014, .int a1, .int x9_8826, .long z12205, pm_no, .int 13, pm_no, pm_no, pm_no, pm_no, pm_no, pm_no, pm_no, pm_no, pm_no, pm_no, pm_no]) (pm_q92_1 (Nat.le_of_ble_eq_true rfl)) rfl (Or.inl rfl) pm_M92 T.e33 rfl (by decide) (T.lt (by decide)) rfl rfl (Nat.le_of_ble_eq_true rfl) rfl rfl ?_
                          refine cl_c92_13 (d := d + 0) G T B12016 (sf_weak B19 (by decide) (by decide)) (sf_weak B8829 (by decide) (by decide)) ol orr eE5 P1 (Int32.lt_iff_toInt_lt.mpr (cl_aux14 _ _ _ (Int32.lt_iff_toInt_lt.mp (Int32.not_le.mp c8827)) (Int32.lt_iff_toInt_lt.mp P2))) (fun r12206 m12208 h12209 T12210 F12211 W12212 B12207 => ?_)
                          have F12213 := (cl_F.refl (ck := ck) (A := [33, 35]) (n := 0) (s := 0) T.1).trans (N := 0) (S := 0) F12211 (by decide) (by decide) (by decide)
                          have W12214 : rf_W [14, 15] m m12208 := (rf_W.refl [14, 15] m).trans W12212 (by decide)
                          show pm_R _ 92 175 [.ref 33, .int a0, .int a1, .int a2, .long a3, pm_no, .int 12, .long y7_11755, pm_no, .int x9_8826, .int x10_11755, .long z11814, pm_no, .long r12024, pm_no, .int 0, pm_no, pm_no] [.int r12206] _ _
                          refine pm_R_lo pm_M92 (pc_q := 177) (ls_q := [.ref 33, .int a0, .int a1, .int a2, .long a3, pm_no, .int 12, .long y7_11755, pm_no, .int x9_8826, .int x10_11755, .long z11814, pm_no, .long r12024, pm_no, .int 0, .int r12206, pm_no]) (st_q := []) (pm_q92_1 (Nat.le_of_ble_eq_true rfl)) rfl rfl ?_
                          refine pm_R_lo pm_M92 (pc_q := 178) (pm_q92_1 (Nat.le_of_ble_eq_true rfl)) rfl rfl ?_
                          refine pm_R_lo pm_M92 (pc_q := 179) (pm_q92_1 (Nat.le_of_ble_eq_true rfl)) rfl rfl ?_
                          refine pm_R_get pm_M92 (pc_q := 182) (v := .ref lo) (pm_q92_1 (Nat.le_of_ble_eq_true rfl)) rfl T12210.e33 (by decide) (T12210.lt (by decide)) (by show some (va_rf (o 1)) = _; rw [ol]; rfl) rfl ?_
                          refine pm_R_get pm_M92 (pc_q := 185) (v := .ref (lo + 3)) (pm_q92_1 (Nat.le_of_ble_eq_true rfl)) rfl (T12210.im hkl (by decide) (by decide) eE11767) (G.ge hkl (by decide)) (T12210.al hkl (by decide)) rfl rfl ?_
                          refine pm_R_lo pm_M92 (pc_q := 187) (pm_q92_1 (Nat.le_of_ble_eq_true rfl)) rfl rfl ?_
                          refine pm_R_op pm_M92 (pc_q := 188) (st_q := [.int 4, .int x10_11755, .ref (lo + 3), .ref 33]) (pm_q92_1 (Nat.le_of_ble_eq_true rfl)) rfl rfl ?_
                          refine sf_R_imulV pm_M92 (pc_q := 189) (pm_q92_1 (Nat.le_of_ble_eq_true rfl)) rfl B11781 sf_k4 (by decide) (by decide) (by decide) e11802 ?_
                          refine pm_R_op pm_M92 (pc_q := 190) (st_q := [.int 2, .int z11801, .ref (lo + 3), .ref 33]) (pm_q92_1 (Nat.le_of_ble_eq_true rfl)) rfl rfl ?_
                          refine sf_R_iaddV pm_M92 (pc_q := 191) (pm_q92_1 (Nat.le_of_ble_eq_true rfl)) rfl B11803 sf_k2 (by decide) (by decide) e11805 ?_
                          have q12218 := cl_in4 (n := rc11756) (Nat.le_trans h11764 (by decide)) (Int32.not_le.mp c11777) (cl_aux6 _ _ _ e11802 e11805) B11781 (by decide) (by decide)
                          refine pm_R_iald pm_M92 (pc_q := 192) (v := z11807) (pm_q92_1 (Nat.le_of_ble_eq_true rfl)) (T12210.im kq11776.2.2.1 (by decide) (by decide) eE11770) (T12210.al kq11776.2.2.1 (by decide)) q12218.1 ez11808 rfl ?_
                          refine pm_R_lo pm_M92 (pc_q := 194) (pm_q92_1 (Nat.le_of_ble_eq_true rfl)) rfl rfl ?_
                          refine pm_R_op pm_M92 (pc_q := 195) (st_q := [.int 1, .int x9_8826, .int z11807, .ref 33]) (pm_q92_1 (Nat.le_of_ble_eq_true rfl)) rfl rfl ?_
                          refine sf_R_iaddV pm_M92 (pc_q := 196) (pm_q92_1 (Nat.le_of_ble_eq_true rfl)) rfl B8829 sf_k1 (by decide) (by decide) e11784 ?_
                          refine pm_R_lo pm_M92 (pc_q := 197) (pm_q92_1 (Nat.le_of_ble_eq_true rfl)) rfl rfl ?_
                          refine pm_R_lo pm_M92 (pc_q := 199) (pm_q92_1 (Nat.le_of_ble_eq_true rfl)) rfl rfl ?_
                          refine pm_R_br pm_M92 (pc_q := 207) (st_q := [.int a2, .int z11783, .int z11807, .ref 33]) (pm_q92_1 (Nat.le_of_ble_eq_true rfl)) rfl ?_
                          refine pm_R_lo pm_M92 (pc_q := 209) (pm_q92_1 (Nat.le_of_ble_eq_true rfl)) rfl rfl ?_
                          refine pm_R_lo pm_M92 (pc_q := 211) (pm_q92_1 (Nat.le_of_ble_eq_true rfl)) rfl rfl ?_
                          refine sf_R_lremA pm_M92 (pc_q := 212) (pm_q92_1 (Nat.le_of_ble_eq_true rfl)) rfl k12040 (fun z12219 => ?_)
                          refine pm_R_lo pm_M92 (pc_q := 214) (pm_q92_1 (Nat.le_of_ble_eq_true rfl)) rfl rfl ?_
                          refine pm_R_op pm_M92 (pc_q := 215) (st_q := [.int 1, .int 12, .long z12219, .int a2, .int z11783, .int z11807, .ref 33]) (pm_q92_1 (Nat.le_of_ble_eq_true rfl)) rfl rfl ?_
                          refine pm_R_op pm_M92 (pc_q := 216) (st_q := [.int 13, .long z12219, .int a2, .int z11783, .int z11807, .ref 33]) (pm_q92_1 (Nat.le_of_ble_eq_true rfl)) rfl rfl ?_
                          refine pm_R_cv pm_M92 (pc_q := 219) (a := 33) (ra := [.int 13, .long z12219, .int a2, .int z11783, .int z11807]) (rest := []) (ls_q := [.ref 33, .int z11807, .int z11783, .int a2, .long z12219, pm_no, .int 13, pm_no, pm_no, pm_no, pm_no, pm_no, pm_no, pm_no, pm_no, pm_no, pm_no, pm_no]) (pm_q92_1 (Nat.le_of_ble_eq_true rfl)) rfl (Or.inl rfl) pm_M92 T12210.e33 rfl (by decide) (T12210.lt (by decide)) rfl rfl (Nat.le_of_ble_eq_true rfl) rfl rfl ?_
                          refine cl_c92_13 (d := d + 0) G T12210 B11809 (sf_weak B11785 (by decide) (by decide)) (sf_weak B20 (by decide) (by decide)) ol orr eE5 (Int32.lt_iff_toInt_lt.mpr (cl_aux15 _ _ _ _ e11784 (Int32.lt_iff_toInt_lt.mp (Int32.not_le.mp c8827)) (Int32.lt_iff_toInt_lt.mp P2))) P2 (fun r12220 m12222 h12223 T12224 F12225 W12226 B12221 => ?_)
                          have F12227 := F12213.trans (N := 0) (S := 0) F12225 (by decide) (by decide) (by decide)
                          have W12228 : rf_W [14, 15] m m12222 := W12214.trans W12226 (by decide)
                          show pm_R _ 92 219 [.ref 33, .int a0, .int a1, .int a2, .long a3, pm_no, .int 12, .long y7_11755, pm_no, .int x9_8826, .int x10_11755, .long z11814, pm_no, .long r12024, pm_no, .int 0, .int r12206, pm_no] [.int r12220] _ _
                          refine pm_R_lo pm_M92 (pc_q := 221) (ls_q := [.ref 33, .int a0, .int a1, .int a2, .long a3, pm_no, .int 12, .long y7_11755, pm_no, .int x9_8826, .int x10_11755, .long z11814, pm_no, .long r12024, pm_no, .int 0, .int r12206, .int r12220]) (st_q := []) (pm_q92_2 (Nat.le_of_ble_eq_true rfl)) rfl rfl ?_
                          refine pm_R_lo pm_M92 (pc_q := 222) (pm_q92_2 (Nat.le_of_ble_eq_true rfl)) rfl rfl ?_
                          refine pm_R_lo pm_M92 (pc_q := 224) (pm_q92_2 (Nat.le_of_ble_eq_true rfl)) rfl rfl ?_
                          refine cl_R_put33 G pm_M92 T12224 (k := 14) (pc_q := 227) (pm_q92_2 (Nat.le_of_ble_eq_true rfl)) rfl rfl (by decide) rfl rfl (sf_any _) rfl rfl rfl rfl rfl (fun h12229 m12232 em12233 T12230 F12231 => ?_)
                          have F12234 := F12231.cl (ck := ck) T12224.1
                          have F12235 := F12227.trans (N := 0) (S := 0) F12234 (by decide) (by decide) (by decide)
                          have B12236 : sf_B 0 9 (m12232 14) := by rw [em12233]; exact B11781
                          have ek12237 : (m12232 14).toInt = (x10_11755).toInt := by rw [em12233]; rfl
                          have W12238 : rf_W [14, 15] m m12232 := by rw [em12233]; exact W12228.put (by decide)
                          refine pm_R_lo pm_M92 (pc_q := 228) (pm_q92_2 (Nat.le_of_ble_eq_true rfl)) rfl rfl ?_
                          refine pm_R_lo pm_M92 (pc_q := 230) (pm_q92_2 (Nat.le_of_ble_eq_true rfl)) rfl rfl ?_
                          refine pm_R_op pm_M92 (pc_q := 231) (st_q := [.int 1, .int x9_8826, .ref 33]) (pm_q92_2 (Nat.le_of_ble_eq_true rfl)) rfl rfl ?_
                          refine sf_R_iaddV pm_M92 (pc_q := 232) (pm_q92_2 (Nat.le_of_ble_eq_true rfl)) rfl B8829 sf_k1 (by decide) (by decide) e11784 ?_
                          refine pm_R_lo pm_M92 (pc_q := 233) (pm_q92_2 (Nat.le_of_ble_eq_true rfl)) rfl rfl ?_
                          refine sf_R_isub pm_M92 (pc_q := 234) (pm_q92_2 (Nat.le_of_ble_eq_true rfl)) rfl B11785 B19 (by decide) (by decide) (fun z12239 e12240 B12241 => ?_)
                          refine cl_R_put33 G pm_M92 T12230 (k := 15) (pc_q := 237) (pm_q92_2 (Nat.le_of_ble_eq_true rfl)) rfl rfl (by decide) rfl rfl (sf_any _) rfl rfl rfl rfl rfl (fun h12242 m12245 em12246 T12243 F12244 => ?_)
                          have F12247 := F12244.cl (ck := ck) T12230.1
                          have F12248 := F12235.trans (N := 0) (S := 0) F12247 (by decide) (by decide) (by decide)
                          have B12249 : sf_B 0 9 (m12245 14) := by rw [em12246]; exact B12236
                          have ek12250 : (m12245 14).toInt = (x10_11755).toInt := by rw [em12246]; exact ek12237
                          have B12251 : sf_B (-9) 11 (m12245 15) := by rw [em12246]; exact B12241
                          have ek12252 : (m12245 15).toInt = (z12239).toInt := by rw [em12246]; rfl
                          have W12253 : rf_W [14, 15] m m12245 := by rw [em12246]; exact W12238.put (by decide)
                          refine pm_R_lo pm_M92 (pc_q := 238) (pm_q92_2 (Nat.le_of_ble_eq_true rfl)) rfl rfl ?_
                          refine pm_R_get pm_M92 (pc_q := 241) (v := .ref lo) (pm_q92_2 (Nat.le_of_ble_eq_true rfl)) rfl T12243.e33 (by decide) (T12243.lt (by decide)) (by show some (va_rf (o 1)) = _; rw [ol]; rfl) rfl ?_
                          refine pm_R_get pm_M92 (pc_q := 244) (v := .ref (lo + 3)) (pm_q92_2 (Nat.le_of_ble_eq_true rfl)) rfl (T12243.im hkl (by decide) (by decide) eE11767) (G.ge hkl (by decide)) (T12243.al hkl (by decide)) rfl rfl ?_
                          refine pm_R_lo pm_M92 (pc_q := 246) (pm_q92_2 (Nat.le_of_ble_eq_true rfl)) rfl rfl ?_
                          refine pm_R_op pm_M92 (pc_q := 247) (st_q := [.int 4, .int x10_11755, .ref (lo + 3)]) (pm_q92_2 (Nat.le_of_ble_eq_true rfl)) rfl rfl ?_
                          refine sf_R_imulV pm_M92 (pc_q := 248) (pm_q92_2 (Nat.le_of_ble_eq_true rfl)) rfl B11781 sf_k4 (by decide) (by decide) (by decide) e11802 ?_
                          refine pm_R_op pm_M92 (pc_q := 249) (st_q := [.int 3, .int z11801, .ref (lo + 3)]) (pm_q92_2 (Nat.le_of_ble_eq_true rfl)) rfl rfl ?_
                          refine sf_R_iadd pm_M92 (pc_q := 250) (pm_q92_2 (Nat.le_of_ble_eq_true rfl)) rfl B11803 sf_k3 (by decide) (by decide) (fun z12254 e12255 B12256 => ?_)
                          have q12260 := cl_in4 (n := rc11756) (Nat.le_trans h11764 (by decide)) (Int32.not_le.mp c11777) (cl_aux9 _ _ _ e11802 e12255) B11781 (by decide) (by decide)
                          obtain ⟨z12257, ez12258⟩ : ∃ y, fr11761 (Int32.toNatClampNeg z12254) = y := ⟨_, rfl⟩
                          refine pm_R_iald pm_M92 (pc_q := 251) (v := z12257) (pm_q92_2 (Nat.le_of_ble_eq_true rfl)) (T12243.im kq11776.2.2.1 (by decide) (by decide) eE11770) (T12243.al kq11776.2.2.1 (by decide)) q12260.1 ez12258 rfl ?_
                          refine pm_R_lo pm_M92 (pc_q := 253) (pm_q92_2 (Nat.le_of_ble_eq_true rfl)) rfl rfl ?_
                          refine pm_R_lo pm_M92 (pc_q := 255) (pm_q92_2 (Nat.le_of_ble_eq_true rfl)) rfl rfl ?_
                          refine pm_R_cs pm_M92 (pc_q := 258) (ra := [.int r12220, .int r12206, .int z12257]) (rest := []) (ls_q := [.int z12257, .int r12206, .int r12220]) (pm_q92_2 (Nat.le_of_ble_eq_true rfl)) rfl (Or.inr rfl) pm_M88 rfl rfl (Nat.le_of_ble_eq_true rfl) rfl rfl ?_
                          refine cl_c88_u (d := d + 2)  (fun r12261 => ?_)
                          show pm_R _ 92 258 [.ref 33, .int a0, .int a1, .int a2, .long a3, pm_no, .int 12, .long y7_11755, pm_no, .int x9_8826, .int x10_11755, .long z11814, pm_no, .long r12024, pm_no, .int 0, .int r12206, .int r12220] [.int r12261] _ _
                          exact pm_R_ret pm_M92 (r := some (.int r12261)) (pm_q92_2 (Nat.le_of_ble_eq_true rfl)) (pm_ret_i _) (K r12261 m12245 h12242 T12243 F12248 W12253)
                        · have B12268 : sf_B 0 0 z12197 := sf_eqL (Classical.not_not.mp c12199) sf_k0
                          have B12269 : lf_B (-1) (-1) z11814 := lf_eqB e12198 B12268 (⟨by decide, by decide⟩ : lf_B (-1) (-1) (-1))
                          refine pm_R_op pm_M92 (pc_q := 130) (st_q := [.int 1]) (pm_q92_1 (Nat.le_of_ble_eq_true rfl)) rfl rfl ?_
                          refine pm_R_br pm_M92 (pc_q := 134) (pm_q92_1 (Nat.le_of_ble_eq_true rfl)) rfl ?_
                          refine pm_R_lo pm_M92 (pc_q := 136) (ls_q := [.ref 33, .int a0, .int a1, .int a2, .long a3, pm_no, .int 12, .long y7_11755, pm_no, .int x9_8826, .int x10_11755, .long z11814, pm_no, .long r12024, pm_no, .int 1, pm_no, pm_no]) (st_q := []) (pm_q92_1 (Nat.le_of_ble_eq_true rfl)) rfl rfl ?_
                          refine pm_R_lo pm_M92 (pc_q := 137) (pm_q92_1 (Nat.le_of_ble_eq_true rfl)) rfl rfl ?_
                          refine pm_R_lo pm_M92 (pc_q := 138) (pm_q92_1 (Nat.le_of_ble_eq_true rfl)) rfl rfl ?_
                          refine pm_R_get pm_M92 (pc_q := 141) (v := .ref lo) (pm_q92_1 (Nat.le_of_ble_eq_true rfl)) rfl T.e33 (by decide) (T.lt (by decide)) (by show some (va_rf (o 1)) = _; rw [ol]; rfl) rfl ?_
                          refine pm_R_get pm_M92 (pc_q := 144) (v := .ref (lo + 3)) (pm_q92_1 (Nat.le_of_ble_eq_true rfl)) rfl (T.im hkl (by decide) (by decide) eE11767) (G.ge hkl (by decide)) (T.al hkl (by decide)) rfl rfl ?_
                          refine pm_R_lo pm_M92 (pc_q := 146) (pm_q92_1 (Nat.le_of_ble_eq_true rfl)) rfl rfl ?_
                          refine pm_R_op pm_M92 (pc_q := 147) (st_q := [.int 4, .int x10_11755, .ref (lo + 3), .ref 33]) (pm_q92_1 (Nat.le_of_ble_eq_true rfl)) rfl rfl ?_
                          refine sf_R_imulV pm_M92 (pc_q := 148) (pm_q92_1 (Nat.le_of_ble_eq_true rfl)) rfl B11781 sf_k4 (by decide) (by decide) (by decide) e11802 ?_
                          refine pm_R_op pm_M92 (pc_q := 149) (st_q := [.int 1, .int z11801, .ref (lo + 3), .ref 33]) (pm_q92_1 (Nat.le_of_ble_eq_true rfl)) rfl rfl ?_
                          refine sf_R_iaddV pm_M92 (pc_q := 150) (pm_q92_1 (Nat.le_of_ble_eq_true rfl)) rfl B11803 sf_k1 (by decide) (by decide) e12012 ?_
                          have q12273 := cl_in4 (n := rc11756) (Nat.le_trans h11764 (by decide)) (Int32.not_le.mp c11777) (cl_aux7 _ _ _ e11802 e12012) B11781 (by decide) (by decide)
                          refine pm_R_iald pm_M92 (pc_q := 151) (v := z12014) (pm_q92_1 (Nat.le_of_ble_eq_true rfl)) (T.im kq11776.2.2.1 (by decide) (by decide) eE11770) (T.al kq11776.2.2.1 (by decide)) q12273.1 ez12015 rfl ?_
                          refine pm_R_lo pm_M92 (pc_q := 152) (pm_q92_1 (Nat.le_of_ble_eq_true rfl)) rfl rfl ?_
                          refine pm_R_lo pm_M92 (pc_q := 154) (pm_q92_1 (Nat.le_of_ble_eq_true rfl)) rfl rfl ?_
                          refine pm_R_lo pm_M92 (pc_q := 156) (pm_q92_1 (Nat.le_of_ble_eq_true rfl)) rfl rfl ?_
                          refine pm_R_br pm_M92 (pc_q := 159) (st_q := [.int x9_8826, .int a1, .int z12014, .ref 33]) (pm_q92_1 (Nat.le_of_ble_eq_true rfl)) rfl ?_
                          refine pm_R_op pm_M92 (pc_q := 160) (st_q := [.long 0, .int x9_8826, .int a1, .int z12014, .ref 33]) (pm_q92_1 (Nat.le_of_ble_eq_true rfl)) rfl rfl ?_
                          refine pm_R_br pm_M92 (pc_q := 168) (pm_q92_1 (Nat.le_of_ble_eq_true rfl)) rfl ?_
                          refine pm_R_lo pm_M92 (pc_q := 170) (pm_q92_1 (Nat.le_of_ble_eq_true rfl)) rfl rfl ?_
                          refine pm_R_op pm_M92 (pc_q := 171) (st_q := [.int 1, .int 12, .long 0, .int x9_8826, .int a1, .int z12014, .ref 33]) (pm_q92_1 (Nat.le_of_ble_eq_true rfl)) rfl rfl ?_
                          refine pm_R_op pm_M92 (pc_q := 172) (st_q := [.int 13, .long 0, .int x9_8826, .int a1, .int z12014, .ref 33]) (pm_q92_1 (Nat.le_of_ble_eq_true rfl)) rfl rfl ?_
                          refine pm_R_cv pm_M92 (pc_q := 175) (a := 33) (ra := [.int 13, .long 0, .int x9_8826, .int a1, .int z12014]) (rest := []) (ls_q := [.ref 33, .int z12014, .int a1, .int x9_8826, .long 0, pm_no, .int 13, pm_no, pm_no, pm_no, pm_no, pm_no, pm_no, pm_no, pm_no, pm_no, pm_no, pm_no]) (pm_q92_1 (Nat.le_of_ble_eq_true rfl)) rfl (Or.inl rfl) pm_M92 T.e33 rfl (by decide) (T.lt (by decide)) rfl rfl (Nat.le_of_ble_eq_true rfl) rfl rfl ?_
                          refine cl_c92_13 (d := d + 0) G T B12016 (sf_weak B19 (by decide) (by decide)) (sf_weak B8829 (by decide) (by decide)) ol orr eE5 P1 (Int32.lt_iff_toInt_lt.mpr (cl_aux14 _ _ _ (Int32.lt_iff_toInt_lt.mp (Int32.not_le.mp c8827)) (Int32.lt_iff_toInt_lt.mp P2))) (fun r12274 m12276 h12277 T12278 F12279 W12280 B12275 => ?_)
                          have F12281 := (cl_F.refl (ck := ck) (A := [33, 35]) (n := 0) (s := 0) T.1).trans (N := 0) (S := 0) F12279 (by decide) (by decide) (by decide)
                          have W12282 : rf_W [14, 15] m m12276 := (rf_W.refl [14, 15] m).trans W12280 (by decide)
                          show pm_R _ 92 175 [.ref 33, .int a0, .int a1, .int a2, .long a3, pm_no, .int 12, .long y7_11755, pm_no, .int x9_8826, .int x10_11755, .long z11814, pm_no, .long r12024, pm_no, .int 1, pm_no, pm_no] [.int r12274] _ _
                          refine pm_R_lo pm_M92 (pc_q := 177) (ls_q := [.ref 33, .int a0, .int a1, .int a2, .long a3, pm_no, .int 12, .long y7_11755, pm_no, .int x9_8826, .int x10_11755, .long z11814, pm_no, .long r12024, pm_no, .int 1, .int r12274, pm_no]) (st_q := []) (pm_q92_1 (Nat.le_of_ble_eq_true rfl)) rfl rfl ?_
                          refine pm_R_lo pm_M92 (pc_q := 178) (pm_q92_1 (Nat.le_of_ble_eq_true rfl)) rfl rfl ?_
                          refine pm_R_lo pm_M92 (pc_q := 179) (pm_q92_1 (Nat.le_of_ble_eq_true rfl)) rfl rfl ?_
                          refine pm_R_get pm_M92 (pc_q := 182) (v := .ref lo) (pm_q92_1 (Nat.le_of_ble_eq_true rfl)) rfl T12278.e33 (by decide) (T12278.lt (by decide)) (by show some (va_rf (o 1)) = _; rw [ol]; rfl) rfl ?_
                          refine pm_R_get pm_M92 (pc_q := 185) (v := .ref (lo + 3)) (pm_q92_1 (Nat.le_of_ble_eq_true rfl)) rfl (T12278.im hkl (by decide) (by decide) eE11767) (G.ge hkl (by decide)) (T12278.al hkl (by decide)) rfl rfl ?_
                          refine pm_R_lo pm_M92 (pc_q := 187) (pm_q92_1 (Nat.le_of_ble_eq_true rfl)) rfl rfl ?_
                          refine pm_R_op pm_M92 (pc_q := 188) (st_q := [.int 4, .int x10_11755, .ref (lo + 3), .ref 33]) (pm_q92_1 (Nat.le_of_ble_eq_true rfl)) rfl rfl ?_
                          refine sf_R_imulV pm_M92 (pc_q := 189) (pm_q92_1 (Nat.le_of_ble_eq_true rfl)) rfl B11781 sf_k4 (by decide) (by decide) (by decide) e11802 ?_
                          refine pm_R_op pm_M92 (pc_q := 190) (st_q := [.int 2, .int z11801, .ref (lo + 3), .ref 33]) (pm_q92_1 (Nat.le_of_ble_eq_true rfl)) rfl rfl ?_
                          refine sf_R_iaddV pm_M92 (pc_q := 191) (pm_q92_1 (Nat.le_of_ble_eq_true rfl)) rfl B11803 sf_k2 (by decide) (by decide) e11805 ?_
                          have q12286 := cl_in4 (n := rc11756) (Nat.le_trans h11764 (by decide)) (Int32.not_le.mp c11777) (cl_aux6 _ _ _ e11802 e11805) B11781 (by decide) (by decide)
                          refine pm_R_iald pm_M92 (pc_q := 192) (v := z11807) (pm_q92_1 (Nat.le_of_ble_eq_true rfl)) (T12278.im kq11776.2.2.1 (by decide) (by decide) eE11770) (T12278.al kq11776.2.2.1 (by decide)) q12286.1 ez11808 rfl ?_
                          refine pm_R_lo pm_M92 (pc_q := 194) (pm_q92_1 (Nat.le_of_ble_eq_true rfl)) rfl rfl ?_
                          refine pm_R_op pm_M92 (pc_q := 195) (st_q := [.int 1, .int x9_8826, .int z11807, .ref 33]) (pm_q92_1 (Nat.le_of_ble_eq_true rfl)) rfl rfl ?_
                          refine sf_R_iaddV pm_M92 (pc_q := 196) (pm_q92_1 (Nat.le_of_ble_eq_true rfl)) rfl B8829 sf_k1 (by decide) (by decide) e11784 ?_
                          refine pm_R_lo pm_M92 (pc_q := 197) (pm_q92_1 (Nat.le_of_ble_eq_true rfl)) rfl rfl ?_
                          refine pm_R_lo pm_M92 (pc_q := 199) (pm_q92_1 (Nat.le_of_ble_eq_true rfl)) rfl rfl ?_
                          refine pm_R_br pm_M92 (pc_q := 202) (st_q := [.int a2, .int z11783, .int z11807, .ref 33]) (pm_q92_1 (Nat.le_of_ble_eq_true rfl)) rfl ?_
                          refine pm_R_lo pm_M92 (pc_q := 204) (pm_q92_1 (Nat.le_of_ble_eq_true rfl)) rfl rfl ?_
                          refine pm_R_br pm_M92 (pc_q := 212) (pm_q92_1 (Nat.le_of_ble_eq_true rfl)) rfl ?_
                          refine pm_R_lo pm_M92 (pc_q := 214) (pm_q92_1 (Nat.le_of_ble_eq_true rfl)) rfl rfl ?_
                          refine pm_R_op pm_M92 (pc_q := 215) (st_q := [.int 1, .int 12, .long y7_11755, .int a2, .int z11783, .int z11807, .ref 33]) (pm_q92_1 (Nat.le_of_ble_eq_true rfl)) rfl rfl ?_
                          refine pm_R_op pm_M92 (pc_q := 216) (st_q := [.int 13, .long y7_11755, .int a2, .int z11783, .int z11807, .ref 33]) (pm_q92_1 (Nat.le_of_ble_eq_true rfl)) rfl rfl ?_
                          refine pm_R_cv pm_M92 (pc_q := 219) (a := 33) (ra := [.int 13, .long y7_11755, .int a2, .int z11783, .int z11807]) (rest := []) (ls_q := [.ref 33, .int z11807, .int z11783, .int a2, .long y7_11755, pm_no, .int 13, pm_no, pm_no, pm_no, pm_no, pm_no, pm_no, pm_no, pm_no, pm_no, pm_no, pm_no]) (pm_q92_1 (Nat.le_of_ble_eq_true rfl)) rfl (Or.inl rfl) pm_M92 T12278.e33 rfl (by decide) (T12278.lt (by decide)) rfl rfl (Nat.le_of_ble_eq_true rfl) rfl rfl ?_
                          refine cl_c92_13 (d := d + 0) G T12278 B11809 (sf_weak B11785 (by decide) (by decide)) (sf_weak B20 (by decide) (by decide)) ol orr eE5 (Int32.lt_iff_toInt_lt.mpr (cl_aux15 _ _ _ _ e11784 (Int32.lt_iff_toInt_lt.mp (Int32.not_le.mp c8827)) (Int32.lt_iff_toInt_lt.mp P2))) P2 (fun r12287 m12289 h12290 T12291 F12292 W12293 B12288 => ?_)
                          have F12294 := F12281.trans (N := 0) (S := 0) F12292 (by decide) (by decide) (by decide)
                          have W12295 : rf_W [14, 15] m m12289 := W12282.trans W12293 (by decide)
                          show pm_R _ 92 219 [.ref 33, .int a0, .int a1, .int a2, .long a3, pm_no, .int 12, .long y7_11755, pm_no, .int x9_8826, .int x10_11755, .long z11814, pm_no, .long r12024, pm_no, .int 1, .int r12274, pm_no] [.int r12287] _ _
                          refine pm_R_lo pm_M92 (pc_q := 221) (ls_q := [.ref 33, .int a0, .int a1, .int a2, .long a3, pm_no, .int 12, .long y7_11755, pm_no, .int x9_8826, .int x10_11755, .long z11814, pm_no, .long r12024, pm_no, .int 1, .int r12274, .int r12287]) (st_q := []) (pm_q92_2 (Nat.le_of_ble_eq_true rfl)) rfl rfl ?_
                          refine pm_R_lo pm_M92 (pc_q := 222) (pm_q92_2 (Nat.le_of_ble_eq_true rfl)) rfl rfl ?_
                          refine pm_R_lo pm_M92 (pc_q := 224) (pm_q92_2 (Nat.le_of_ble_eq_true rfl)) rfl rfl ?_
                          refine cl_R_put33 G pm_M92 T12291 (k := 14) (pc_q := 227) (pm_q92_2 (Nat.le_of_ble_eq_true rfl)) rfl rfl (by decide) rfl rfl (sf_any _) rfl rfl rfl rfl rfl (fun h12296 m12299 em12300 T12297 F12298 => ?_)
                          have F12301 := F12298.cl (ck := ck) T12291.1
                          have F12302 := F12294.trans (N := 0) (S := 0) F12301 (by decide) (by decide) (by decide)
                          have B12303 : sf_B 0 9 (m12299 14) := by rw [em12300]; exact B11781
                          have ek12304 : (m12299 14).toInt = (x10_11755).toInt := by rw [em12300]; rfl
                          have W12305 : rf_W [14, 15] m m12299 := by rw [em12300]; exact W12295.put (by decide)
                          refine pm_R_lo pm_M92 (pc_q := 228) (pm_q92_2 (Nat.le_of_ble_eq_true rfl)) rfl rfl ?_
                          refine pm_R_lo pm_M92 (pc_q := 230) (pm_q92_2 (Nat.le_of_ble_eq_true rfl)) rfl rfl ?_
                          refine pm_R_op pm_M92 (pc_q := 231) (st_q := [.int 1, .int x9_8826, .ref 33]) (pm_q92_2 (Nat.le_of_ble_eq_true rfl)) rfl rfl ?_
                          refine sf_R_iaddV pm_M92 (pc_q := 232) (pm_q92_2 (Nat.le_of_ble_eq_true rfl)) rfl B8829 sf_k1 (by decide) (by decide) e11784 ?_
                          refine pm_R_lo pm_M92 (pc_q := 233) (pm_q92_2 (Nat.le_of_ble_eq_true rfl)) rfl rfl ?_
                          refine sf_R_isub pm_M92 (pc_q := 234) (pm_q92_2 (Nat.le_of_ble_eq_true rfl)) rfl B11785 B19 (by decide) (by decide) (fun z12306 e12307 B12308 => ?_)
                          refine cl_R_put33 G pm_M92 T12297 (k := 15) (pc_q := 237) (pm_q92_2 (Nat.le_of_ble_eq_true rfl)) rfl rfl (by decide) rfl rfl (sf_any _) rfl rfl rfl rfl rfl (fun h12309 m12312 em12313 T12310 F12311 => ?_)
                          have F12314 := F12311.cl (ck := ck) T12297.1
                          have F12315 := F12302.trans (N := 0) (S := 0) F12314 (by decide) (by decide) (by decide)
                          have B12316 : sf_B 0 9 (m12312 14) := by rw [em12313]; exact B12303
                          have ek12317 : (m12312 14).toInt = (x10_11755).toInt := by rw [em12313]; exact ek12304
                          have B12318 : sf_B (-9) 11 (m12312 15) := by rw [em12313]; exact B12308
                          have ek12319 : (m12312 15).toInt = (z12306).toInt := by rw [em12313]; rfl
                          have W12320 : rf_W [14, 15] m m12312 := by rw [em12313]; exact W12305.put (by decide)
                          refine pm_R_lo pm_M92 (pc_q := 238) (pm_q92_2 (Nat.le_of_ble_eq_true rfl)) rfl rfl ?_
                          refine pm_R_get pm_M92 (pc_q := 241) (v := .ref lo) (pm_q92_2 (Nat.le_of_ble_eq_true rfl)) rfl T12310.e33 (by decide) (T12310.lt (by decide)) (by show some (va_rf (o 1)) = _; rw [ol]; rfl) rfl ?_
                          refine pm_R_get pm_M92 (pc_q := 244) (v := .ref (lo + 3)) (pm_q92_2 (Nat.le_of_ble_eq_true rfl)) rfl (T12310.im hkl (by decide) (by decide) eE11767) (G.ge hkl (by decide)) (T12310.al hkl (by decide)) rfl rfl ?_
                          refine pm_R_lo pm_M92 (pc_q := 246) (pm_q92_2 (Nat.le_of_ble_eq_true rfl)) rfl rfl ?_
                          refine pm_R_op pm_M92 (pc_q := 247) (st_q := [.int 4, .int x10_11755, .ref (lo + 3)]) (pm_q92_2 (Nat.le_of_ble_eq_true rfl)) rfl rfl ?_
                          refine sf_R_imulV pm_M92 (pc_q := 248) (pm_q92_2 (Nat.le_of_ble_eq_true rfl)) rfl B11781 sf_k4 (by decide) (by decide) (by decide) e11802 ?_
                          refine pm_R_op pm_M92 (pc_q := 249) (st_q := [.int 3, .int z11801, .ref (lo + 3)]) (pm_q92_2 (Nat.le_of_ble_eq_true rfl)) rfl rfl ?_
                          refine sf_R_iadd pm_M92 (pc_q := 250) (pm_q92_2 (Nat.le_of_ble_eq_true rfl)) rfl B11803 sf_k3 (by decide) (by decide) (fun z12321 e12322 B12323 => ?_)
                          have q12327 := cl_in4 (n := rc11756) (Nat.le_trans h11764 (by decide)) (Int32.not_le.mp c11777) (cl_aux9 _ _ _ e11802 e12322) B11781 (by decide) (by decide)
                          obtain ⟨z12324, ez12325⟩ : ∃ y, fr11761 (Int32.toNatClampNeg z12321) = y := ⟨_, rfl⟩
                          refine pm_R_iald pm_M92 (pc_q := 251) (v := z12324) (pm_q92_2 (Nat.le_of_ble_eq_true rfl)) (T12310.im kq11776.2.2.1 (by decide) (by decide) eE11770) (T12310.al kq11776.2.2.1 (by decide)) q12327.1 ez12325 rfl ?_
                          refine pm_R_lo pm_M92 (pc_q := 253) (pm_q92_2 (Nat.le_of_ble_eq_true rfl)) rfl rfl ?_
                          refine pm_R_lo pm_M92 (pc_q := 255) (pm_q92_2 (Nat.le_of_ble_eq_true rfl)) rfl rfl ?_
                          refine pm_R_cs pm_M92 (pc_q := 258) (ra := [.int r12287, .int r12274, .int z12324]) (rest := []) (ls_q := [.int z12324, .int r12274, .int r12287]) (pm_q92_2 (Nat.le_of_ble_eq_true rfl)) rfl (Or.inr rfl) pm_M88 rfl rfl (Nat.le_of_ble_eq_true rfl) rfl rfl ?_
                          refine cl_c88_u (d := d + 2)  (fun r12328 => ?_)
                          show pm_R _ 92 258 [.ref 33, .int a0, .int a1, .int a2, .long a3, pm_no, .int 12, .long y7_11755, pm_no, .int x9_8826, .int x10_11755, .long z11814, pm_no, .long r12024, pm_no, .int 1, .int r12274, .int r12287] [.int r12328] _ _
                          exact pm_R_ret pm_M92 (r := some (.int r12328)) (pm_q92_2 (Nat.le_of_ble_eq_true rfl)) (pm_ret_i _) (K r12328 m12312 h12309 T12310 F12315 W12320)
          exact L_11755 _ 0 y7_8826 (g11_8826) (g12_8826) (g13_8826) (g14_8826) (sf_weak sf_k0 (by decide) (by decide)) Cg12_8826 Cg14_8826 rfl
    exact L_8826 _ a1 a3 (pm_no) (pm_no) (pm_no) (pm_no) (pm_no) (sf_weak B19 (by decide) (by decide)) rfl rfl rfl rfl
