set_option maxRecDepth 100000 in
set_option maxHeartbeats 4000000 in
/-- SilentTable.watch -/
theorem cl_c157 {d : Nat} {ck : cl_K} {E : Nat → pm_E} {m : Nat → Int32} {o : Nat → Option Nat} {h : pm_H} {Q : Option Value → pm_H → Prop} {a0 : Int32} {a1 : Int32} {a2 : Int32} (G : cl_G ck E) (T : cl_T ck E m o h) (Ba2 : sf_B 0 1 a2) (K : ∀ (r : Int32) (m' : Nat → Int32) (h' : pm_H), cl_T ck E m' o h' → rf_G [39] h h' → rf_W [] m m' → sf_B (-1) 2147483647 r → Q (some (.int r)) h') : pm_R (d + 2) 157 0 [.ref 16, .int a0, .int a1, .int a2, pm_no, pm_no, pm_no, pm_no, pm_no] [] h Q := by
  refine pm_R_lo pm_M157 (pc' := 1) rfl rfl rfl ?_
  refine pm_R_lo pm_M157 (pc' := 2) rfl rfl rfl ?_
  refine pm_R_cv pm_M157 (pc' := 5) (a := 16) (ra := [.int a0]) (rest := []) (ls' := [.ref 16, .int a0]) rfl rfl (Or.inl rfl) pm_M139 T.e16 rfl (by decide) (T.lt (by decide)) rfl rfl (Nat.le_of_ble_eq_true rfl) rfl rfl ?_
  refine pm_R_lo pm_M139 (pc' := 1) rfl rfl rfl ?_
  refine pm_R_ifc pm_M139 (t := 17) (pc' := 4) rfl rfl rfl (fun c1 => ?_) (fun c1 => ?_)
  · have B2 : sf_B (-2147483648) (-1) a0 := sf_ltL c1 (sf_any a0) sf_k0
    refine pm_R_op pm_M139 (pc' := 18) (st' := [.null]) rfl rfl rfl ?_
    refine pm_R_br pm_M139 (pc' := 30) rfl rfl ?_
    refine pm_R_ret pm_M139 (r := some (.null)) rfl rfl ?_
    show pm_R _ 157 5 [.ref 16, .int a0, .int a1, .int a2, pm_no, pm_no, pm_no, pm_no, pm_no] [.null] _ _
    refine pm_R_lo pm_M157 (pc' := 7) (ls' := [.ref 16, .int a0, .int a1, .int a2, .null, pm_no, pm_no, pm_no, pm_no]) (st' := []) rfl rfl rfl ?_
    refine pm_R_lo pm_M157 (pc' := 9) rfl rfl rfl ?_
    refine pm_R_br pm_M157 (pc' := 30) rfl rfl ?_
    refine pm_R_op pm_M157 (pc' := 31) (st' := [.int (-1)]) rfl rfl rfl ?_
    exact pm_R_ret pm_M157 (r := some (.int (-1))) rfl rfl (K (-1) m h T (rf_G.refl [39] h) (rf_W.refl [] m) (sf_weak sf_kn1 (by decide) (by decide)))
  · have B3 : sf_B 0 2147483647 a0 := sf_leR (Int32.not_lt.mp c1) sf_k0 (sf_any a0)
    refine pm_R_lo pm_M139 (pc' := 5) rfl rfl rfl ?_
    refine pm_R_lo pm_M139 (pc' := 6) rfl rfl rfl ?_
    refine pm_R_get pm_M139 (pc' := 9) (v := .ref 17) rfl rfl T.e16 (by decide) (T.lt (by decide)) rfl rfl ?_
    refine pm_R_get pm_M139 (pc' := 12) (v := .ref 23) rfl rfl T.e17 (by decide) (T.lt (by decide)) rfl rfl ?_
    refine pm_R_op pm_M139 (pc' := 13) (st' := [.int 2, .ref 23, .int a0]) rfl rfl rfl ?_
    obtain ⟨f7, e8, b9⟩ := T.C 23 (by decide) (by decide)
    obtain ⟨z4, ez5⟩ : ∃ y, f7 (Int32.toNatClampNeg 2) = y := ⟨_, rfl⟩
    have B6 : sf_B 0 2 z4 := ez5 ▸ (b9 2)
    refine pm_R_iald pm_M139 (pc' := 14) (v := z4) rfl e8 (T.lt (by decide)) rfl ez5 rfl ?_
    refine pm_R_icmp pm_M139 (t := 21) (pc' := 17) rfl rfl rfl (fun c10 => ?_) (fun c10 => ?_)
    · have B11 : sf_B 0 1 a0 := sf_ltL c10 B3 B6
      have B12 : sf_B 1 2 z4 := sf_ltR c10 B3 B6
      refine pm_R_lo pm_M139 (pc' := 22) rfl rfl rfl ?_
      refine pm_R_get pm_M139 (pc' := 25) (v := .ref 17) rfl rfl T.e16 (by decide) (T.lt (by decide)) rfl rfl ?_
      refine pm_R_get pm_M139 (pc' := 28) (v := .ref 21) rfl rfl T.e17 (by decide) (T.lt (by decide)) rfl rfl ?_
      refine pm_R_lo pm_M139 (pc' := 29) rfl rfl rfl ?_
      obtain ⟨f13, e14, b15⟩ := T.C 21 (by decide) (by decide)
      obtain ⟨l16, hx17⟩ := cl_there2 T e8 e14 ez5 c10 B11 (by decide)
      have hk18 := b15 _ _ hx17
      refine pm_R_aald pm_M139 (pc' := 30) (v := .ref l16) rfl e14 (by decide) (by decide) (by decide) (T.lt (by decide)) (sf_in B11 (by decide) (by decide)) (by rw [hx17]; rfl) rfl ?_
      refine pm_R_ret pm_M139 (r := some (.ref l16)) rfl rfl ?_
      show pm_R _ 157 5 [.ref 16, .int a0, .int a1, .int a2, pm_no, pm_no, pm_no, pm_no, pm_no] [.ref l16] _ _
      refine pm_R_lo pm_M157 (pc' := 7) (ls' := [.ref 16, .int a0, .int a1, .int a2, .ref l16, pm_no, pm_no, pm_no, pm_no]) (st' := []) rfl rfl rfl ?_
      refine pm_R_lo pm_M157 (pc' := 9) rfl rfl rfl ?_
      refine pm_R_br pm_M157 (pc' := 12) rfl rfl ?_
      refine pm_R_lo pm_M157 (pc' := 14) rfl rfl rfl ?_
      refine pm_R_lo pm_M157 (pc' := 15) rfl rfl rfl ?_
      obtain ⟨s19, n20, fd21, fg22, fs23, h24, h25, h26, eE27, eE28, eE29, eE30, b31⟩ := (G.2.2.2.1 l16 hk18).2.2.2
      have kq32 := G.2.2.2.1 l16 hk18
      refine pm_R_cv pm_M157 (pc' := 18) (a := l16) (ra := [.int a1]) (rest := []) (ls' := [.ref l16, .int a1]) rfl rfl (Or.inl rfl) pm_M143 (T.im hk18 (by decide) (by decide) eE27) rfl (G.ge hk18 (by decide)) (T.al hk18 (by decide)) rfl rfl (Nat.le_of_ble_eq_true rfl) rfl rfl ?_
      refine pm_R_lo pm_M143 (pc' := 1) rfl rfl rfl ?_
      refine pm_R_ifc pm_M143 (t := 16) (pc' := 4) rfl rfl rfl (fun c33 => ?_) (fun c33 => ?_)
      · have B34 : sf_B (-2147483648) (-1) a1 := sf_ltL c33 (sf_any a1) sf_k0
        refine pm_R_op pm_M143 (pc' := 17) (st' := [.int 0]) rfl rfl rfl ?_
        refine pm_R_ret pm_M143 (r := some (.int 0)) rfl rfl ?_
        show pm_R _ 157 18 [.ref 16, .int a0, .int a1, .int a2, .ref l16, pm_no, pm_no, pm_no, pm_no] [.int 0] _ _
        refine pm_R_br pm_M157 (pc' := 30) (st' := []) rfl rfl ?_
        refine pm_R_op pm_M157 (pc' := 31) (st' := [.int (-1)]) rfl rfl rfl ?_
        exact pm_R_ret pm_M157 (r := some (.int (-1))) rfl rfl (K (-1) m h T (rf_G.refl [39] h) (rf_W.refl [] m) (sf_weak sf_kn1 (by decide) (by decide)))
      · have B35 : sf_B 0 2147483647 a1 := sf_leR (Int32.not_lt.mp c33) sf_k0 (sf_any a1)
        refine pm_R_lo pm_M143 (pc' := 5) rfl rfl rfl ?_
        refine pm_R_lo pm_M143 (pc' := 6) rfl rfl rfl ?_
        refine pm_R_get pm_M143 (pc' := 9) (v := .int (Int32.ofNat s19)) rfl rfl (T.im hk18 (by decide) (by decide) eE27) (G.ge hk18 (by decide)) (T.al hk18 (by decide)) rfl rfl ?_
        refine pm_R_icmp pm_M143 (t := 16) (pc' := 12) rfl rfl rfl (fun c36 => ?_) (fun c36 => ?_)
        · have B37 : sf_B 1 2147483647 a1 := sf_leR c36 (sf_ofB1 h25 h24 (by decide)) B35
          refine pm_R_op pm_M143 (pc' := 17) (st' := [.int 0]) rfl rfl rfl ?_
          refine pm_R_ret pm_M143 (r := some (.int 0)) rfl rfl ?_
          show pm_R _ 157 18 [.ref 16, .int a0, .int a1, .int a2, .ref l16, pm_no, pm_no, pm_no, pm_no] [.int 0] _ _
          refine pm_R_br pm_M157 (pc' := 30) (st' := []) rfl rfl ?_
          refine pm_R_op pm_M157 (pc' := 31) (st' := [.int (-1)]) rfl rfl rfl ?_
          exact pm_R_ret pm_M157 (r := some (.int (-1))) rfl rfl (K (-1) m h T (rf_G.refl [39] h) (rf_W.refl [] m) (sf_weak sf_kn1 (by decide) (by decide)))
        · have B38 : sf_B 0 5 a1 := sf_ltL (Int32.not_le.mp c36) B35 (sf_ofB1 h25 h24 (by decide))
          refine pm_R_op pm_M143 (pc' := 13) (st' := [.int 1]) rfl rfl rfl ?_
          refine pm_R_br pm_M143 (pc' := 17) rfl rfl ?_
          refine pm_R_ret pm_M143 (r := some (.int 1)) rfl rfl ?_
          show pm_R _ 157 18 [.ref 16, .int a0, .int a1, .int a2, .ref l16, pm_no, pm_no, pm_no, pm_no] [.int 1] _ _
          refine pm_R_br pm_M157 (pc' := 21) (st' := []) rfl rfl ?_
          refine pm_R_lo pm_M157 (pc' := 23) rfl rfl rfl ?_
          refine pm_R_get pm_M157 (pc' := 26) (v := .int (Int32.ofNat s19)) rfl rfl (T.im hk18 (by decide) (by decide) eE27) (G.ge hk18 (by decide)) (T.al hk18 (by decide)) rfl rfl ?_
          refine pm_R_op pm_M157 (pc' := 27) (st' := [.int 2, .int (Int32.ofNat s19)]) rfl rfl rfl ?_
          refine pm_R_icmp pm_M157 (t := 32) (pc' := 30) rfl rfl rfl (fun c39 => ?_) (fun c39 => ?_)
          · have B40 : sf_B 2 6 (Int32.ofNat s19) := sf_leR c39 sf_k2 (sf_ofB1 h25 h24 (by decide))
            refine pm_R_op pm_M157 (pc' := 33) (st' := [.int (-1)]) rfl rfl rfl ?_
            refine pm_R_lo pm_M157 (pc' := 35) (ls' := [.ref 16, .int a0, .int a1, .int a2, .ref l16, .int (-1), pm_no, pm_no, pm_no]) (st' := []) rfl rfl rfl ?_
            refine pm_R_op pm_M157 (pc' := 36) (st' := [.int (-1)]) rfl rfl rfl ?_
            refine pm_R_lo pm_M157 (pc' := 38) (ls' := [.ref 16, .int a0, .int a1, .int a2, .ref l16, .int (-1), .int (-1), pm_no, pm_no]) (st' := []) rfl rfl rfl ?_
            refine pm_R_op pm_M157 (pc' := 39) (st' := [.int 0]) rfl rfl rfl ?_
            refine pm_R_lo pm_M157 (pc' := 41) (ls' := [.ref 16, .int a0, .int a1, .int a2, .ref l16, .int (-1), .int (-1), .int 0, pm_no]) (st' := []) rfl rfl rfl ?_
            have L_280 : ∀ (N : Nat) (h_280 : pm_H) (m_280 : Nat → Int32) (x5_280 : Int32) (x6_280 : Int32) (x7_280 : Int32) (g8_280 : Value), cl_T ck E m_280 o h_280 → rf_G [39] h h_280 → rf_W [] m m_280 → sf_B (-1) 2147483647 x5_280 → sf_B (-1) 50 x6_280 → sf_B 0 6 x7_280 → g8_280.category = 1 → (6 - x7_280.toInt).toNat = N → pm_R (d + 2) 157 41 [.ref 16, .int a0, .int a1, .int a2, .ref l16, .int x5_280, .int x6_280, .int x7_280, g8_280] [] h_280 Q := by
              intro N
              induction N using Nat.strongRecOn with
              | ind N ih_280 =>
                intro h_280 m_280 x5_280 x6_280 x7_280 g8_280 T_280 F_280 W_280 Bx5_280 Bx6_280 Bx7_280 Cg8_280 hN_280
                have W283 : rf_W [] m m_280 := (rf_W.refl [] m).trans W_280 (by decide)
                refine pm_R_lo pm_M157 (pc' := 43) rfl rfl rfl ?_
                refine pm_R_lo pm_M157 (pc' := 45) rfl rfl rfl ?_
                refine pm_R_get pm_M157 (pc' := 48) (v := .int (Int32.ofNat s19)) rfl rfl (T_280.im hk18 (by decide) (by decide) eE27) (G.ge hk18 (by decide)) (T_280.al hk18 (by decide)) rfl rfl ?_
                refine pm_R_icmp pm_M157 (t := 96) (pc' := 51) rfl rfl rfl (fun c284 => ?_) (fun c284 => ?_)
                · have B285 : sf_B 1 6 x7_280 := sf_leR c284 (sf_ofB1 h25 h24 (by decide)) Bx7_280
                  refine pm_R_lo pm_M157 (pc' := 97) rfl rfl rfl ?_
                  refine pm_R_ifc pm_M157 (t := 105) (pc' := 100) rfl rfl rfl (fun c286 => ?_) (fun c286 => ?_)
                  · have B287 : sf_B 0 0 a2 := sf_eqL c286 sf_k0
                    refine pm_R_lo pm_M157 (pc' := 107) rfl rfl rfl ?_
                    exact pm_R_ret pm_M157 (r := some (.int x5_280)) rfl (pm_ret_i _) (K x5_280 m_280 h_280 T_280 F_280 W283 Bx5_280)
                  · have B288 : sf_B 1 1 a2 := sf_neL0 c286 sf_k0 Ba2
                    refine pm_R_lo pm_M157 (pc' := 102) rfl rfl rfl ?_
                    refine pm_R_br pm_M157 (pc' := 107) rfl rfl ?_
                    exact pm_R_ret pm_M157 (r := some (.int x6_280)) rfl (pm_ret_i _) (K x6_280 m_280 h_280 T_280 F_280 W283 (sf_weak Bx6_280 (by decide) (by decide)))
                · have B289 : sf_B 0 5 x7_280 := sf_ltL (Int32.not_le.mp c284) Bx7_280 (sf_ofB1 h25 h24 (by decide))
                  refine pm_R_lo pm_M157 (pc' := 53) rfl rfl rfl ?_
                  refine pm_R_lo pm_M157 (pc' := 54) rfl rfl rfl ?_
                  refine pm_R_icmp pm_M157 (t := 61) (pc' := 57) rfl rfl rfl (fun c290 => ?_) (fun c290 => ?_)
                  · skip
                    refine pm_R_lo pm_M157 (pc' := 63) rfl rfl rfl ?_
                    refine pm_R_op pm_M157 (pc' := 64) (st' := [.int (-1), .ref l16]) rfl rfl rfl ?_
                    refine pm_R_lo pm_M157 (pc' := 66) rfl rfl rfl ?_
                    refine pm_R_lo pm_M157 (pc' := 67) rfl rfl rfl ?_
                    refine pm_R_get pm_M157 (pc' := 70) (v := .ref 39) rfl rfl T_280.e16 (by decide) (T_280.lt (by decide)) rfl rfl ?_
                    refine pm_R_cv pm_M157 (pc' := 73) (a := l16) (ra := [.ref 39, .int x7_280, .int (-1)]) (rest := []) (ls' := [.ref l16, .int (-1), .int x7_280, .ref 39, pm_no, pm_no]) rfl rfl (Or.inl rfl) pm_M146 (T_280.im hk18 (by decide) (by decide) eE27) rfl (G.ge hk18 (by decide)) (T_280.al hk18 (by decide)) rfl rfl (Nat.le_of_ble_eq_true rfl) rfl rfl ?_
                    refine cl_c146 (d := d + 0) G T_280 hk18 (sf_weak sf_kn1 (by decide) (by decide)) B289 (fun r291 m293 h294 T295 F296 W297 B292 => ?_)
                    have F298 := F_280.trans F296 (by decide)
                    have W299 : rf_W [] m m293 := W283.trans W297 (by decide)
                    have W300 : rf_W [] m m293 := W_280.trans W297 (by decide)
                    show pm_R _ 157 73 [.ref 16, .int a0, .int a1, .int a2, .ref l16, .int x5_280, .int x6_280, .int x7_280, g8_280] [.int r291] _ _
                    refine pm_R_lo pm_M157 (pc' := 75) (ls' := [.ref 16, .int a0, .int a1, .int a2, .ref l16, .int x5_280, .int x6_280, .int x7_280, .int r291]) (st' := []) rfl rfl rfl ?_
                    refine pm_R_lo pm_M157 (pc' := 77) rfl rfl rfl ?_
                    refine pm_R_lo pm_M157 (pc' := 79) rfl rfl rfl ?_
                    refine pm_R_icmp pm_M157 (t := 90) (pc' := 82) rfl rfl rfl (fun c301 => ?_) (fun c301 => ?_)
                    · have B302 : sf_B 0 50 x6_280 := sf_leR c301 B292 Bx6_280
                      refine sf_R_iinc pm_M157 (pc' := 93) (ls' := fun z => [.ref 16, .int a0, .int a1, .int a2, .ref l16, .int x5_280, .int x6_280, .int z, .int r291]) rfl B289 rfl (by decide) (by decide) (by decide) (fun _ => rfl) rfl (fun z303 e304 B305 => ?_)
                      show pm_R _ 157 93 [.ref 16, .int a0, .int a1, .int a2, .ref l16, .int x5_280, .int x6_280, .int z303, .int r291] [] _ _
                      refine pm_R_br pm_M157 (pc' := 41) rfl rfl ?_
                      exact ih_280 _ (sf_up hN_280 e304 B289 (by decide) (by decide)) h294 m293 x5_280 x6_280 z303 (.int r291) T295 F298 W300 Bx5_280 (sf_weak B302 (by decide) (by decide)) (sf_weak B305 (by decide) (by decide)) rfl rfl
                    · have B306 : sf_B (-1) 49 x6_280 := sf_ltL (Int32.not_le.mp c301) Bx6_280 B292
                      refine pm_R_lo pm_M157 (pc' := 84) rfl rfl rfl ?_
                      refine pm_R_lo pm_M157 (pc' := 86) (ls' := [.ref 16, .int a0, .int a1, .int a2, .ref l16, .int x7_280, .int x6_280, .int x7_280, .int r291]) (st' := []) rfl rfl rfl ?_
                      refine pm_R_lo pm_M157 (pc' := 88) rfl rfl rfl ?_
                      refine pm_R_lo pm_M157 (pc' := 90) (ls' := [.ref 16, .int a0, .int a1, .int a2, .ref l16, .int x7_280, .int r291, .int x7_280, .int r291]) (st' := []) rfl rfl rfl ?_
                      refine sf_R_iinc pm_M157 (pc' := 93) (ls' := fun z => [.ref 16, .int a0, .int a1, .int a2, .ref l16, .int x7_280, .int r291, .int z, .int r291]) rfl B289 rfl (by decide) (by decide) (by decide) (fun _ => rfl) rfl (fun z307 e308 B309 => ?_)
                      show pm_R _ 157 93 [.ref 16, .int a0, .int a1, .int a2, .ref l16, .int x7_280, .int r291, .int z307, .int r291] [] _ _
                      refine pm_R_br pm_M157 (pc' := 41) rfl rfl ?_
                      exact ih_280 _ (sf_up hN_280 e308 B289 (by decide) (by decide)) h294 m293 x7_280 r291 z307 (.int r291) T295 F298 W300 (sf_weak B289 (by decide) (by decide)) (sf_weak B292 (by decide) (by decide)) (sf_weak B309 (by decide) (by decide)) rfl rfl
                  · refine pm_R_op pm_M157 (pc' := 58) (st' := [.int (-1)]) rfl rfl rfl ?_
                    refine pm_R_br pm_M157 (pc' := 73) rfl rfl ?_
                    refine pm_R_lo pm_M157 (pc' := 75) (ls' := [.ref 16, .int a0, .int a1, .int a2, .ref l16, .int x5_280, .int x6_280, .int x7_280, .int (-1)]) (st' := []) rfl rfl rfl ?_
                    refine pm_R_lo pm_M157 (pc' := 77) rfl rfl rfl ?_
                    refine pm_R_lo pm_M157 (pc' := 79) rfl rfl rfl ?_
                    refine pm_R_icmp pm_M157 (t := 90) (pc' := 82) rfl rfl rfl (fun c310 => ?_) (fun c310 => absurd (Int32.not_le.mp c310) (sf_nlt Bx6_280 sf_kn1 (by decide)))
                    skip
                    refine sf_R_iinc pm_M157 (pc' := 93) (ls' := fun z => [.ref 16, .int a0, .int a1, .int a2, .ref l16, .int x5_280, .int x6_280, .int z, .int (-1)]) rfl B289 rfl (by decide) (by decide) (by decide) (fun _ => rfl) rfl (fun z311 e312 B313 => ?_)
                    show pm_R _ 157 93 [.ref 16, .int a0, .int a1, .int a2, .ref l16, .int x5_280, .int x6_280, .int z311, .int (-1)] [] _ _
                    refine pm_R_br pm_M157 (pc' := 41) rfl rfl ?_
                    exact ih_280 _ (sf_up hN_280 e312 B289 (by decide) (by decide)) h_280 m_280 x5_280 x6_280 z311 (.int (-1)) T_280 F_280 W_280 Bx5_280 Bx6_280 (sf_weak B313 (by decide) (by decide)) rfl rfl
            exact L_280 _ h m (-1) (-1) 0 (pm_no) T (rf_G.refl [39] h) (rf_W.refl _ _) (sf_weak sf_kn1 (by decide) (by decide)) (sf_weak sf_kn1 (by decide) (by decide)) (sf_weak sf_k0 (by decide) (by decide)) rfl rfl
          · have B314 : sf_B 1 1 (Int32.ofNat s19) := sf_ltL (Int32.not_le.mp c39) (sf_ofB1 h25 h24 (by decide)) sf_k2
            refine pm_R_op pm_M157 (pc' := 31) (st' := [.int (-1)]) rfl rfl rfl ?_
            exact pm_R_ret pm_M157 (r := some (.int (-1))) rfl rfl (K (-1) m h T (rf_G.refl [39] h) (rf_W.refl [] m) (sf_weak sf_kn1 (by decide) (by decide)))
    · skip
      refine pm_R_op pm_M139 (pc' := 18) (st' := [.null]) rfl rfl rfl ?_
      refine pm_R_br pm_M139 (pc' := 30) rfl rfl ?_
      refine pm_R_ret pm_M139 (r := some (.null)) rfl rfl ?_
      show pm_R _ 157 5 [.ref 16, .int a0, .int a1, .int a2, pm_no, pm_no, pm_no, pm_no, pm_no] [.null] _ _
      refine pm_R_lo pm_M157 (pc' := 7) (ls' := [.ref 16, .int a0, .int a1, .int a2, .null, pm_no, pm_no, pm_no, pm_no]) (st' := []) rfl rfl rfl ?_
      refine pm_R_lo pm_M157 (pc' := 9) rfl rfl rfl ?_
      refine pm_R_br pm_M157 (pc' := 30) rfl rfl ?_
      refine pm_R_op pm_M157 (pc' := 31) (st' := [.int (-1)]) rfl rfl rfl ?_
      exact pm_R_ret pm_M157 (r := some (.int (-1))) rfl rfl (K (-1) m h T (rf_G.refl [39] h) (rf_W.refl [] m) (sf_weak sf_kn1 (by decide) (by decide)))
