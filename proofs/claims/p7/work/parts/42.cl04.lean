set_option maxRecDepth 100000 in
set_option maxHeartbeats 4000000 in
/-- SilentTable.caught -/
theorem cl_c144 {d : Nat} {ck : cl_K} {E : Nat → pm_E} {m : Nat → Int32} {o : Nat → Option Nat} {h : pm_H} {Q : Option Value → pm_H → Prop} {a0 : Int32} {a1 : Int32} {a2 : Int32} {a3 : Int32} (G : cl_G ck E) (T : cl_T ck E m o h)  (K : ∀ (r : Int32) (m_q : Nat → Int32) (h_q : pm_H), cl_T ck E m_q o h_q → cl_F ck [39] 0 0 h h_q → rf_W [] m m_q → Q (some (.int r)) h_q) : pm_R (d + 2) 144 0 [.ref 16, .int a0, .int a1, .int a2, .int a3, pm_no, pm_no] [] h Q := by
  refine pm_R_lo pm_M144 (pc_q := 1) rfl rfl rfl ?_
  refine pm_R_lo pm_M144 (pc_q := 2) rfl rfl rfl ?_
  refine pm_R_cv pm_M144 (pc_q := 5) (a := 16) (ra := [.int a0]) (rest := []) (ls_q := [.ref 16, .int a0]) rfl rfl (Or.inl rfl) pm_M139 T.e16 rfl (by decide) (T.lt (by decide)) rfl rfl (Nat.le_of_ble_eq_true rfl) rfl rfl ?_
  refine pm_R_lo pm_M139 (pc_q := 1) rfl rfl rfl ?_
  refine pm_R_ifc pm_M139 (t := 17) (pc_q := 4) rfl rfl rfl (fun c1 => ?_) (fun c1 => ?_)
  · have B2 : sf_B (-2147483648) (-1) a0 := sf_ltL c1 (sf_any a0) sf_k0
    refine pm_R_op pm_M139 (pc_q := 18) (st_q := [.null]) rfl rfl rfl ?_
    refine pm_R_br pm_M139 (pc_q := 30) rfl rfl ?_
    refine pm_R_ret pm_M139 (r := some (.null)) rfl rfl ?_
    show pm_R _ 144 5 [.ref 16, .int a0, .int a1, .int a2, .int a3, pm_no, pm_no] [.null] _ _
    refine pm_R_lo pm_M144 (pc_q := 7) (ls_q := [.ref 16, .int a0, .int a1, .int a2, .int a3, .null, pm_no]) (st_q := []) rfl rfl rfl ?_
    refine pm_R_lo pm_M144 (pc_q := 9) rfl rfl rfl ?_
    refine pm_R_br pm_M144 (pc_q := 22) rfl rfl ?_
    refine pm_R_op pm_M144 (pc_q := 24) (st_q := [.int (-2)]) rfl rfl rfl ?_
    exact pm_R_ret pm_M144 (r := some (.int (-2))) rfl rfl (K (-2) m h T (cl_F.refl (ck := ck) (A := [39]) (n := 0) (s := 0) T.1) (rf_W.refl [] m))
  · have B3 : sf_B 0 2147483647 a0 := sf_leR (Int32.not_lt.mp c1) sf_k0 (sf_any a0)
    refine pm_R_lo pm_M139 (pc_q := 5) rfl rfl rfl ?_
    refine pm_R_lo pm_M139 (pc_q := 6) rfl rfl rfl ?_
    refine pm_R_get pm_M139 (pc_q := 9) (v := .ref 17) rfl rfl T.e16 (by decide) (T.lt (by decide)) rfl rfl ?_
    refine pm_R_get pm_M139 (pc_q := 12) (v := .ref 23) rfl rfl T.e17 (by decide) (T.lt (by decide)) rfl rfl ?_
    refine pm_R_op pm_M139 (pc_q := 13) (st_q := [.int 2, .ref 23, .int a0]) rfl rfl rfl ?_
    obtain ⟨f7, e8, b9⟩ := T.C 23 (by decide) (by decide)
    obtain ⟨z4, ez5⟩ : ∃ y, f7 (Int32.toNatClampNeg 2) = y := ⟨_, rfl⟩
    have B6 : sf_B 0 2 z4 := ez5 ▸ (b9 2)
    refine pm_R_iald pm_M139 (pc_q := 14) (v := z4) rfl e8 (T.lt (by decide)) rfl ez5 rfl ?_
    refine pm_R_icmp pm_M139 (t := 21) (pc_q := 17) rfl rfl rfl (fun c10 => ?_) (fun c10 => ?_)
    · have B11 : sf_B 0 1 a0 := sf_ltL c10 B3 B6
      have B12 : sf_B 1 2 z4 := sf_ltR c10 B3 B6
      refine pm_R_lo pm_M139 (pc_q := 22) rfl rfl rfl ?_
      refine pm_R_get pm_M139 (pc_q := 25) (v := .ref 17) rfl rfl T.e16 (by decide) (T.lt (by decide)) rfl rfl ?_
      refine pm_R_get pm_M139 (pc_q := 28) (v := .ref 21) rfl rfl T.e17 (by decide) (T.lt (by decide)) rfl rfl ?_
      refine pm_R_lo pm_M139 (pc_q := 29) rfl rfl rfl ?_
      obtain ⟨f13, e14, b15⟩ := T.C 21 (by decide) (by decide)
      obtain ⟨l16, hx17⟩ := cl_there2 T e8 e14 ez5 c10 B11 (by decide)
      have hk18 := b15 _ _ hx17
      refine pm_R_aald pm_M139 (pc_q := 30) (v := .ref l16) rfl e14 (by decide) (by decide) (by decide) (T.lt (by decide)) (sf_in B11 (by decide) (by decide)) (by rw [hx17]; rfl) rfl ?_
      refine pm_R_ret pm_M139 (r := some (.ref l16)) rfl rfl ?_
      show pm_R _ 144 5 [.ref 16, .int a0, .int a1, .int a2, .int a3, pm_no, pm_no] [.ref l16] _ _
      refine pm_R_lo pm_M144 (pc_q := 7) (ls_q := [.ref 16, .int a0, .int a1, .int a2, .int a3, .ref l16, pm_no]) (st_q := []) rfl rfl rfl ?_
      refine pm_R_lo pm_M144 (pc_q := 9) rfl rfl rfl ?_
      refine pm_R_br pm_M144 (pc_q := 12) rfl rfl ?_
      refine pm_R_lo pm_M144 (pc_q := 14) rfl rfl rfl ?_
      refine pm_R_lo pm_M144 (pc_q := 15) rfl rfl rfl ?_
      refine pm_R_lo pm_M144 (pc_q := 16) rfl rfl rfl ?_
      obtain ⟨s19, n20, fd21, fg22, fs23, h24, h25, h26, eE27, eE28, eE29, eE30, b31⟩ := (G.2.2.2.1 l16 hk18).2.2.2
      have kq32 := G.2.2.2.1 l16 hk18
      refine pm_R_cv pm_M144 (pc_q := 19) (a := l16) (ra := [.int a2, .int a1]) (rest := []) (ls_q := [.ref l16, .int a1, .int a2]) rfl rfl (Or.inl rfl) pm_M145 (T.im hk18 (by decide) (by decide) eE27) rfl (G.ge hk18 (by decide)) (T.al hk18 (by decide)) rfl rfl (Nat.le_of_ble_eq_true rfl) rfl rfl ?_
      refine pm_R_lo pm_M145 (pc_q := 1) rfl rfl rfl ?_
      refine pm_R_lo pm_M145 (pc_q := 2) rfl rfl rfl ?_
      refine pm_R_cv pm_M145 (pc_q := 5) (a := l16) (ra := [.int a2]) (rest := []) (ls_q := [.ref l16, .int a2]) rfl rfl (Or.inl rfl) pm_M143 (T.im hk18 (by decide) (by decide) eE27) rfl (G.ge hk18 (by decide)) (T.al hk18 (by decide)) rfl rfl (Nat.le_of_ble_eq_true rfl) rfl rfl ?_
      refine pm_R_lo pm_M143 (pc_q := 1) rfl rfl rfl ?_
      refine pm_R_ifc pm_M143 (t := 16) (pc_q := 4) rfl rfl rfl (fun c33 => ?_) (fun c33 => ?_)
      · have B34 : sf_B (-2147483648) (-1) a2 := sf_ltL c33 (sf_any a2) sf_k0
        refine pm_R_op pm_M143 (pc_q := 17) (st_q := [.int 0]) rfl rfl rfl ?_
        refine pm_R_ret pm_M143 (r := some (.int 0)) rfl rfl ?_
        show pm_R _ 145 5 [.ref l16, .int a1, .int a2] [.int 0] _ _
        refine pm_R_br pm_M145 (pc_q := 30) (st_q := []) rfl rfl ?_
        refine pm_R_op pm_M145 (pc_q := 31) (st_q := [.int 0]) rfl rfl rfl ?_
        refine pm_R_ret pm_M145 (r := some (.int 0)) rfl rfl ?_
        show pm_R _ 144 19 [.ref 16, .int a0, .int a1, .int a2, .int a3, .ref l16, pm_no] [.int 0] _ _
        refine pm_R_br pm_M144 (pc_q := 22) (st_q := []) rfl rfl ?_
        refine pm_R_op pm_M144 (pc_q := 24) (st_q := [.int (-2)]) rfl rfl rfl ?_
        exact pm_R_ret pm_M144 (r := some (.int (-2))) rfl rfl (K (-2) m h T (cl_F.refl (ck := ck) (A := [39]) (n := 0) (s := 0) T.1) (rf_W.refl [] m))
      · have B35 : sf_B 0 2147483647 a2 := sf_leR (Int32.not_lt.mp c33) sf_k0 (sf_any a2)
        refine pm_R_lo pm_M143 (pc_q := 5) rfl rfl rfl ?_
        refine pm_R_lo pm_M143 (pc_q := 6) rfl rfl rfl ?_
        refine pm_R_get pm_M143 (pc_q := 9) (v := .int (Int32.ofNat s19)) rfl rfl (T.im hk18 (by decide) (by decide) eE27) (G.ge hk18 (by decide)) (T.al hk18 (by decide)) rfl rfl ?_
        refine pm_R_icmp pm_M143 (t := 16) (pc_q := 12) rfl rfl rfl (fun c36 => ?_) (fun c36 => ?_)
        · have B37 : sf_B 1 2147483647 a2 := sf_leR c36 (sf_ofB1 h25 h24 (by decide)) B35
          refine pm_R_op pm_M143 (pc_q := 17) (st_q := [.int 0]) rfl rfl rfl ?_
          refine pm_R_ret pm_M143 (r := some (.int 0)) rfl rfl ?_
          show pm_R _ 145 5 [.ref l16, .int a1, .int a2] [.int 0] _ _
          refine pm_R_br pm_M145 (pc_q := 30) (st_q := []) rfl rfl ?_
          refine pm_R_op pm_M145 (pc_q := 31) (st_q := [.int 0]) rfl rfl rfl ?_
          refine pm_R_ret pm_M145 (r := some (.int 0)) rfl rfl ?_
          show pm_R _ 144 19 [.ref 16, .int a0, .int a1, .int a2, .int a3, .ref l16, pm_no] [.int 0] _ _
          refine pm_R_br pm_M144 (pc_q := 22) (st_q := []) rfl rfl ?_
          refine pm_R_op pm_M144 (pc_q := 24) (st_q := [.int (-2)]) rfl rfl rfl ?_
          exact pm_R_ret pm_M144 (r := some (.int (-2))) rfl rfl (K (-2) m h T (cl_F.refl (ck := ck) (A := [39]) (n := 0) (s := 0) T.1) (rf_W.refl [] m))
        · have B38 : sf_B 0 5 a2 := sf_ltL (Int32.not_le.mp c36) B35 (sf_ofB1 h25 h24 (by decide))
          refine pm_R_op pm_M143 (pc_q := 13) (st_q := [.int 1]) rfl rfl rfl ?_
          refine pm_R_br pm_M143 (pc_q := 17) rfl rfl ?_
          refine pm_R_ret pm_M143 (r := some (.int 1)) rfl rfl ?_
          show pm_R _ 145 5 [.ref l16, .int a1, .int a2] [.int 1] _ _
          refine pm_R_br pm_M145 (pc_q := 8) (st_q := []) rfl rfl ?_
          refine pm_R_lo pm_M145 (pc_q := 9) rfl rfl rfl ?_
          refine pm_R_lo pm_M145 (pc_q := 10) rfl rfl rfl ?_
          refine pm_R_icmp pm_M145 (t := 30) (pc_q := 13) rfl rfl rfl (fun c39 => ?_) (fun c39 => ?_)
          · have B40 : sf_B 0 5 a1 := sf_eqL c39 B38
            refine pm_R_op pm_M145 (pc_q := 31) (st_q := [.int 0]) rfl rfl rfl ?_
            refine pm_R_ret pm_M145 (r := some (.int 0)) rfl rfl ?_
            show pm_R _ 144 19 [.ref 16, .int a0, .int a1, .int a2, .int a3, .ref l16, pm_no] [.int 0] _ _
            refine pm_R_br pm_M144 (pc_q := 22) (st_q := []) rfl rfl ?_
            refine pm_R_op pm_M144 (pc_q := 24) (st_q := [.int (-2)]) rfl rfl rfl ?_
            exact pm_R_ret pm_M144 (r := some (.int (-2))) rfl rfl (K (-2) m h T (cl_F.refl (ck := ck) (A := [39]) (n := 0) (s := 0) T.1) (rf_W.refl [] m))
          · skip
            refine pm_R_lo pm_M145 (pc_q := 14) rfl rfl rfl ?_
            refine pm_R_op pm_M145 (pc_q := 15) (st_q := [.int (-1), .int a1]) rfl rfl rfl ?_
            refine pm_R_icmp pm_M145 (t := 26) (pc_q := 18) rfl rfl rfl (fun c41 => ?_) (fun c41 => ?_)
            · have B42 : sf_B (-1) (-1) a1 := sf_eqL c41 sf_kn1
              refine pm_R_op pm_M145 (pc_q := 27) (st_q := [.int 1]) rfl rfl rfl ?_
              refine pm_R_br pm_M145 (pc_q := 31) rfl rfl ?_
              refine pm_R_ret pm_M145 (r := some (.int 1)) rfl rfl ?_
              show pm_R _ 144 19 [.ref 16, .int a0, .int a1, .int a2, .int a3, .ref l16, pm_no] [.int 1] _ _
              refine pm_R_br pm_M144 (pc_q := 25) (st_q := []) rfl rfl ?_
              refine pm_R_lo pm_M144 (pc_q := 27) rfl rfl rfl ?_
              refine pm_R_lo pm_M144 (pc_q := 28) rfl rfl rfl ?_
              refine pm_R_lo pm_M144 (pc_q := 29) rfl rfl rfl ?_
              refine pm_R_lo pm_M144 (pc_q := 30) rfl rfl rfl ?_
              refine pm_R_get pm_M144 (pc_q := 33) (v := .ref 39) rfl rfl T.e16 (by decide) (T.lt (by decide)) rfl rfl ?_
              refine pm_R_cv pm_M144 (pc_q := 36) (a := l16) (ra := [.ref 39, .int a2, .int a1]) (rest := []) (ls_q := [.ref l16, .int a1, .int a2, .ref 39, pm_no, pm_no]) rfl rfl (Or.inl rfl) pm_M146 (T.im hk18 (by decide) (by decide) eE27) rfl (G.ge hk18 (by decide)) (T.al hk18 (by decide)) rfl rfl (Nat.le_of_ble_eq_true rfl) rfl rfl ?_
              refine cl_c146 (d := d + 0) G T hk18 (sf_weak B42 (by decide) (by decide)) B38 (fun r43 m45 h46 T47 F48 W49 B44 => ?_)
              have F50 := (cl_F.refl (ck := ck) (A := [39]) (n := 0) (s := 0) T.1).trans (N := 0) (S := 0) F48 (by decide) (by decide) (by decide)
              have W51 : rf_W [] m m45 := (rf_W.refl [] m).trans W49 (by decide)
              show pm_R _ 144 36 [.ref 16, .int a0, .int a1, .int a2, .int a3, .ref l16, pm_no] [.int r43] _ _
              refine pm_R_lo pm_M144 (pc_q := 38) (ls_q := [.ref 16, .int a0, .int a1, .int a2, .int a3, .ref l16, .int r43]) (st_q := []) rfl rfl rfl ?_
              refine pm_R_lo pm_M144 (pc_q := 40) rfl rfl rfl ?_
              refine pm_R_op pm_M144 (pc_q := 41) (st_q := [.int (-1), .int a3]) rfl rfl rfl ?_
              refine pm_R_icmp pm_M144 (t := 47) (pc_q := 44) rfl rfl rfl (fun c52 => ?_) (fun c52 => ?_)
              · skip
                refine pm_R_lo pm_M144 (pc_q := 49) rfl rfl rfl ?_
                refine pm_R_ifc pm_M144 (t := 59) (pc_q := 52) rfl rfl rfl (fun c53 => ?_) (fun c53 => ?_)
                · have B54 : sf_B (-2147483648) (-1) a3 := sf_ltL c53 (sf_any a3) sf_k0
                  refine pm_R_op pm_M144 (pc_q := 61) (st_q := [.int (-2)]) rfl rfl rfl ?_
                  refine pm_R_br pm_M144 (pc_q := 71) rfl rfl ?_
                  exact pm_R_ret pm_M144 (r := some (.int (-2))) rfl rfl (K (-2) m45 h46 T47 F50 W51)
                · have B55 : sf_B 0 2147483647 a3 := sf_leR (Int32.not_lt.mp c53) sf_k0 (sf_any a3)
                  refine pm_R_lo pm_M144 (pc_q := 54) rfl rfl rfl ?_
                  refine pm_R_lo pm_M144 (pc_q := 56) rfl rfl rfl ?_
                  refine pm_R_icmp pm_M144 (t := 64) (pc_q := 59) rfl rfl rfl (fun c56 => ?_) (fun c56 => ?_)
                  · have B57 : sf_B 0 49 a3 := sf_ltL c56 B55 B44
                    have B58 : sf_B 1 50 r43 := sf_ltR c56 B55 B44
                    refine pm_R_lo pm_M144 (pc_q := 65) rfl rfl rfl ?_
                    refine pm_R_get pm_M144 (pc_q := 68) (v := .ref 39) rfl rfl T47.e16 (by decide) (T47.lt (by decide)) rfl rfl ?_
                    refine pm_R_lo pm_M144 (pc_q := 70) rfl rfl rfl ?_
                    obtain ⟨f62, e63⟩ := T47.C 39 (by decide) (by decide)
                    obtain ⟨z59, ez60⟩ : ∃ y, f62 (Int32.toNatClampNeg a3) = y := ⟨_, rfl⟩
                    refine pm_R_iald pm_M144 (pc_q := 71) (v := z59) rfl e63 (T47.lt (by decide)) (sf_in B57 (by decide) (by decide)) ez60 rfl ?_
                    exact pm_R_ret pm_M144 (r := some (.int z59)) rfl (pm_ret_i _) (K z59 m45 h46 T47 F50 W51)
                  · skip
                    refine pm_R_op pm_M144 (pc_q := 61) (st_q := [.int (-2)]) rfl rfl rfl ?_
                    refine pm_R_br pm_M144 (pc_q := 71) rfl rfl ?_
                    exact pm_R_ret pm_M144 (r := some (.int (-2))) rfl rfl (K (-2) m45 h46 T47 F50 W51)
              · have B65 : sf_B (-1) (-1) a3 := sf_eqL (Classical.not_not.mp c52) sf_kn1
                refine pm_R_lo pm_M144 (pc_q := 46) rfl rfl rfl ?_
                exact pm_R_ret pm_M144 (r := some (.int r43)) rfl (pm_ret_i _) (K r43 m45 h46 T47 F50 W51)
            · skip
              refine pm_R_lo pm_M145 (pc_q := 19) rfl rfl rfl ?_
              refine pm_R_lo pm_M145 (pc_q := 20) rfl rfl rfl ?_
              refine pm_R_cv pm_M145 (pc_q := 23) (a := l16) (ra := [.int a1]) (rest := []) (ls_q := [.ref l16, .int a1]) rfl rfl (Or.inl rfl) pm_M143 (T.im hk18 (by decide) (by decide) eE27) rfl (G.ge hk18 (by decide)) (T.al hk18 (by decide)) rfl rfl (Nat.le_of_ble_eq_true rfl) rfl rfl ?_
              refine pm_R_lo pm_M143 (pc_q := 1) rfl rfl rfl ?_
              refine pm_R_ifc pm_M143 (t := 16) (pc_q := 4) rfl rfl rfl (fun c66 => ?_) (fun c66 => ?_)
              · have B67 : sf_B (-2147483648) (-1) a1 := sf_ltL c66 (sf_any a1) sf_k0
                refine pm_R_op pm_M143 (pc_q := 17) (st_q := [.int 0]) rfl rfl rfl ?_
                refine pm_R_ret pm_M143 (r := some (.int 0)) rfl rfl ?_
                show pm_R _ 145 23 [.ref l16, .int a1, .int a2] [.int 0] _ _
                refine pm_R_br pm_M145 (pc_q := 30) (st_q := []) rfl rfl ?_
                refine pm_R_op pm_M145 (pc_q := 31) (st_q := [.int 0]) rfl rfl rfl ?_
                refine pm_R_ret pm_M145 (r := some (.int 0)) rfl rfl ?_
                show pm_R _ 144 19 [.ref 16, .int a0, .int a1, .int a2, .int a3, .ref l16, pm_no] [.int 0] _ _
                refine pm_R_br pm_M144 (pc_q := 22) (st_q := []) rfl rfl ?_
                refine pm_R_op pm_M144 (pc_q := 24) (st_q := [.int (-2)]) rfl rfl rfl ?_
                exact pm_R_ret pm_M144 (r := some (.int (-2))) rfl rfl (K (-2) m h T (cl_F.refl (ck := ck) (A := [39]) (n := 0) (s := 0) T.1) (rf_W.refl [] m))
              · have B68 : sf_B 0 2147483647 a1 := sf_leR (Int32.not_lt.mp c66) sf_k0 (sf_any a1)
                refine pm_R_lo pm_M143 (pc_q := 5) rfl rfl rfl ?_
                refine pm_R_lo pm_M143 (pc_q := 6) rfl rfl rfl ?_
                refine pm_R_get pm_M143 (pc_q := 9) (v := .int (Int32.ofNat s19)) rfl rfl (T.im hk18 (by decide) (by decide) eE27) (G.ge hk18 (by decide)) (T.al hk18 (by decide)) rfl rfl ?_
                refine pm_R_icmp pm_M143 (t := 16) (pc_q := 12) rfl rfl rfl (fun c69 => ?_) (fun c69 => ?_)
                · have B70 : sf_B 1 2147483647 a1 := sf_leR c69 (sf_ofB1 h25 h24 (by decide)) B68
                  refine pm_R_op pm_M143 (pc_q := 17) (st_q := [.int 0]) rfl rfl rfl ?_
                  refine pm_R_ret pm_M143 (r := some (.int 0)) rfl rfl ?_
                  show pm_R _ 145 23 [.ref l16, .int a1, .int a2] [.int 0] _ _
                  refine pm_R_br pm_M145 (pc_q := 30) (st_q := []) rfl rfl ?_
                  refine pm_R_op pm_M145 (pc_q := 31) (st_q := [.int 0]) rfl rfl rfl ?_
                  refine pm_R_ret pm_M145 (r := some (.int 0)) rfl rfl ?_
                  show pm_R _ 144 19 [.ref 16, .int a0, .int a1, .int a2, .int a3, .ref l16, pm_no] [.int 0] _ _
                  refine pm_R_br pm_M144 (pc_q := 22) (st_q := []) rfl rfl ?_
                  refine pm_R_op pm_M144 (pc_q := 24) (st_q := [.int (-2)]) rfl rfl rfl ?_
                  exact pm_R_ret pm_M144 (r := some (.int (-2))) rfl rfl (K (-2) m h T (cl_F.refl (ck := ck) (A := [39]) (n := 0) (s := 0) T.1) (rf_W.refl [] m))
                · have B71 : sf_B 0 5 a1 := sf_ltL (Int32.not_le.mp c69) B68 (sf_ofB1 h25 h24 (by decide))
                  refine pm_R_op pm_M143 (pc_q := 13) (st_q := [.int 1]) rfl rfl rfl ?_
                  refine pm_R_br pm_M143 (pc_q := 17) rfl rfl ?_
                  refine pm_R_ret pm_M143 (r := some (.int 1)) rfl rfl ?_
                  show pm_R _ 145 23 [.ref l16, .int a1, .int a2] [.int 1] _ _
                  refine pm_R_br pm_M145 (pc_q := 26) (st_q := []) rfl rfl ?_
                  refine pm_R_op pm_M145 (pc_q := 27) (st_q := [.int 1]) rfl rfl rfl ?_
                  refine pm_R_br pm_M145 (pc_q := 31) rfl rfl ?_
                  refine pm_R_ret pm_M145 (r := some (.int 1)) rfl rfl ?_
                  show pm_R _ 144 19 [.ref 16, .int a0, .int a1, .int a2, .int a3, .ref l16, pm_no] [.int 1] _ _
                  refine pm_R_br pm_M144 (pc_q := 25) (st_q := []) rfl rfl ?_
                  refine pm_R_lo pm_M144 (pc_q := 27) rfl rfl rfl ?_
                  refine pm_R_lo pm_M144 (pc_q := 28) rfl rfl rfl ?_
                  refine pm_R_lo pm_M144 (pc_q := 29) rfl rfl rfl ?_
                  refine pm_R_lo pm_M144 (pc_q := 30) rfl rfl rfl ?_
                  refine pm_R_get pm_M144 (pc_q := 33) (v := .ref 39) rfl rfl T.e16 (by decide) (T.lt (by decide)) rfl rfl ?_
                  refine pm_R_cv pm_M144 (pc_q := 36) (a := l16) (ra := [.ref 39, .int a2, .int a1]) (rest := []) (ls_q := [.ref l16, .int a1, .int a2, .ref 39, pm_no, pm_no]) rfl rfl (Or.inl rfl) pm_M146 (T.im hk18 (by decide) (by decide) eE27) rfl (G.ge hk18 (by decide)) (T.al hk18 (by decide)) rfl rfl (Nat.le_of_ble_eq_true rfl) rfl rfl ?_
                  refine cl_c146 (d := d + 0) G T hk18 (sf_weak B71 (by decide) (by decide)) B38 (fun r72 m74 h75 T76 F77 W78 B73 => ?_)
                  have F79 := (cl_F.refl (ck := ck) (A := [39]) (n := 0) (s := 0) T.1).trans (N := 0) (S := 0) F77 (by decide) (by decide) (by decide)
                  have W80 : rf_W [] m m74 := (rf_W.refl [] m).trans W78 (by decide)
                  show pm_R _ 144 36 [.ref 16, .int a0, .int a1, .int a2, .int a3, .ref l16, pm_no] [.int r72] _ _
                  refine pm_R_lo pm_M144 (pc_q := 38) (ls_q := [.ref 16, .int a0, .int a1, .int a2, .int a3, .ref l16, .int r72]) (st_q := []) rfl rfl rfl ?_
                  refine pm_R_lo pm_M144 (pc_q := 40) rfl rfl rfl ?_
                  refine pm_R_op pm_M144 (pc_q := 41) (st_q := [.int (-1), .int a3]) rfl rfl rfl ?_
                  refine pm_R_icmp pm_M144 (t := 47) (pc_q := 44) rfl rfl rfl (fun c81 => ?_) (fun c81 => ?_)
                  · skip
                    refine pm_R_lo pm_M144 (pc_q := 49) rfl rfl rfl ?_
                    refine pm_R_ifc pm_M144 (t := 59) (pc_q := 52) rfl rfl rfl (fun c82 => ?_) (fun c82 => ?_)
                    · have B83 : sf_B (-2147483648) (-1) a3 := sf_ltL c82 (sf_any a3) sf_k0
                      refine pm_R_op pm_M144 (pc_q := 61) (st_q := [.int (-2)]) rfl rfl rfl ?_
                      refine pm_R_br pm_M144 (pc_q := 71) rfl rfl ?_
                      exact pm_R_ret pm_M144 (r := some (.int (-2))) rfl rfl (K (-2) m74 h75 T76 F79 W80)
                    · have B84 : sf_B 0 2147483647 a3 := sf_leR (Int32.not_lt.mp c82) sf_k0 (sf_any a3)
                      refine pm_R_lo pm_M144 (pc_q := 54) rfl rfl rfl ?_
                      refine pm_R_lo pm_M144 (pc_q := 56) rfl rfl rfl ?_
                      refine pm_R_icmp pm_M144 (t := 64) (pc_q := 59) rfl rfl rfl (fun c85 => ?_) (fun c85 => ?_)
                      · have B86 : sf_B 0 49 a3 := sf_ltL c85 B84 B73
                        have B87 : sf_B 1 50 r72 := sf_ltR c85 B84 B73
                        refine pm_R_lo pm_M144 (pc_q := 65) rfl rfl rfl ?_
                        refine pm_R_get pm_M144 (pc_q := 68) (v := .ref 39) rfl rfl T76.e16 (by decide) (T76.lt (by decide)) rfl rfl ?_
                        refine pm_R_lo pm_M144 (pc_q := 70) rfl rfl rfl ?_
                        obtain ⟨f91, e92⟩ := T76.C 39 (by decide) (by decide)
                        obtain ⟨z88, ez89⟩ : ∃ y, f91 (Int32.toNatClampNeg a3) = y := ⟨_, rfl⟩
                        refine pm_R_iald pm_M144 (pc_q := 71) (v := z88) rfl e92 (T76.lt (by decide)) (sf_in B86 (by decide) (by decide)) ez89 rfl ?_
                        exact pm_R_ret pm_M144 (r := some (.int z88)) rfl (pm_ret_i _) (K z88 m74 h75 T76 F79 W80)
                      · skip
                        refine pm_R_op pm_M144 (pc_q := 61) (st_q := [.int (-2)]) rfl rfl rfl ?_
                        refine pm_R_br pm_M144 (pc_q := 71) rfl rfl ?_
                        exact pm_R_ret pm_M144 (r := some (.int (-2))) rfl rfl (K (-2) m74 h75 T76 F79 W80)
                  · have B94 : sf_B (-1) (-1) a3 := sf_eqL (Classical.not_not.mp c81) sf_kn1
                    refine pm_R_lo pm_M144 (pc_q := 46) rfl rfl rfl ?_
                    exact pm_R_ret pm_M144 (r := some (.int r72)) rfl (pm_ret_i _) (K r72 m74 h75 T76 F79 W80)
    · skip
      refine pm_R_op pm_M139 (pc_q := 18) (st_q := [.null]) rfl rfl rfl ?_
      refine pm_R_br pm_M139 (pc_q := 30) rfl rfl ?_
      refine pm_R_ret pm_M139 (r := some (.null)) rfl rfl ?_
      show pm_R _ 144 5 [.ref 16, .int a0, .int a1, .int a2, .int a3, pm_no, pm_no] [.null] _ _
      refine pm_R_lo pm_M144 (pc_q := 7) (ls_q := [.ref 16, .int a0, .int a1, .int a2, .int a3, .null, pm_no]) (st_q := []) rfl rfl rfl ?_
      refine pm_R_lo pm_M144 (pc_q := 9) rfl rfl rfl ?_
      refine pm_R_br pm_M144 (pc_q := 22) rfl rfl ?_
      refine pm_R_op pm_M144 (pc_q := 24) (st_q := [.int (-2)]) rfl rfl rfl ?_
      exact pm_R_ret pm_M144 (r := some (.int (-2))) rfl rfl (K (-2) m h T (cl_F.refl (ck := ck) (A := [39]) (n := 0) (s := 0) T.1) (rf_W.refl [] m))

set_option maxRecDepth 100000 in
set_option maxHeartbeats 4000000 in
/-- SilentTable.knows -/
theorem cl_c148 {d : Nat} {ck : cl_K} {E : Nat → pm_E} {m : Nat → Int32} {o : Nat → Option Nat} {h : pm_H} {Q : Option Value → pm_H → Prop} {a0 : Int32} {a1 : Int32} {a2 : Int32} {a3 : Int32} {a4 : Int32} (G : cl_G ck E) (T : cl_T ck E m o h)  (K : ∀ (r : Int32) (m_q : Nat → Int32) (h_q : pm_H), cl_T ck E m_q o h_q → cl_F ck [32, 38, 39] 0 0 h h_q → rf_W [] m m_q → sf_B (-2) 127 r → Q (some (.int r)) h_q) : pm_R (d + 5) 148 0 [.ref 16, .int a0, .int a1, .int a2, .int a3, .int a4, pm_no, pm_no] [] h Q := by
  refine pm_R_lo pm_M148 (pc_q := 1) rfl rfl rfl ?_
  refine pm_R_lo pm_M148 (pc_q := 2) rfl rfl rfl ?_
  refine pm_R_cv pm_M148 (pc_q := 5) (a := 16) (ra := [.int a0]) (rest := []) (ls_q := [.ref 16, .int a0]) rfl rfl (Or.inl rfl) pm_M62 T.e16 rfl (by decide) (T.lt (by decide)) rfl rfl (Nat.le_of_ble_eq_true rfl) rfl rfl ?_
  refine pm_R_lo pm_M62 (pc_q := 1) rfl rfl rfl ?_
  refine pm_R_ifc pm_M62 (t := 17) (pc_q := 4) rfl rfl rfl (fun c1 => ?_) (fun c1 => ?_)
  · have B2 : sf_B (-2147483648) (-1) a0 := sf_ltL c1 (sf_any a0) sf_k0
    refine pm_R_op pm_M62 (pc_q := 18) (st_q := [.null]) rfl rfl rfl ?_
    refine pm_R_br pm_M62 (pc_q := 30) rfl rfl ?_
    refine pm_R_ret pm_M62 (r := some (.null)) rfl rfl ?_
    show pm_R _ 148 5 [.ref 16, .int a0, .int a1, .int a2, .int a3, .int a4, pm_no, pm_no] [.null] _ _
    refine pm_R_lo pm_M148 (pc_q := 7) (ls_q := [.ref 16, .int a0, .int a1, .int a2, .int a3, .int a4, .null, pm_no]) (st_q := []) rfl rfl rfl ?_
    refine pm_R_lo pm_M148 (pc_q := 8) rfl rfl rfl ?_
    refine pm_R_lo pm_M148 (pc_q := 9) rfl rfl rfl ?_
    refine pm_R_cv pm_M148 (pc_q := 12) (a := 16) (ra := [.int a1]) (rest := []) (ls_q := [.ref 16, .int a1]) rfl rfl (Or.inl rfl) pm_M139 T.e16 rfl (by decide) (T.lt (by decide)) rfl rfl (Nat.le_of_ble_eq_true rfl) rfl rfl ?_
    refine pm_R_lo pm_M139 (pc_q := 1) rfl rfl rfl ?_
    refine pm_R_ifc pm_M139 (t := 17) (pc_q := 4) rfl rfl rfl (fun c3 => ?_) (fun c3 => ?_)
    · have B4 : sf_B (-2147483648) (-1) a1 := sf_ltL c3 (sf_any a1) sf_k0
      refine pm_R_op pm_M139 (pc_q := 18) (st_q := [.null]) rfl rfl rfl ?_
      refine pm_R_br pm_M139 (pc_q := 30) rfl rfl ?_
      refine pm_R_ret pm_M139 (r := some (.null)) rfl rfl ?_
      show pm_R _ 148 12 [.ref 16, .int a0, .int a1, .int a2, .int a3, .int a4, .null, pm_no] [.null] _ _
      refine pm_R_lo pm_M148 (pc_q := 14) (ls_q := [.ref 16, .int a0, .int a1, .int a2, .int a3, .int a4, .null, .null]) (st_q := []) rfl rfl rfl ?_
      refine pm_R_lo pm_M148 (pc_q := 16) rfl rfl rfl ?_
      refine pm_R_br pm_M148 (pc_q := 35) rfl rfl ?_
      refine pm_R_op pm_M148 (pc_q := 37) (st_q := [.int (-2)]) rfl rfl rfl ?_
      exact pm_R_ret pm_M148 (r := some (.int (-2))) rfl rfl (K (-2) m h T (cl_F.refl (ck := ck) (A := [32, 38, 39]) (n := 0) (s := 0) T.1) (rf_W.refl [] m) (sf_weak sf_kn2 (by decide) (by decide)))
    · have B5 : sf_B 0 2147483647 a1 := sf_leR (Int32.not_lt.mp c3) sf_k0 (sf_any a1)
      refine pm_R_lo pm_M139 (pc_q := 5) rfl rfl rfl ?_
      refine pm_R_lo pm_M139 (pc_q := 6) rfl rfl rfl ?_
      refine pm_R_get pm_M139 (pc_q := 9) (v := .ref 17) rfl rfl T.e16 (by decide) (T.lt (by decide)) rfl rfl ?_
      refine pm_R_get pm_M139 (pc_q := 12) (v := .ref 23) rfl rfl T.e17 (by decide) (T.lt (by decide)) rfl rfl ?_
      refine pm_R_op pm_M139 (pc_q := 13) (st_q := [.int 2, .ref 23, .int a1]) rfl rfl rfl ?_
      obtain ⟨f9, e10, b11⟩ := T.C 23 (by decide) (by decide)
      obtain ⟨z6, ez7⟩ : ∃ y, f9 (Int32.toNatClampNeg 2) = y := ⟨_, rfl⟩
      have B8 : sf_B 0 2 z6 := ez7 ▸ (b11 2)
      refine pm_R_iald pm_M139 (pc_q := 14) (v := z6) rfl e10 (T.lt (by decide)) rfl ez7 rfl ?_
      refine pm_R_icmp pm_M139 (t := 21) (pc_q := 17) rfl rfl rfl (fun c12 => ?_) (fun c12 => ?_)
      · have B13 : sf_B 0 1 a1 := sf_ltL c12 B5 B8
        have B14 : sf_B 1 2 z6 := sf_ltR c12 B5 B8
        refine pm_R_lo pm_M139 (pc_q := 22) rfl rfl rfl ?_
        refine pm_R_get pm_M139 (pc_q := 25) (v := .ref 17) rfl rfl T.e16 (by decide) (T.lt (by decide)) rfl rfl ?_
        refine pm_R_get pm_M139 (pc_q := 28) (v := .ref 21) rfl rfl T.e17 (by decide) (T.lt (by decide)) rfl rfl ?_
        refine pm_R_lo pm_M139 (pc_q := 29) rfl rfl rfl ?_
        obtain ⟨f15, e16, b17⟩ := T.C 21 (by decide) (by decide)
        obtain ⟨l18, hx19⟩ := cl_there2 T e10 e16 ez7 c12 B13 (by decide)
        have hk20 := b17 _ _ hx19
        refine pm_R_aald pm_M139 (pc_q := 30) (v := .ref l18) rfl e16 (by decide) (by decide) (by decide) (T.lt (by decide)) (sf_in B13 (by decide) (by decide)) (by rw [hx19]; rfl) rfl ?_
        refine pm_R_ret pm_M139 (r := some (.ref l18)) rfl rfl ?_
        show pm_R _ 148 12 [.ref 16, .int a0, .int a1, .int a2, .int a3, .int a4, .null, pm_no] [.ref l18] _ _
        refine pm_R_lo pm_M148 (pc_q := 14) (ls_q := [.ref 16, .int a0, .int a1, .int a2, .int a3, .int a4, .null, .ref l18]) (st_q := []) rfl rfl rfl ?_
        refine pm_R_lo pm_M148 (pc_q := 16) rfl rfl rfl ?_
        refine pm_R_br pm_M148 (pc_q := 35) rfl rfl ?_
        refine pm_R_op pm_M148 (pc_q := 37) (st_q := [.int (-2)]) rfl rfl rfl ?_
        exact pm_R_ret pm_M148 (r := some (.int (-2))) rfl rfl (K (-2) m h T (cl_F.refl (ck := ck) (A := [32, 38, 39]) (n := 0) (s := 0) T.1) (rf_W.refl [] m) (sf_weak sf_kn2 (by decide) (by decide)))
      · skip
        refine pm_R_op pm_M139 (pc_q := 18) (st_q := [.null]) rfl rfl rfl ?_
        refine pm_R_br pm_M139 (pc_q := 30) rfl rfl ?_
        refine pm_R_ret pm_M139 (r := some (.null)) rfl rfl ?_
        show pm_R _ 148 12 [.ref 16, .int a0, .int a1, .int a2, .int a3, .int a4, .null, pm_no] [.null] _ _
        refine pm_R_lo pm_M148 (pc_q := 14) (ls_q := [.ref 16, .int a0, .int a1, .int a2, .int a3, .int a4, .null, .null]) (st_q := []) rfl rfl rfl ?_
        refine pm_R_lo pm_M148 (pc_q := 16) rfl rfl rfl ?_
        refine pm_R_br pm_M148 (pc_q := 35) rfl rfl ?_
        refine pm_R_op pm_M148 (pc_q := 37) (st_q := [.int (-2)]) rfl rfl rfl ?_
        exact pm_R_ret pm_M148 (r := some (.int (-2))) rfl rfl (K (-2) m h T (cl_F.refl (ck := ck) (A := [32, 38, 39]) (n := 0) (s := 0) T.1) (rf_W.refl [] m) (sf_weak sf_kn2 (by decide) (by decide)))
  · have B21 : sf_B 0 2147483647 a0 := sf_leR (Int32.not_lt.mp c1) sf_k0 (sf_any a0)
    refine pm_R_lo pm_M62 (pc_q := 5) rfl rfl rfl ?_
    refine pm_R_lo pm_M62 (pc_q := 6) rfl rfl rfl ?_
    refine pm_R_get pm_M62 (pc_q := 9) (v := .ref 17) rfl rfl T.e16 (by decide) (T.lt (by decide)) rfl rfl ?_
    refine pm_R_get pm_M62 (pc_q := 12) (v := .ref 23) rfl rfl T.e17 (by decide) (T.lt (by decide)) rfl rfl ?_
    refine pm_R_op pm_M62 (pc_q := 13) (st_q := [.int 0, .ref 23, .int a0]) rfl rfl rfl ?_
    obtain ⟨f25, e26, b27⟩ := T.C 23 (by decide) (by decide)
    obtain ⟨z22, ez23⟩ : ∃ y, f25 (Int32.toNatClampNeg 0) = y := ⟨_, rfl⟩
    have B24 : sf_B 0 2 z22 := ez23 ▸ (b27 0)
    refine pm_R_iald pm_M62 (pc_q := 14) (v := z22) rfl e26 (T.lt (by decide)) rfl ez23 rfl ?_
    refine pm_R_icmp pm_M62 (t := 21) (pc_q := 17) rfl rfl rfl (fun c28 => ?_) (fun c28 => ?_)
    · have B29 : sf_B 0 1 a0 := sf_ltL c28 B21 B24
      have B30 : sf_B 1 2 z22 := sf_ltR c28 B21 B24
      refine pm_R_lo pm_M62 (pc_q := 22) rfl rfl rfl ?_
      refine pm_R_get pm_M62 (pc_q := 25) (v := .ref 17) rfl rfl T.e16 (by decide) (T.lt (by decide)) rfl rfl ?_
      refine pm_R_get pm_M62 (pc_q := 28) (v := .ref 19) rfl rfl T.e17 (by decide) (T.lt (by decide)) rfl rfl ?_
      refine pm_R_lo pm_M62 (pc_q := 29) rfl rfl rfl ?_
      obtain ⟨f31, e32, b33⟩ := T.C 19 (by decide) (by decide)
      obtain ⟨l34, hx35⟩ := cl_there0 T e26 e32 ez23 c28 B29 (by decide)
      have hk36 := b33 _ _ hx35
      refine pm_R_aald pm_M62 (pc_q := 30) (v := .ref l34) rfl e32 (by decide) (by decide) (by decide) (T.lt (by decide)) (sf_in B29 (by decide) (by decide)) (by rw [hx35]; rfl) rfl ?_
      refine pm_R_ret pm_M62 (r := some (.ref l34)) rfl rfl ?_
      show pm_R _ 148 5 [.ref 16, .int a0, .int a1, .int a2, .int a3, .int a4, pm_no, pm_no] [.ref l34] _ _
      refine pm_R_lo pm_M148 (pc_q := 7) (ls_q := [.ref 16, .int a0, .int a1, .int a2, .int a3, .int a4, .ref l34, pm_no]) (st_q := []) rfl rfl rfl ?_
      refine pm_R_lo pm_M148 (pc_q := 8) rfl rfl rfl ?_
      refine pm_R_lo pm_M148 (pc_q := 9) rfl rfl rfl ?_
      refine pm_R_cv pm_M148 (pc_q := 12) (a := 16) (ra := [.int a1]) (rest := []) (ls_q := [.ref 16, .int a1]) rfl rfl (Or.inl rfl) pm_M139 T.e16 rfl (by decide) (T.lt (by decide)) rfl rfl (Nat.le_of_ble_eq_true rfl) rfl rfl ?_
      refine pm_R_lo pm_M139 (pc_q := 1) rfl rfl rfl ?_
      refine pm_R_ifc pm_M139 (t := 17) (pc_q := 4) rfl rfl rfl (fun c37 => ?_) (fun c37 => ?_)
      · have B38 : sf_B (-2147483648) (-1) a1 := sf_ltL c37 (sf_any a1) sf_k0
        refine pm_R_op pm_M139 (pc_q := 18) (st_q := [.null]) rfl rfl rfl ?_
        refine pm_R_br pm_M139 (pc_q := 30) rfl rfl ?_
        refine pm_R_ret pm_M139 (r := some (.null)) rfl rfl ?_
        show pm_R _ 148 12 [.ref 16, .int a0, .int a1, .int a2, .int a3, .int a4, .ref l34, pm_no] [.null] _ _
        refine pm_R_lo pm_M148 (pc_q := 14) (ls_q := [.ref 16, .int a0, .int a1, .int a2, .int a3, .int a4, .ref l34, .null]) (st_q := []) rfl rfl rfl ?_
        refine pm_R_lo pm_M148 (pc_q := 16) rfl rfl rfl ?_
        refine pm_R_br pm_M148 (pc_q := 19) rfl rfl ?_
        refine pm_R_lo pm_M148 (pc_q := 21) rfl rfl rfl ?_
        refine pm_R_br pm_M148 (pc_q := 35) rfl rfl ?_
        refine pm_R_op pm_M148 (pc_q := 37) (st_q := [.int (-2)]) rfl rfl rfl ?_
        exact pm_R_ret pm_M148 (r := some (.int (-2))) rfl rfl (K (-2) m h T (cl_F.refl (ck := ck) (A := [32, 38, 39]) (n := 0) (s := 0) T.1) (rf_W.refl [] m) (sf_weak sf_kn2 (by decide) (by decide)))
      · have B39 : sf_B 0 2147483647 a1 := sf_leR (Int32.not_lt.mp c37) sf_k0 (sf_any a1)
        refine pm_R_lo pm_M139 (pc_q := 5) rfl rfl rfl ?_
        refine pm_R_lo pm_M139 (pc_q := 6) rfl rfl rfl ?_
        refine pm_R_get pm_M139 (pc_q := 9) (v := .ref 17) rfl rfl T.e16 (by decide) (T.lt (by decide)) rfl rfl ?_
        refine pm_R_get pm_M139 (pc_q := 12) (v := .ref 23) rfl rfl T.e17 (by decide) (T.lt (by decide)) rfl rfl ?_
        refine pm_R_op pm_M139 (pc_q := 13) (st_q := [.int 2, .ref 23, .int a1]) rfl rfl rfl ?_
        obtain ⟨z40, ez41⟩ : ∃ y, f25 (Int32.toNatClampNeg 2) = y := ⟨_, rfl⟩
        have B42 : sf_B 0 2 z40 := ez41 ▸ (b27 2)
        refine pm_R_iald pm_M139 (pc_q := 14) (v := z40) rfl e26 (T.lt (by decide)) rfl ez41 rfl ?_
        refine pm_R_icmp pm_M139 (t := 21) (pc_q := 17) rfl rfl rfl (fun c43 => ?_) (fun c43 => ?_)
        · have B44 : sf_B 0 1 a1 := sf_ltL c43 B39 B42
          have B45 : sf_B 1 2 z40 := sf_ltR c43 B39 B42
          refine pm_R_lo pm_M139 (pc_q := 22) rfl rfl rfl ?_
          refine pm_R_get pm_M139 (pc_q := 25) (v := .ref 17) rfl rfl T.e16 (by decide) (T.lt (by decide)) rfl rfl ?_
          refine pm_R_get pm_M139 (pc_q := 28) (v := .ref 21) rfl rfl T.e17 (by decide) (T.lt (by decide)) rfl rfl ?_
          refine pm_R_lo pm_M139 (pc_q := 29) rfl rfl rfl ?_
          obtain ⟨f46, e47, b48⟩ := T.C 21 (by decide) (by decide)
          obtain ⟨l49, hx50⟩ := cl_there2 T e26 e47 ez41 c43 B44 (by decide)
          have hk51 := b48 _ _ hx50
          refine pm_R_aald pm_M139 (pc_q := 30) (v := .ref l49) rfl e47 (by decide) (by decide) (by decide) (T.lt (by decide)) (sf_in B44 (by decide) (by decide)) (by rw [hx50]; rfl) rfl ?_
          refine pm_R_ret pm_M139 (r := some (.ref l49)) rfl rfl ?_
          show pm_R _ 148 12 [.ref 16, .int a0, .int a1, .int a2, .int a3, .int a4, .ref l34, pm_no] [.ref l49] _ _
          refine pm_R_lo pm_M148 (pc_q := 14) (ls_q := [.ref 16, .int a0, .int a1, .int a2, .int a3, .int a4, .ref l34, .ref l49]) (st_q := []) rfl rfl rfl ?_
          refine pm_R_lo pm_M148 (pc_q := 16) rfl rfl rfl ?_
          refine pm_R_br pm_M148 (pc_q := 19) rfl rfl ?_
          refine pm_R_lo pm_M148 (pc_q := 21) rfl rfl rfl ?_
          refine pm_R_br pm_M148 (pc_q := 24) rfl rfl ?_
          refine pm_R_lo pm_M148 (pc_q := 26) rfl rfl rfl ?_
          refine pm_R_lo pm_M148 (pc_q := 27) rfl rfl rfl ?_
          refine pm_R_lo pm_M148 (pc_q := 29) rfl rfl rfl ?_
          obtain ⟨s52, n53, fd54, fg55, fs56, h57, h58, h59, eE60, eE61, eE62, eE63, b64⟩ := (G.2.2.2.1 l49 hk51).2.2.2
          have kq65 := G.2.2.2.1 l49 hk51
          refine pm_R_cv pm_M148 (pc_q := 32) (a := l49) (ra := [.int a3, .int a2]) (rest := []) (ls_q := [.ref l49, .int a2, .int a3]) rfl rfl (Or.inl rfl) pm_M145 (T.im hk51 (by decide) (by decide) eE60) rfl (G.ge hk51 (by decide)) (T.al hk51 (by decide)) rfl rfl (Nat.le_of_ble_eq_true rfl) rfl rfl ?_
          refine pm_R_lo pm_M145 (pc_q := 1) rfl rfl rfl ?_
          refine pm_R_lo pm_M145 (pc_q := 2) rfl rfl rfl ?_
          refine pm_R_cv pm_M145 (pc_q := 5) (a := l49) (ra := [.int a3]) (rest := []) (ls_q := [.ref l49, .int a3]) rfl rfl (Or.inl rfl) pm_M143 (T.im hk51 (by decide) (by decide) eE60) rfl (G.ge hk51 (by decide)) (T.al hk51 (by decide)) rfl rfl (Nat.le_of_ble_eq_true rfl) rfl rfl ?_
          refine pm_R_lo pm_M143 (pc_q := 1) rfl rfl rfl ?_
          refine pm_R_ifc pm_M143 (t := 16) (pc_q := 4) rfl rfl rfl (fun c66 => ?_) (fun c66 => ?_)
          · have B67 : sf_B (-2147483648) (-1) a3 := sf_ltL c66 (sf_any a3) sf_k0
            refine pm_R_op pm_M143 (pc_q := 17) (st_q := [.int 0]) rfl rfl rfl ?_
            refine pm_R_ret pm_M143 (r := some (.int 0)) rfl rfl ?_
            show pm_R _ 145 5 [.ref l49, .int a2, .int a3] [.int 0] _ _
            refine pm_R_br pm_M145 (pc_q := 30) (st_q := []) rfl rfl ?_
            refine pm_R_op pm_M145 (pc_q := 31) (st_q := [.int 0]) rfl rfl rfl ?_
            refine pm_R_ret pm_M145 (r := some (.int 0)) rfl rfl ?_
            show pm_R _ 148 32 [.ref 16, .int a0, .int a1, .int a2, .int a3, .int a4, .ref l34, .ref l49] [.int 0] _ _
            refine pm_R_br pm_M148 (pc_q := 35) (st_q := []) rfl rfl ?_
            refine pm_R_op pm_M148 (pc_q := 37) (st_q := [.int (-2)]) rfl rfl rfl ?_
            exact pm_R_ret pm_M148 (r := some (.int (-2))) rfl rfl (K (-2) m h T (cl_F.refl (ck := ck) (A := [32, 38, 39]) (n := 0) (s := 0) T.1) (rf_W.refl [] m) (sf_weak sf_kn2 (by decide) (by decide)))
          · have B68 : sf_B 0 2147483647 a3 := sf_leR (Int32.not_lt.mp c66) sf_k0 (sf_any a3)
            refine pm_R_lo pm_M143 (pc_q := 5) rfl rfl rfl ?_
            refine pm_R_lo pm_M143 (pc_q := 6) rfl rfl rfl ?_
            refine pm_R_get pm_M143 (pc_q := 9) (v := .int (Int32.ofNat s52)) rfl rfl (T.im hk51 (by decide) (by decide) eE60) (G.ge hk51 (by decide)) (T.al hk51 (by decide)) rfl rfl ?_
            refine pm_R_icmp pm_M143 (t := 16) (pc_q := 12) rfl rfl rfl (fun c69 => ?_) (fun c69 => ?_)
            · have B70 : sf_B 1 2147483647 a3 := sf_leR c69 (sf_ofB1 h58 h57 (by decide)) B68
              refine pm_R_op pm_M143 (pc_q := 17) (st_q := [.int 0]) rfl rfl rfl ?_
              refine pm_R_ret pm_M143 (r := some (.int 0)) rfl rfl ?_
              show pm_R _ 145 5 [.ref l49, .int a2, .int a3] [.int 0] _ _
              refine pm_R_br pm_M145 (pc_q := 30) (st_q := []) rfl rfl ?_
              refine pm_R_op pm_M145 (pc_q := 31) (st_q := [.int 0]) rfl rfl rfl ?_
              refine pm_R_ret pm_M145 (r := some (.int 0)) rfl rfl ?_
              show pm_R _ 148 32 [.ref 16, .int a0, .int a1, .int a2, .int a3, .int a4, .ref l34, .ref l49] [.int 0] _ _
              refine pm_R_br pm_M148 (pc_q := 35) (st_q := []) rfl rfl ?_
              refine pm_R_op pm_M148 (pc_q := 37) (st_q := [.int (-2)]) rfl rfl rfl ?_
              exact pm_R_ret pm_M148 (r := some (.int (-2))) rfl rfl (K (-2) m h T (cl_F.refl (ck := ck) (A := [32, 38, 39]) (n := 0) (s := 0) T.1) (rf_W.refl [] m) (sf_weak sf_kn2 (by decide) (by decide)))
            · have B71 : sf_B 0 5 a3 := sf_ltL (Int32.not_le.mp c69) B68 (sf_ofB1 h58 h57 (by decide))
              refine pm_R_op pm_M143 (pc_q := 13) (st_q := [.int 1]) rfl rfl rfl ?_
              refine pm_R_br pm_M143 (pc_q := 17) rfl rfl ?_
              refine pm_R_ret pm_M143 (r := some (.int 1)) rfl rfl ?_
              show pm_R _ 145 5 [.ref l49, .int a2, .int a3] [.int 1] _ _
              refine pm_R_br pm_M145 (pc_q := 8) (st_q := []) rfl rfl ?_
              refine pm_R_lo pm_M145 (pc_q := 9) rfl rfl rfl ?_
              refine pm_R_lo pm_M145 (pc_q := 10) rfl rfl rfl ?_
              refine pm_R_icmp pm_M145 (t := 30) (pc_q := 13) rfl rfl rfl (fun c72 => ?_) (fun c72 => ?_)
              · have B73 : sf_B 0 5 a2 := sf_eqL c72 B71
                refine pm_R_op pm_M145 (pc_q := 31) (st_q := [.int 0]) rfl rfl rfl ?_
                refine pm_R_ret pm_M145 (r := some (.int 0)) rfl rfl ?_
                show pm_R _ 148 32 [.ref 16, .int a0, .int a1, .int a2, .int a3, .int a4, .ref l34, .ref l49] [.int 0] _ _
                refine pm_R_br pm_M148 (pc_q := 35) (st_q := []) rfl rfl ?_
                refine pm_R_op pm_M148 (pc_q := 37) (st_q := [.int (-2)]) rfl rfl rfl ?_
                exact pm_R_ret pm_M148 (r := some (.int (-2))) rfl rfl (K (-2) m h T (cl_F.refl (ck := ck) (A := [32, 38, 39]) (n := 0) (s := 0) T.1) (rf_W.refl [] m) (sf_weak sf_kn2 (by decide) (by decide)))
              · skip
                refine pm_R_lo pm_M145 (pc_q := 14) rfl rfl rfl ?_
                refine pm_R_op pm_M145 (pc_q := 15) (st_q := [.int (-1), .int a2]) rfl rfl rfl ?_
                refine pm_R_icmp pm_M145 (t := 26) (pc_q := 18) rfl rfl rfl (fun c74 => ?_) (fun c74 => ?_)
                · have B75 : sf_B (-1) (-1) a2 := sf_eqL c74 sf_kn1
                  refine pm_R_op pm_M145 (pc_q := 27) (st_q := [.int 1]) rfl rfl rfl ?_
                  refine pm_R_br pm_M145 (pc_q := 31) rfl rfl ?_
                  refine pm_R_ret pm_M145 (r := some (.int 1)) rfl rfl ?_
                  show pm_R _ 148 32 [.ref 16, .int a0, .int a1, .int a2, .int a3, .int a4, .ref l34, .ref l49] [.int 1] _ _
                  refine pm_R_br pm_M148 (pc_q := 38) (st_q := []) rfl rfl ?_
                  refine pm_R_lo pm_M148 (pc_q := 39) rfl rfl rfl ?_
                  refine pm_R_lo pm_M148 (pc_q := 41) rfl rfl rfl ?_
                  refine pm_R_lo pm_M148 (pc_q := 43) rfl rfl rfl ?_
                  refine pm_R_lo pm_M148 (pc_q := 44) rfl rfl rfl ?_
                  refine pm_R_lo pm_M148 (pc_q := 46) rfl rfl rfl ?_
                  refine pm_R_cv pm_M148 (pc_q := 49) (a := 16) (ra := [.int a3, .int a2, .ref l49, .ref l34]) (rest := []) (ls_q := [.ref 16, .ref l34, .ref l49, .int a2, .int a3, pm_no, pm_no]) rfl rfl (Or.inl rfl) pm_M149 T.e16 rfl (by decide) (T.lt (by decide)) rfl rfl (Nat.le_of_ble_eq_true rfl) rfl rfl ?_
                  refine cl_c149 (d := d + 0) G T hk36 hk51 (sf_weak B75 (by decide) (by decide)) B71 (fun r76 m78 h79 T80 F81 W82 => ?_)
                  have F83 := (cl_F.refl (ck := ck) (A := [32, 38, 39]) (n := 0) (s := 0) T.1).trans (N := 0) (S := 0) F81 (by decide) (by decide) (by decide)
                  have W84 : rf_W [] m m78 := (rf_W.refl [] m).trans W82 (by decide)
                  show pm_R _ 148 49 [.ref 16, .int a0, .int a1, .int a2, .int a3, .int a4, .ref l34, .ref l49] [.long r76] _ _
                  refine pm_R_lo pm_M148 (pc_q := 51) rfl rfl rfl ?_
                  refine pm_R_cs pm_M148 (pc_q := 54) (ra := [.int a4, .long r76]) (rest := []) (ls_q := [.long r76, pm_no, .int a4, pm_no, pm_no, pm_no]) rfl rfl (Or.inl rfl) pm_M107 rfl rfl (Nat.le_of_ble_eq_true rfl) rfl rfl ?_
                  refine cl_c107 (d := d + 3)  (fun r85 B86 => ?_)
                  show pm_R _ 148 54 [.ref 16, .int a0, .int a1, .int a2, .int a3, .int a4, .ref l34, .ref l49] [.int r85] _ _
                  exact pm_R_ret pm_M148 (r := some (.int r85)) rfl (pm_ret_i _) (K r85 m78 h79 T80 F83 W84 B86)
                · skip
                  refine pm_R_lo pm_M145 (pc_q := 19) rfl rfl rfl ?_
                  refine pm_R_lo pm_M145 (pc_q := 20) rfl rfl rfl ?_
                  refine pm_R_cv pm_M145 (pc_q := 23) (a := l49) (ra := [.int a2]) (rest := []) (ls_q := [.ref l49, .int a2]) rfl rfl (Or.inl rfl) pm_M143 (T.im hk51 (by decide) (by decide) eE60) rfl (G.ge hk51 (by decide)) (T.al hk51 (by decide)) rfl rfl (Nat.le_of_ble_eq_true rfl) rfl rfl ?_
                  refine pm_R_lo pm_M143 (pc_q := 1) rfl rfl rfl ?_
                  refine pm_R_ifc pm_M143 (t := 16) (pc_q := 4) rfl rfl rfl (fun c92 => ?_) (fun c92 => ?_)
                  · have B93 : sf_B (-2147483648) (-1) a2 := sf_ltL c92 (sf_any a2) sf_k0
                    refine pm_R_op pm_M143 (pc_q := 17) (st_q := [.int 0]) rfl rfl rfl ?_
                    refine pm_R_ret pm_M143 (r := some (.int 0)) rfl rfl ?_
                    show pm_R _ 145 23 [.ref l49, .int a2, .int a3] [.int 0] _ _
                    refine pm_R_br pm_M145 (pc_q := 30) (st_q := []) rfl rfl ?_
                    refine pm_R_op pm_M145 (pc_q := 31) (st_q := [.int 0]) rfl rfl rfl ?_
                    refine pm_R_ret pm_M145 (r := some (.int 0)) rfl rfl ?_
                    show pm_R _ 148 32 [.ref 16, .int a0, .int a1, .int a2, .int a3, .int a4, .ref l34, .ref l49] [.int 0] _ _
                    refine pm_R_br pm_M148 (pc_q := 35) (st_q := []) rfl rfl ?_
                    refine pm_R_op pm_M148 (pc_q := 37) (st_q := [.int (-2)]) rfl rfl rfl ?_
                    exact pm_R_ret pm_M148 (r := some (.int (-2))) rfl rfl (K (-2) m h T (cl_F.refl (ck := ck) (A := [32, 38, 39]) (n := 0) (s := 0) T.1) (rf_W.refl [] m) (sf_weak sf_kn2 (by decide) (by decide)))
                  · have B94 : sf_B 0 2147483647 a2 := sf_leR (Int32.not_lt.mp c92) sf_k0 (sf_any a2)
                    refine pm_R_lo pm_M143 (pc_q := 5) rfl rfl rfl ?_
                    refine pm_R_lo pm_M143 (pc_q := 6) rfl rfl rfl ?_
                    refine pm_R_get pm_M143 (pc_q := 9) (v := .int (Int32.ofNat s52)) rfl rfl (T.im hk51 (by decide) (by decide) eE60) (G.ge hk51 (by decide)) (T.al hk51 (by decide)) rfl rfl ?_
                    refine pm_R_icmp pm_M143 (t := 16) (pc_q := 12) rfl rfl rfl (fun c95 => ?_) (fun c95 => ?_)
                    · have B96 : sf_B 1 2147483647 a2 := sf_leR c95 (sf_ofB1 h58 h57 (by decide)) B94
                      refine pm_R_op pm_M143 (pc_q := 17) (st_q := [.int 0]) rfl rfl rfl ?_
                      refine pm_R_ret pm_M143 (r := some (.int 0)) rfl rfl ?_
                      show pm_R _ 145 23 [.ref l49, .int a2, .int a3] [.int 0] _ _
                      refine pm_R_br pm_M145 (pc_q := 30) (st_q := []) rfl rfl ?_
                      refine pm_R_op pm_M145 (pc_q := 31) (st_q := [.int 0]) rfl rfl rfl ?_
                      refine pm_R_ret pm_M145 (r := some (.int 0)) rfl rfl ?_
                      show pm_R _ 148 32 [.ref 16, .int a0, .int a1, .int a2, .int a3, .int a4, .ref l34, .ref l49] [.int 0] _ _
                      refine pm_R_br pm_M148 (pc_q := 35) (st_q := []) rfl rfl ?_
                      refine pm_R_op pm_M148 (pc_q := 37) (st_q := [.int (-2)]) rfl rfl rfl ?_
                      exact pm_R_ret pm_M148 (r := some (.int (-2))) rfl rfl (K (-2) m h T (cl_F.refl (ck := ck) (A := [32, 38, 39]) (n := 0) (s := 0) T.1) (rf_W.refl [] m) (sf_weak sf_kn2 (by decide) (by decide)))
                    · have B97 : sf_B 0 5 a2 := sf_ltL (Int32.not_le.mp c95) B94 (sf_ofB1 h58 h57 (by decide))
                      refine pm_R_op pm_M143 (pc_q := 13) (st_q := [.int 1]) rfl rfl rfl ?_
                      refine pm_R_br pm_M143 (pc_q := 17) rfl rfl ?_
                      refine pm_R_ret pm_M143 (r := some (.int 1)) rfl rfl ?_
                      show pm_R _ 145 23 [.ref l49, .int a2, .int a3] [.int 1] _ _
                      refine pm_R_br pm_M145 (pc_q := 26) (st_q := []) rfl rfl ?_
                      refine pm_R_op pm_M145 (pc_q := 27) (st_q := [.int 1]) rfl rfl rfl ?_
                      refine pm_R_br pm_M145 (pc_q := 31) rfl rfl ?_
                      refine pm_R_ret pm_M145 (r := some (.int 1)) rfl rfl ?_
                      show pm_R _ 148 32 [.ref 16, .int a0, .int a1, .int a2, .int a3, .int a4, .ref l34, .ref l49] [.int 1] _ _
                      refine pm_R_br pm_M148 (pc_q := 38) (st_q := []) rfl rfl ?_
                      refine pm_R_lo pm_M148 (pc_q := 39) rfl rfl rfl ?_
                      refine pm_R_lo pm_M148 (pc_q := 41) rfl rfl rfl ?_
                      refine pm_R_lo pm_M148 (pc_q := 43) rfl rfl rfl ?_
                      refine pm_R_lo pm_M148 (pc_q := 44) rfl rfl rfl ?_
                      refine pm_R_lo pm_M148 (pc_q := 46) rfl rfl rfl ?_
                      refine pm_R_cv pm_M148 (pc_q := 49) (a := 16) (ra := [.int a3, .int a2, .ref l49, .ref l34]) (rest := []) (ls_q := [.ref 16, .ref l34, .ref l49, .int a2, .int a3, pm_no, pm_no]) rfl rfl (Or.inl rfl) pm_M149 T.e16 rfl (by decide) (T.lt (by decide)) rfl rfl (Nat.le_of_ble_eq_true rfl) rfl rfl ?_
                      refine cl_c149 (d := d + 0) G T hk36 hk51 (sf_weak B97 (by decide) (by decide)) B71 (fun r98 m100 h101 T102 F103 W104 => ?_)
                      have F105 := (cl_F.refl (ck := ck) (A := [32, 38, 39]) (n := 0) (s := 0) T.1).trans (N := 0) (S := 0) F103 (by decide) (by decide) (by decide)
                      have W106 : rf_W [] m m100 := (rf_W.refl [] m).trans W104 (by decide)
                      show pm_R _ 148 49 [.ref 16, .int a0, .int a1, .int a2, .int a3, .int a4, .ref l34, .ref l49] [.long r98] _ _
                      refine pm_R_lo pm_M148 (pc_q := 51) rfl rfl rfl ?_
                      refine pm_R_cs pm_M148 (pc_q := 54) (ra := [.int a4, .long r98]) (rest := []) (ls_q := [.long r98, pm_no, .int a4, pm_no, pm_no, pm_no]) rfl rfl (Or.inl rfl) pm_M107 rfl rfl (Nat.le_of_ble_eq_true rfl) rfl rfl ?_
                      refine cl_c107 (d := d + 3)  (fun r107 B108 => ?_)
                      show pm_R _ 148 54 [.ref 16, .int a0, .int a1, .int a2, .int a3, .int a4, .ref l34, .ref l49] [.int r107] _ _
                      exact pm_R_ret pm_M148 (r := some (.int r107)) rfl (pm_ret_i _) (K r107 m100 h101 T102 F105 W106 B108)
        · skip
          refine pm_R_op pm_M139 (pc_q := 18) (st_q := [.null]) rfl rfl rfl ?_
          refine pm_R_br pm_M139 (pc_q := 30) rfl rfl ?_
          refine pm_R_ret pm_M139 (r := some (.null)) rfl rfl ?_
          show pm_R _ 148 12 [.ref 16, .int a0, .int a1, .int a2, .int a3, .int a4, .ref l34, pm_no] [.null] _ _
          refine pm_R_lo pm_M148 (pc_q := 14) (ls_q := [.ref 16, .int a0, .int a1, .int a2, .int a3, .int a4, .ref l34, .null]) (st_q := []) rfl rfl rfl ?_
          refine pm_R_lo pm_M148 (pc_q := 16) rfl rfl rfl ?_
          refine pm_R_br pm_M148 (pc_q := 19) rfl rfl ?_
          refine pm_R_lo pm_M148 (pc_q := 21) rfl rfl rfl ?_
          refine pm_R_br pm_M148 (pc_q := 35) rfl rfl ?_
          refine pm_R_op pm_M148 (pc_q := 37) (st_q := [.int (-2)]) rfl rfl rfl ?_
          exact pm_R_ret pm_M148 (r := some (.int (-2))) rfl rfl (K (-2) m h T (cl_F.refl (ck := ck) (A := [32, 38, 39]) (n := 0) (s := 0) T.1) (rf_W.refl [] m) (sf_weak sf_kn2 (by decide) (by decide)))
    · skip
      refine pm_R_op pm_M62 (pc_q := 18) (st_q := [.null]) rfl rfl rfl ?_
      refine pm_R_br pm_M62 (pc_q := 30) rfl rfl ?_
      refine pm_R_ret pm_M62 (r := some (.null)) rfl rfl ?_
      show pm_R _ 148 5 [.ref 16, .int a0, .int a1, .int a2, .int a3, .int a4, pm_no, pm_no] [.null] _ _
      refine pm_R_lo pm_M148 (pc_q := 7) (ls_q := [.ref 16, .int a0, .int a1, .int a2, .int a3, .int a4, .null, pm_no]) (st_q := []) rfl rfl rfl ?_
      refine pm_R_lo pm_M148 (pc_q := 8) rfl rfl rfl ?_
      refine pm_R_lo pm_M148 (pc_q := 9) rfl rfl rfl ?_
      refine pm_R_cv pm_M148 (pc_q := 12) (a := 16) (ra := [.int a1]) (rest := []) (ls_q := [.ref 16, .int a1]) rfl rfl (Or.inl rfl) pm_M139 T.e16 rfl (by decide) (T.lt (by decide)) rfl rfl (Nat.le_of_ble_eq_true rfl) rfl rfl ?_
      refine pm_R_lo pm_M139 (pc_q := 1) rfl rfl rfl ?_
      refine pm_R_ifc pm_M139 (t := 17) (pc_q := 4) rfl rfl rfl (fun c114 => ?_) (fun c114 => ?_)
      · have B115 : sf_B (-2147483648) (-1) a1 := sf_ltL c114 (sf_any a1) sf_k0
        refine pm_R_op pm_M139 (pc_q := 18) (st_q := [.null]) rfl rfl rfl ?_
        refine pm_R_br pm_M139 (pc_q := 30) rfl rfl ?_
        refine pm_R_ret pm_M139 (r := some (.null)) rfl rfl ?_
        show pm_R _ 148 12 [.ref 16, .int a0, .int a1, .int a2, .int a3, .int a4, .null, pm_no] [.null] _ _
        refine pm_R_lo pm_M148 (pc_q := 14) (ls_q := [.ref 16, .int a0, .int a1, .int a2, .int a3, .int a4, .null, .null]) (st_q := []) rfl rfl rfl ?_
        refine pm_R_lo pm_M148 (pc_q := 16) rfl rfl rfl ?_
        refine pm_R_br pm_M148 (pc_q := 35) rfl rfl ?_
        refine pm_R_op pm_M148 (pc_q := 37) (st_q := [.int (-2)]) rfl rfl rfl ?_
        exact pm_R_ret pm_M148 (r := some (.int (-2))) rfl rfl (K (-2) m h T (cl_F.refl (ck := ck) (A := [32, 38, 39]) (n := 0) (s := 0) T.1) (rf_W.refl [] m) (sf_weak sf_kn2 (by decide) (by decide)))
      · have B116 : sf_B 0 2147483647 a1 := sf_leR (Int32.not_lt.mp c114) sf_k0 (sf_any a1)
        refine pm_R_lo pm_M139 (pc_q := 5) rfl rfl rfl ?_
        refine pm_R_lo pm_M139 (pc_q := 6) rfl rfl rfl ?_
        refine pm_R_get pm_M139 (pc_q := 9) (v := .ref 17) rfl rfl T.e16 (by decide) (T.lt (by decide)) rfl rfl ?_
        refine pm_R_get pm_M139 (pc_q := 12) (v := .ref 23) rfl rfl T.e17 (by decide) (T.lt (by decide)) rfl rfl ?_
        refine pm_R_op pm_M139 (pc_q := 13) (st_q := [.int 2, .ref 23, .int a1]) rfl rfl rfl ?_
        obtain ⟨z117, ez118⟩ : ∃ y, f25 (Int32.toNatClampNeg 2) = y := ⟨_, rfl⟩
        have B119 : sf_B 0 2 z117 := ez118 ▸ (b27 2)
        refine pm_R_iald pm_M139 (pc_q := 14) (v := z117) rfl e26 (T.lt (by decide)) rfl ez118 rfl ?_
        refine pm_R_icmp pm_M139 (t := 21) (pc_q := 17) rfl rfl rfl (fun c120 => ?_) (fun c120 => ?_)
        · have B121 : sf_B 0 1 a1 := sf_ltL c120 B116 B119
          have B122 : sf_B 1 2 z117 := sf_ltR c120 B116 B119
          refine pm_R_lo pm_M139 (pc_q := 22) rfl rfl rfl ?_
          refine pm_R_get pm_M139 (pc_q := 25) (v := .ref 17) rfl rfl T.e16 (by decide) (T.lt (by decide)) rfl rfl ?_
          refine pm_R_get pm_M139 (pc_q := 28) (v := .ref 21) rfl rfl T.e17 (by decide) (T.lt (by decide)) rfl rfl ?_
          refine pm_R_lo pm_M139 (pc_q := 29) rfl rfl rfl ?_
          obtain ⟨f123, e124, b125⟩ := T.C 21 (by decide) (by decide)
          obtain ⟨l126, hx127⟩ := cl_there2 T e26 e124 ez118 c120 B121 (by decide)
          have hk128 := b125 _ _ hx127
          refine pm_R_aald pm_M139 (pc_q := 30) (v := .ref l126) rfl e124 (by decide) (by decide) (by decide) (T.lt (by decide)) (sf_in B121 (by decide) (by decide)) (by rw [hx127]; rfl) rfl ?_
          refine pm_R_ret pm_M139 (r := some (.ref l126)) rfl rfl ?_
          show pm_R _ 148 12 [.ref 16, .int a0, .int a1, .int a2, .int a3, .int a4, .null, pm_no] [.ref l126] _ _
          refine pm_R_lo pm_M148 (pc_q := 14) (ls_q := [.ref 16, .int a0, .int a1, .int a2, .int a3, .int a4, .null, .ref l126]) (st_q := []) rfl rfl rfl ?_
          refine pm_R_lo pm_M148 (pc_q := 16) rfl rfl rfl ?_
          refine pm_R_br pm_M148 (pc_q := 35) rfl rfl ?_
          refine pm_R_op pm_M148 (pc_q := 37) (st_q := [.int (-2)]) rfl rfl rfl ?_
          exact pm_R_ret pm_M148 (r := some (.int (-2))) rfl rfl (K (-2) m h T (cl_F.refl (ck := ck) (A := [32, 38, 39]) (n := 0) (s := 0) T.1) (rf_W.refl [] m) (sf_weak sf_kn2 (by decide) (by decide)))
        · skip
          refine pm_R_op pm_M139 (pc_q := 18) (st_q := [.null]) rfl rfl rfl ?_
          refine pm_R_br pm_M139 (pc_q := 30) rfl rfl ?_
          refine pm_R_ret pm_M139 (r := some (.null)) rfl rfl ?_
          show pm_R _ 148 12 [.ref 16, .int a0, .int a1, .int a2, .int a3, .int a4, .null, pm_no] [.null] _ _
          refine pm_R_lo pm_M148 (pc_q := 14) (ls_q := [.ref 16, .int a0, .int a1, .int a2, .int a3, .int a4, .null, .null]) (st_q := []) rfl rfl rfl ?_
          refine pm_R_lo pm_M148 (pc_q := 16) rfl rfl rfl ?_
          refine pm_R_br pm_M148 (pc_q := 35) rfl rfl ?_
          refine pm_R_op pm_M148 (pc_q := 37) (st_q := [.int (-2)]) rfl rfl rfl ?_
          exact pm_R_ret pm_M148 (r := some (.int (-2))) rfl rfl (K (-2) m h T (cl_F.refl (ck := ck) (A := [32, 38, 39]) (n := 0) (s := 0) T.1) (rf_W.refl [] m) (sf_weak sf_kn2 (by decide) (by decide)))

set_option maxRecDepth 100000 in
set_option maxHeartbeats 4000000 in
/-- SilentTable.sure -/
theorem cl_c150 {d : Nat} {ck : cl_K} {E : Nat → pm_E} {m : Nat → Int32} {o : Nat → Option Nat} {h : pm_H} {Q : Option Value → pm_H → Prop} {a0 : Int32} {a1 : Int32} {a2 : Int32} (G : cl_G ck E) (T : cl_T ck E m o h)  (K : ∀ (r : Int32) (m_q : Nat → Int32) (h_q : pm_H), cl_T ck E m_q o h_q → cl_F ck [32, 38, 39] 0 0 h h_q → rf_W [] m m_q → Q (some (.int r)) h_q) : pm_R (d + 5) 150 0 [.ref 16, .int a0, .int a1, .int a2, pm_no, pm_no, pm_no, pm_no, pm_no, pm_no] [] h Q := by
  refine pm_R_lo pm_M150 (pc_q := 1) rfl rfl rfl ?_
  refine pm_R_lo pm_M150 (pc_q := 2) rfl rfl rfl ?_
  refine pm_R_cv pm_M150 (pc_q := 5) (a := 16) (ra := [.int a0]) (rest := []) (ls_q := [.ref 16, .int a0]) rfl rfl (Or.inl rfl) pm_M62 T.e16 rfl (by decide) (T.lt (by decide)) rfl rfl (Nat.le_of_ble_eq_true rfl) rfl rfl ?_
  refine pm_R_lo pm_M62 (pc_q := 1) rfl rfl rfl ?_
  refine pm_R_ifc pm_M62 (t := 17) (pc_q := 4) rfl rfl rfl (fun c1 => ?_) (fun c1 => ?_)
  · have B2 : sf_B (-2147483648) (-1) a0 := sf_ltL c1 (sf_any a0) sf_k0
    refine pm_R_op pm_M62 (pc_q := 18) (st_q := [.null]) rfl rfl rfl ?_
    refine pm_R_br pm_M62 (pc_q := 30) rfl rfl ?_
    refine pm_R_ret pm_M62 (r := some (.null)) rfl rfl ?_
    show pm_R _ 150 5 [.ref 16, .int a0, .int a1, .int a2, pm_no, pm_no, pm_no, pm_no, pm_no, pm_no] [.null] _ _
    refine pm_R_lo pm_M150 (pc_q := 7) (ls_q := [.ref 16, .int a0, .int a1, .int a2, .null, pm_no, pm_no, pm_no, pm_no, pm_no]) (st_q := []) rfl rfl rfl ?_
    refine pm_R_lo pm_M150 (pc_q := 8) rfl rfl rfl ?_
    refine pm_R_lo pm_M150 (pc_q := 9) rfl rfl rfl ?_
    refine pm_R_cv pm_M150 (pc_q := 12) (a := 16) (ra := [.int a1]) (rest := []) (ls_q := [.ref 16, .int a1]) rfl rfl (Or.inl rfl) pm_M139 T.e16 rfl (by decide) (T.lt (by decide)) rfl rfl (Nat.le_of_ble_eq_true rfl) rfl rfl ?_
    refine pm_R_lo pm_M139 (pc_q := 1) rfl rfl rfl ?_
    refine pm_R_ifc pm_M139 (t := 17) (pc_q := 4) rfl rfl rfl (fun c3 => ?_) (fun c3 => ?_)
    · have B4 : sf_B (-2147483648) (-1) a1 := sf_ltL c3 (sf_any a1) sf_k0
      refine pm_R_op pm_M139 (pc_q := 18) (st_q := [.null]) rfl rfl rfl ?_
      refine pm_R_br pm_M139 (pc_q := 30) rfl rfl ?_
      refine pm_R_ret pm_M139 (r := some (.null)) rfl rfl ?_
      show pm_R _ 150 12 [.ref 16, .int a0, .int a1, .int a2, .null, pm_no, pm_no, pm_no, pm_no, pm_no] [.null] _ _
      refine pm_R_lo pm_M150 (pc_q := 14) (ls_q := [.ref 16, .int a0, .int a1, .int a2, .null, .null, pm_no, pm_no, pm_no, pm_no]) (st_q := []) rfl rfl rfl ?_
      refine pm_R_lo pm_M150 (pc_q := 16) rfl rfl rfl ?_
      refine pm_R_br pm_M150 (pc_q := 33) rfl rfl ?_
      refine pm_R_op pm_M150 (pc_q := 34) (st_q := [.int (-1)]) rfl rfl rfl ?_
      exact pm_R_ret pm_M150 (r := some (.int (-1))) rfl rfl (K (-1) m h T (cl_F.refl (ck := ck) (A := [32, 38, 39]) (n := 0) (s := 0) T.1) (rf_W.refl [] m))
    · have B5 : sf_B 0 2147483647 a1 := sf_leR (Int32.not_lt.mp c3) sf_k0 (sf_any a1)
      refine pm_R_lo pm_M139 (pc_q := 5) rfl rfl rfl ?_
      refine pm_R_lo pm_M139 (pc_q := 6) rfl rfl rfl ?_
      refine pm_R_get pm_M139 (pc_q := 9) (v := .ref 17) rfl rfl T.e16 (by decide) (T.lt (by decide)) rfl rfl ?_
      refine pm_R_get pm_M139 (pc_q := 12) (v := .ref 23) rfl rfl T.e17 (by decide) (T.lt (by decide)) rfl rfl ?_
      refine pm_R_op pm_M139 (pc_q := 13) (st_q := [.int 2, .ref 23, .int a1]) rfl rfl rfl ?_
      obtain ⟨f9, e10, b11⟩ := T.C 23 (by decide) (by decide)
      obtain ⟨z6, ez7⟩ : ∃ y, f9 (Int32.toNatClampNeg 2) = y := ⟨_, rfl⟩
      have B8 : sf_B 0 2 z6 := ez7 ▸ (b11 2)
      refine pm_R_iald pm_M139 (pc_q := 14) (v := z6) rfl e10 (T.lt (by decide)) rfl ez7 rfl ?_
      refine pm_R_icmp pm_M139 (t := 21) (pc_q := 17) rfl rfl rfl (fun c12 => ?_) (fun c12 => ?_)
      · have B13 : sf_B 0 1 a1 := sf_ltL c12 B5 B8
        have B14 : sf_B 1 2 z6 := sf_ltR c12 B5 B8
        refine pm_R_lo pm_M139 (pc_q := 22) rfl rfl rfl ?_
        refine pm_R_get pm_M139 (pc_q := 25) (v := .ref 17) rfl rfl T.e16 (by decide) (T.lt (by decide)) rfl rfl ?_
        refine pm_R_get pm_M139 (pc_q := 28) (v := .ref 21) rfl rfl T.e17 (by decide) (T.lt (by decide)) rfl rfl ?_
        refine pm_R_lo pm_M139 (pc_q := 29) rfl rfl rfl ?_
        obtain ⟨f15, e16, b17⟩ := T.C 21 (by decide) (by decide)
        obtain ⟨l18, hx19⟩ := cl_there2 T e10 e16 ez7 c12 B13 (by decide)
        have hk20 := b17 _ _ hx19
        refine pm_R_aald pm_M139 (pc_q := 30) (v := .ref l18) rfl e16 (by decide) (by decide) (by decide) (T.lt (by decide)) (sf_in B13 (by decide) (by decide)) (by rw [hx19]; rfl) rfl ?_
        refine pm_R_ret pm_M139 (r := some (.ref l18)) rfl rfl ?_
        show pm_R _ 150 12 [.ref 16, .int a0, .int a1, .int a2, .null, pm_no, pm_no, pm_no, pm_no, pm_no] [.ref l18] _ _
        refine pm_R_lo pm_M150 (pc_q := 14) (ls_q := [.ref 16, .int a0, .int a1, .int a2, .null, .ref l18, pm_no, pm_no, pm_no, pm_no]) (st_q := []) rfl rfl rfl ?_
        refine pm_R_lo pm_M150 (pc_q := 16) rfl rfl rfl ?_
        refine pm_R_br pm_M150 (pc_q := 33) rfl rfl ?_
        refine pm_R_op pm_M150 (pc_q := 34) (st_q := [.int (-1)]) rfl rfl rfl ?_
        exact pm_R_ret pm_M150 (r := some (.int (-1))) rfl rfl (K (-1) m h T (cl_F.refl (ck := ck) (A := [32, 38, 39]) (n := 0) (s := 0) T.1) (rf_W.refl [] m))
      · skip
        refine pm_R_op pm_M139 (pc_q := 18) (st_q := [.null]) rfl rfl rfl ?_
        refine pm_R_br pm_M139 (pc_q := 30) rfl rfl ?_
        refine pm_R_ret pm_M139 (r := some (.null)) rfl rfl ?_
        show pm_R _ 150 12 [.ref 16, .int a0, .int a1, .int a2, .null, pm_no, pm_no, pm_no, pm_no, pm_no] [.null] _ _
        refine pm_R_lo pm_M150 (pc_q := 14) (ls_q := [.ref 16, .int a0, .int a1, .int a2, .null, .null, pm_no, pm_no, pm_no, pm_no]) (st_q := []) rfl rfl rfl ?_
        refine pm_R_lo pm_M150 (pc_q := 16) rfl rfl rfl ?_
        refine pm_R_br pm_M150 (pc_q := 33) rfl rfl ?_
        refine pm_R_op pm_M150 (pc_q := 34) (st_q := [.int (-1)]) rfl rfl rfl ?_
        exact pm_R_ret pm_M150 (r := some (.int (-1))) rfl rfl (K (-1) m h T (cl_F.refl (ck := ck) (A := [32, 38, 39]) (n := 0) (s := 0) T.1) (rf_W.refl [] m))
  · have B21 : sf_B 0 2147483647 a0 := sf_leR (Int32.not_lt.mp c1) sf_k0 (sf_any a0)
    refine pm_R_lo pm_M62 (pc_q := 5) rfl rfl rfl ?_
    refine pm_R_lo pm_M62 (pc_q := 6) rfl rfl rfl ?_
    refine pm_R_get pm_M62 (pc_q := 9) (v := .ref 17) rfl rfl T.e16 (by decide) (T.lt (by decide)) rfl rfl ?_
    refine pm_R_get pm_M62 (pc_q := 12) (v := .ref 23) rfl rfl T.e17 (by decide) (T.lt (by decide)) rfl rfl ?_
    refine pm_R_op pm_M62 (pc_q := 13) (st_q := [.int 0, .ref 23, .int a0]) rfl rfl rfl ?_
    obtain ⟨f25, e26, b27⟩ := T.C 23 (by decide) (by decide)
    obtain ⟨z22, ez23⟩ : ∃ y, f25 (Int32.toNatClampNeg 0) = y := ⟨_, rfl⟩
    have B24 : sf_B 0 2 z22 := ez23 ▸ (b27 0)
    refine pm_R_iald pm_M62 (pc_q := 14) (v := z22) rfl e26 (T.lt (by decide)) rfl ez23 rfl ?_
    refine pm_R_icmp pm_M62 (t := 21) (pc_q := 17) rfl rfl rfl (fun c28 => ?_) (fun c28 => ?_)
    · have B29 : sf_B 0 1 a0 := sf_ltL c28 B21 B24
      have B30 : sf_B 1 2 z22 := sf_ltR c28 B21 B24
      refine pm_R_lo pm_M62 (pc_q := 22) rfl rfl rfl ?_
      refine pm_R_get pm_M62 (pc_q := 25) (v := .ref 17) rfl rfl T.e16 (by decide) (T.lt (by decide)) rfl rfl ?_
      refine pm_R_get pm_M62 (pc_q := 28) (v := .ref 19) rfl rfl T.e17 (by decide) (T.lt (by decide)) rfl rfl ?_
      refine pm_R_lo pm_M62 (pc_q := 29) rfl rfl rfl ?_
      obtain ⟨f31, e32, b33⟩ := T.C 19 (by decide) (by decide)
      obtain ⟨l34, hx35⟩ := cl_there0 T e26 e32 ez23 c28 B29 (by decide)
      have hk36 := b33 _ _ hx35
      refine pm_R_aald pm_M62 (pc_q := 30) (v := .ref l34) rfl e32 (by decide) (by decide) (by decide) (T.lt (by decide)) (sf_in B29 (by decide) (by decide)) (by rw [hx35]; rfl) rfl ?_
      refine pm_R_ret pm_M62 (r := some (.ref l34)) rfl rfl ?_
      show pm_R _ 150 5 [.ref 16, .int a0, .int a1, .int a2, pm_no, pm_no, pm_no, pm_no, pm_no, pm_no] [.ref l34] _ _
      refine pm_R_lo pm_M150 (pc_q := 7) (ls_q := [.ref 16, .int a0, .int a1, .int a2, .ref l34, pm_no, pm_no, pm_no, pm_no, pm_no]) (st_q := []) rfl rfl rfl ?_
      refine pm_R_lo pm_M150 (pc_q := 8) rfl rfl rfl ?_
      refine pm_R_lo pm_M150 (pc_q := 9) rfl rfl rfl ?_
      refine pm_R_cv pm_M150 (pc_q := 12) (a := 16) (ra := [.int a1]) (rest := []) (ls_q := [.ref 16, .int a1]) rfl rfl (Or.inl rfl) pm_M139 T.e16 rfl (by decide) (T.lt (by decide)) rfl rfl (Nat.le_of_ble_eq_true rfl) rfl rfl ?_
      refine pm_R_lo pm_M139 (pc_q := 1) rfl rfl rfl ?_
      refine pm_R_ifc pm_M139 (t := 17) (pc_q := 4) rfl rfl rfl (fun c37 => ?_) (fun c37 => ?_)
      · have B38 : sf_B (-2147483648) (-1) a1 := sf_ltL c37 (sf_any a1) sf_k0
        refine pm_R_op pm_M139 (pc_q := 18) (st_q := [.null]) rfl rfl rfl ?_
        refine pm_R_br pm_M139 (pc_q := 30) rfl rfl ?_
        refine pm_R_ret pm_M139 (r := some (.null)) rfl rfl ?_
        show pm_R _ 150 12 [.ref 16, .int a0, .int a1, .int a2, .ref l34, pm_no, pm_no, pm_no, pm_no, pm_no] [.null] _ _
        refine pm_R_lo pm_M150 (pc_q := 14) (ls_q := [.ref 16, .int a0, .int a1, .int a2, .ref l34, .null, pm_no, pm_no, pm_no, pm_no]) (st_q := []) rfl rfl rfl ?_
        refine pm_R_lo pm_M150 (pc_q := 16) rfl rfl rfl ?_
        refine pm_R_br pm_M150 (pc_q := 19) rfl rfl ?_
        refine pm_R_lo pm_M150 (pc_q := 21) rfl rfl rfl ?_
        refine pm_R_br pm_M150 (pc_q := 33) rfl rfl ?_
        refine pm_R_op pm_M150 (pc_q := 34) (st_q := [.int (-1)]) rfl rfl rfl ?_
        exact pm_R_ret pm_M150 (r := some (.int (-1))) rfl rfl (K (-1) m h T (cl_F.refl (ck := ck) (A := [32, 38, 39]) (n := 0) (s := 0) T.1) (rf_W.refl [] m))
      · have B39 : sf_B 0 2147483647 a1 := sf_leR (Int32.not_lt.mp c37) sf_k0 (sf_any a1)
        refine pm_R_lo pm_M139 (pc_q := 5) rfl rfl rfl ?_
        refine pm_R_lo pm_M139 (pc_q := 6) rfl rfl rfl ?_
        refine pm_R_get pm_M139 (pc_q := 9) (v := .ref 17) rfl rfl T.e16 (by decide) (T.lt (by decide)) rfl rfl ?_
        refine pm_R_get pm_M139 (pc_q := 12) (v := .ref 23) rfl rfl T.e17 (by decide) (T.lt (by decide)) rfl rfl ?_
        refine pm_R_op pm_M139 (pc_q := 13) (st_q := [.int 2, .ref 23, .int a1]) rfl rfl rfl ?_
        obtain ⟨z40, ez41⟩ : ∃ y, f25 (Int32.toNatClampNeg 2) = y := ⟨_, rfl⟩
        have B42 : sf_B 0 2 z40 := ez41 ▸ (b27 2)
        refine pm_R_iald pm_M139 (pc_q := 14) (v := z40) rfl e26 (T.lt (by decide)) rfl ez41 rfl ?_
        refine pm_R_icmp pm_M139 (t := 21) (pc_q := 17) rfl rfl rfl (fun c43 => ?_) (fun c43 => ?_)
        · have B44 : sf_B 0 1 a1 := sf_ltL c43 B39 B42
          have B45 : sf_B 1 2 z40 := sf_ltR c43 B39 B42
          refine pm_R_lo pm_M139 (pc_q := 22) rfl rfl rfl ?_
          refine pm_R_get pm_M139 (pc_q := 25) (v := .ref 17) rfl rfl T.e16 (by decide) (T.lt (by decide)) rfl rfl ?_
          refine pm_R_get pm_M139 (pc_q := 28) (v := .ref 21) rfl rfl T.e17 (by decide) (T.lt (by decide)) rfl rfl ?_
          refine pm_R_lo pm_M139 (pc_q := 29) rfl rfl rfl ?_
          obtain ⟨f46, e47, b48⟩ := T.C 21 (by decide) (by decide)
          obtain ⟨l49, hx50⟩ := cl_there2 T e26 e47 ez41 c43 B44 (by decide)
          have hk51 := b48 _ _ hx50
          refine pm_R_aald pm_M139 (pc_q := 30) (v := .ref l49) rfl e47 (by decide) (by decide) (by decide) (T.lt (by decide)) (sf_in B44 (by decide) (by decide)) (by rw [hx50]; rfl) rfl ?_
          refine pm_R_ret pm_M139 (r := some (.ref l49)) rfl rfl ?_
          show pm_R _ 150 12 [.ref 16, .int a0, .int a1, .int a2, .ref l34, pm_no, pm_no, pm_no, pm_no, pm_no] [.ref l49] _ _
          refine pm_R_lo pm_M150 (pc_q := 14) (ls_q := [.ref 16, .int a0, .int a1, .int a2, .ref l34, .ref l49, pm_no, pm_no, pm_no, pm_no]) (st_q := []) rfl rfl rfl ?_
          refine pm_R_lo pm_M150 (pc_q := 16) rfl rfl rfl ?_
          refine pm_R_br pm_M150 (pc_q := 19) rfl rfl ?_
          refine pm_R_lo pm_M150 (pc_q := 21) rfl rfl rfl ?_
          refine pm_R_br pm_M150 (pc_q := 24) rfl rfl ?_
          refine pm_R_lo pm_M150 (pc_q := 26) rfl rfl rfl ?_
          refine pm_R_lo pm_M150 (pc_q := 27) rfl rfl rfl ?_
          obtain ⟨s52, n53, fd54, fg55, fs56, h57, h58, h59, eE60, eE61, eE62, eE63, b64⟩ := (G.2.2.2.1 l49 hk51).2.2.2
          have kq65 := G.2.2.2.1 l49 hk51
          refine pm_R_cv pm_M150 (pc_q := 30) (a := l49) (ra := [.int a2]) (rest := []) (ls_q := [.ref l49, .int a2]) rfl rfl (Or.inl rfl) pm_M143 (T.im hk51 (by decide) (by decide) eE60) rfl (G.ge hk51 (by decide)) (T.al hk51 (by decide)) rfl rfl (Nat.le_of_ble_eq_true rfl) rfl rfl ?_
          refine pm_R_lo pm_M143 (pc_q := 1) rfl rfl rfl ?_
          refine pm_R_ifc pm_M143 (t := 16) (pc_q := 4) rfl rfl rfl (fun c66 => ?_) (fun c66 => ?_)
          · have B67 : sf_B (-2147483648) (-1) a2 := sf_ltL c66 (sf_any a2) sf_k0
            refine pm_R_op pm_M143 (pc_q := 17) (st_q := [.int 0]) rfl rfl rfl ?_
            refine pm_R_ret pm_M143 (r := some (.int 0)) rfl rfl ?_
            show pm_R _ 150 30 [.ref 16, .int a0, .int a1, .int a2, .ref l34, .ref l49, pm_no, pm_no, pm_no, pm_no] [.int 0] _ _
            refine pm_R_br pm_M150 (pc_q := 33) (st_q := []) rfl rfl ?_
            refine pm_R_op pm_M150 (pc_q := 34) (st_q := [.int (-1)]) rfl rfl rfl ?_
            exact pm_R_ret pm_M150 (r := some (.int (-1))) rfl rfl (K (-1) m h T (cl_F.refl (ck := ck) (A := [32, 38, 39]) (n := 0) (s := 0) T.1) (rf_W.refl [] m))
          · have B68 : sf_B 0 2147483647 a2 := sf_leR (Int32.not_lt.mp c66) sf_k0 (sf_any a2)
            refine pm_R_lo pm_M143 (pc_q := 5) rfl rfl rfl ?_
            refine pm_R_lo pm_M143 (pc_q := 6) rfl rfl rfl ?_
            refine pm_R_get pm_M143 (pc_q := 9) (v := .int (Int32.ofNat s52)) rfl rfl (T.im hk51 (by decide) (by decide) eE60) (G.ge hk51 (by decide)) (T.al hk51 (by decide)) rfl rfl ?_
            refine pm_R_icmp pm_M143 (t := 16) (pc_q := 12) rfl rfl rfl (fun c69 => ?_) (fun c69 => ?_)
            · have B70 : sf_B 1 2147483647 a2 := sf_leR c69 (sf_ofB1 h58 h57 (by decide)) B68
              refine pm_R_op pm_M143 (pc_q := 17) (st_q := [.int 0]) rfl rfl rfl ?_
              refine pm_R_ret pm_M143 (r := some (.int 0)) rfl rfl ?_
              show pm_R _ 150 30 [.ref 16, .int a0, .int a1, .int a2, .ref l34, .ref l49, pm_no, pm_no, pm_no, pm_no] [.int 0] _ _
              refine pm_R_br pm_M150 (pc_q := 33) (st_q := []) rfl rfl ?_
              refine pm_R_op pm_M150 (pc_q := 34) (st_q := [.int (-1)]) rfl rfl rfl ?_
              exact pm_R_ret pm_M150 (r := some (.int (-1))) rfl rfl (K (-1) m h T (cl_F.refl (ck := ck) (A := [32, 38, 39]) (n := 0) (s := 0) T.1) (rf_W.refl [] m))
            · have B71 : sf_B 0 5 a2 := sf_ltL (Int32.not_le.mp c69) B68 (sf_ofB1 h58 h57 (by decide))
              refine pm_R_op pm_M143 (pc_q := 13) (st_q := [.int 1]) rfl rfl rfl ?_
              refine pm_R_br pm_M143 (pc_q := 17) rfl rfl ?_
              refine pm_R_ret pm_M143 (r := some (.int 1)) rfl rfl ?_
              show pm_R _ 150 30 [.ref 16, .int a0, .int a1, .int a2, .ref l34, .ref l49, pm_no, pm_no, pm_no, pm_no] [.int 1] _ _
              refine pm_R_br pm_M150 (pc_q := 35) (st_q := []) rfl rfl ?_
              refine pm_R_lo pm_M150 (pc_q := 36) rfl rfl rfl ?_
              refine pm_R_lo pm_M150 (pc_q := 38) rfl rfl rfl ?_
              refine pm_R_lo pm_M150 (pc_q := 40) rfl rfl rfl ?_
              refine pm_R_op pm_M150 (pc_q := 41) (st_q := [.int (-1), .ref l49, .ref l34, .ref 16]) rfl rfl rfl ?_
              refine pm_R_lo pm_M150 (pc_q := 42) rfl rfl rfl ?_
              refine pm_R_cv pm_M150 (pc_q := 45) (a := 16) (ra := [.int a2, .int (-1), .ref l49, .ref l34]) (rest := []) (ls_q := [.ref 16, .ref l34, .ref l49, .int (-1), .int a2, pm_no, pm_no]) rfl rfl (Or.inl rfl) pm_M149 T.e16 rfl (by decide) (T.lt (by decide)) rfl rfl (Nat.le_of_ble_eq_true rfl) rfl rfl ?_
              refine cl_c149 (d := d + 0) G T hk36 hk51 (sf_weak sf_kn1 (by decide) (by decide)) B71 (fun r72 m74 h75 T76 F77 W78 => ?_)
              have F79 := (cl_F.refl (ck := ck) (A := [32, 38, 39]) (n := 0) (s := 0) T.1).trans (N := 0) (S := 0) F77 (by decide) (by decide) (by decide)
              have W80 : rf_W [] m m74 := (rf_W.refl [] m).trans W78 (by decide)
              show pm_R _ 150 45 [.ref 16, .int a0, .int a1, .int a2, .ref l34, .ref l49, pm_no, pm_no, pm_no, pm_no] [.long r72] _ _
              refine pm_R_lo pm_M150 (pc_q := 47) (ls_q := [.ref 16, .int a0, .int a1, .int a2, .ref l34, .ref l49, .long r72, pm_no, pm_no, pm_no]) (st_q := []) rfl rfl rfl ?_
              refine pm_R_lo pm_M150 (pc_q := 49) rfl rfl rfl ?_
              refine pm_R_cs pm_M150 (pc_q := 52) (ra := [.long r72]) (rest := []) (ls_q := [.long r72, pm_no]) rfl rfl (Or.inl rfl) pm_M108 rfl rfl (Nat.le_of_ble_eq_true rfl) rfl rfl ?_
              refine pm_R_lo pm_M108 (pc_q := 1) rfl rfl rfl ?_
              refine pm_R_lo pm_M108 (pc_q := 2) rfl rfl rfl ?_
              refine pm_R_op pm_M108 (pc_q := 3) (st_q := [.int 1, .long r72, .long r72]) rfl rfl rfl ?_
              refine sf_R_lany pm_M108 (pc_q := 4) (st := [.long r72]) rfl rfl rfl (fun z81 => ?_)
              refine pm_R_ldc2 pm_M108 (pc_q := 7) rfl rfl rfl ?_
              refine sf_R_lany pm_M108 (pc_q := 8) (st := [.long r72]) rfl rfl rfl (fun z82 => ?_)
              refine sf_R_lany pm_M108 (pc_q := 9) (st := []) rfl rfl rfl (fun z83 => ?_)
              refine pm_R_lo pm_M108 (pc_q := 10) (ls_q := [.long z83, pm_no]) (st_q := []) rfl rfl rfl ?_
              refine pm_R_lo pm_M108 (pc_q := 11) rfl rfl rfl ?_
              refine pm_R_ldc2 pm_M108 (pc_q := 14) rfl rfl rfl ?_
              refine sf_R_lany pm_M108 (pc_q := 15) (st := []) rfl rfl rfl (fun z84 => ?_)
              refine pm_R_lo pm_M108 (pc_q := 16) rfl rfl rfl ?_
              refine pm_R_op pm_M108 (pc_q := 17) (st_q := [.int 2, .long z83, .long z84]) rfl rfl rfl ?_
              refine sf_R_lany pm_M108 (pc_q := 18) (st := [.long z84]) rfl rfl rfl (fun z85 => ?_)
              refine pm_R_ldc2 pm_M108 (pc_q := 21) rfl rfl rfl ?_
              refine sf_R_lany pm_M108 (pc_q := 22) (st := [.long z84]) rfl rfl rfl (fun z86 => ?_)
              refine sf_R_lany pm_M108 (pc_q := 23) (st := []) rfl rfl rfl (fun z87 => ?_)
              refine pm_R_lo pm_M108 (pc_q := 24) (ls_q := [.long z87, pm_no]) (st_q := []) rfl rfl rfl ?_
              refine pm_R_lo pm_M108 (pc_q := 25) rfl rfl rfl ?_
              refine pm_R_lo pm_M108 (pc_q := 26) rfl rfl rfl ?_
              refine pm_R_op pm_M108 (pc_q := 27) (st_q := [.int 4, .long z87, .long z87]) rfl rfl rfl ?_
              refine sf_R_lany pm_M108 (pc_q := 28) (st := [.long z87]) rfl rfl rfl (fun z88 => ?_)
              refine sf_R_lany pm_M108 (pc_q := 29) (st := []) rfl rfl rfl (fun z89 => ?_)
              refine pm_R_ldc2 pm_M108 (pc_q := 32) rfl rfl rfl ?_
              refine sf_R_lany pm_M108 (pc_q := 33) (st := []) rfl rfl rfl (fun z90 => ?_)
              refine pm_R_lo pm_M108 (pc_q := 34) (ls_q := [.long z90, pm_no]) (st_q := []) rfl rfl rfl ?_
              refine pm_R_lo pm_M108 (pc_q := 35) rfl rfl rfl ?_
              refine pm_R_lo pm_M108 (pc_q := 36) rfl rfl rfl ?_
              refine pm_R_op pm_M108 (pc_q := 38) (st_q := [.int 8, .long z90, .long z90]) rfl rfl rfl ?_
              refine sf_R_lany pm_M108 (pc_q := 39) (st := [.long z90]) rfl rfl rfl (fun z91 => ?_)
              refine sf_R_lany pm_M108 (pc_q := 40) (st := []) rfl rfl rfl (fun z92 => ?_)
              refine pm_R_lo pm_M108 (pc_q := 41) (ls_q := [.long z92, pm_no]) (st_q := []) rfl rfl rfl ?_
              refine pm_R_lo pm_M108 (pc_q := 42) rfl rfl rfl ?_
              refine pm_R_lo pm_M108 (pc_q := 43) rfl rfl rfl ?_
              refine pm_R_op pm_M108 (pc_q := 45) (st_q := [.int 16, .long z92, .long z92]) rfl rfl rfl ?_
              refine sf_R_lany pm_M108 (pc_q := 46) (st := [.long z92]) rfl rfl rfl (fun z93 => ?_)
              refine sf_R_lany pm_M108 (pc_q := 47) (st := []) rfl rfl rfl (fun z94 => ?_)
              refine pm_R_lo pm_M108 (pc_q := 48) (ls_q := [.long z94, pm_no]) (st_q := []) rfl rfl rfl ?_
              refine pm_R_lo pm_M108 (pc_q := 49) rfl rfl rfl ?_
              refine pm_R_lo pm_M108 (pc_q := 50) rfl rfl rfl ?_
              refine pm_R_op pm_M108 (pc_q := 52) (st_q := [.int 32, .long z94, .long z94]) rfl rfl rfl ?_
              refine sf_R_lany pm_M108 (pc_q := 53) (st := [.long z94]) rfl rfl rfl (fun z95 => ?_)
              refine sf_R_lany pm_M108 (pc_q := 54) (st := []) rfl rfl rfl (fun z96 => ?_)
              refine pm_R_lo pm_M108 (pc_q := 55) (ls_q := [.long z96, pm_no]) (st_q := []) rfl rfl rfl ?_
              refine pm_R_lo pm_M108 (pc_q := 56) rfl rfl rfl ?_
              refine sf_R_iany pm_M108 (pc_q := 57) (st := []) rfl rfl rfl (fun z97 => ?_)
              refine pm_R_op pm_M108 (pc_q := 59) (st_q := [.int 127, .int z97]) rfl rfl rfl ?_
              refine sf_R_iandE pm_M108 (pc_q := 60) rfl rfl sf_k127 (by decide) (fun z98 e99 B100 => ?_)
              refine pm_R_ret pm_M108 (r := some (.int z98)) rfl (pm_ret_i _) ?_
              show pm_R _ 150 52 [.ref 16, .int a0, .int a1, .int a2, .ref l34, .ref l49, .long r72, pm_no, pm_no, pm_no] [.int z98] _ _
              refine pm_R_op pm_M150 (pc_q := 53) (st_q := [.int 1, .int z98]) rfl rfl rfl ?_
              refine pm_R_icmp pm_M150 (t := 58) (pc_q := 56) rfl rfl rfl (fun c101 => ?_) (fun c101 => ?_)
              · have B102 : sf_B 1 1 z98 := sf_eqL c101 sf_k1
                refine pm_R_op pm_M150 (pc_q := 59) (st_q := [.int 0]) rfl rfl rfl ?_
                refine pm_R_lo pm_M150 (pc_q := 61) (ls_q := [.ref 16, .int a0, .int a1, .int a2, .ref l34, .ref l49, .long r72, pm_no, .int 0, pm_no]) (st_q := []) rfl rfl rfl ?_
                refine pm_R_op pm_M150 (pc_q := 62) (st_q := [.int 0]) rfl rfl rfl ?_
                refine pm_R_lo pm_M150 (pc_q := 64) (ls_q := [.ref 16, .int a0, .int a1, .int a2, .ref l34, .ref l49, .long r72, pm_no, .int 0, .int 0]) (st_q := []) rfl rfl rfl ?_
                have L_388 : ∀ (N : Nat) (h_388 : pm_H) (m_388 : Nat → Int32) (x8_388 : Int32) (x9_388 : Int32), cl_T ck E m_388 o h_388 → cl_F ck [32, 38, 39] 0 0 h h_388 → rf_W [] m74 m_388 → sf_B (-2147483648) 2147483647 x8_388 → sf_B 0 6 x9_388 → (6 - x9_388.toInt).toNat = N → pm_R (d + 5) 150 64 [.ref 16, .int a0, .int a1, .int a2, .ref l34, .ref l49, .long r72, pm_no, .int x8_388, .int x9_388] [] h_388 Q := by
                  intro N
                  induction N using Nat.strongRecOn with
                  | ind N ih_388 =>
                    intro h_388 m_388 x8_388 x9_388 T_388 F_388 W_388 Bx8_388 Bx9_388 hN_388
                    have W391 : rf_W [] m m_388 := W80.trans W_388 (by decide)
                    refine pm_R_lo pm_M150 (pc_q := 66) rfl rfl rfl ?_
                    refine pm_R_lo pm_M150 (pc_q := 68) rfl rfl rfl ?_
                    refine pm_R_get pm_M150 (pc_q := 71) (v := .int (Int32.ofNat s52)) rfl rfl (T_388.im hk51 (by decide) (by decide) eE60) (G.ge hk51 (by decide)) (T_388.al hk51 (by decide)) rfl rfl ?_
                    refine pm_R_icmp pm_M150 (t := 112) (pc_q := 74) rfl rfl rfl (fun c392 => ?_) (fun c392 => ?_)
                    · have B393 : sf_B 1 6 x9_388 := sf_leR c392 (sf_ofB1 h58 h57 (by decide)) Bx9_388
                      refine pm_R_lo pm_M150 (pc_q := 114) rfl rfl rfl ?_
                      exact pm_R_ret pm_M150 (r := some (.int x8_388)) (pm_q150_1 (Nat.le_of_ble_eq_true rfl)) (pm_ret_i _) (K x8_388 m_388 h_388 T_388 F_388 W391)
                    · have B394 : sf_B 0 5 x9_388 := sf_ltL (Int32.not_le.mp c392) Bx9_388 (sf_ofB1 h58 h57 (by decide))
                      refine pm_R_lo pm_M150 (pc_q := 76) rfl rfl rfl ?_
                      refine pm_R_lo pm_M150 (pc_q := 77) rfl rfl rfl ?_
                      refine pm_R_icmp pm_M150 (t := 106) (pc_q := 80) rfl rfl rfl (fun c395 => ?_) (fun c395 => ?_)
                      · refine sf_R_iinc pm_M150 (pc_q := 109) (ls_q := fun z => [.ref 16, .int a0, .int a1, .int a2, .ref l34, .ref l49, .long r72, pm_no, .int x8_388, .int z]) rfl B394 rfl (by decide) (by decide) (by decide) (fun _ => rfl) rfl (fun z396 e397 B398 => ?_)
                        show pm_R _ 150 109 [.ref 16, .int a0, .int a1, .int a2, .ref l34, .ref l49, .long r72, pm_no, .int x8_388, .int z396] [] _ _
                        refine pm_R_br pm_M150 (pc_q := 64) rfl rfl ?_
                        exact ih_388 _ (sf_up hN_388 e397 B394 (by decide) (by decide)) h_388 m_388 x8_388 z396 T_388 F_388 W_388 Bx8_388 (sf_weak B398 (by decide) (by decide)) rfl
                      · skip
                        refine pm_R_lo pm_M150 (pc_q := 81) rfl rfl rfl ?_
                        refine pm_R_lo pm_M150 (pc_q := 83) rfl rfl rfl ?_
                        refine pm_R_lo pm_M150 (pc_q := 85) rfl rfl rfl ?_
                        refine pm_R_lo pm_M150 (pc_q := 87) rfl rfl rfl ?_
                        refine pm_R_lo pm_M150 (pc_q := 88) rfl rfl rfl ?_
                        refine pm_R_cv pm_M150 (pc_q := 91) (a := 16) (ra := [.int a2, .int x9_388, .ref l49, .ref l34]) (rest := []) (ls_q := [.ref 16, .ref l34, .ref l49, .int x9_388, .int a2, pm_no, pm_no]) rfl rfl (Or.inl rfl) pm_M149 T_388.e16 rfl (by decide) (T_388.lt (by decide)) rfl rfl (Nat.le_of_ble_eq_true rfl) rfl rfl ?_
                        refine cl_c149 (d := d + 0) G T_388 hk36 hk51 (sf_weak B394 (by decide) (by decide)) B71 (fun r399 m401 h402 T403 F404 W405 => ?_)
                        have F406 := F_388.trans (N := 0) (S := 0) F404 (by decide) (by decide) (by decide)
                        have W407 : rf_W [] m m401 := W391.trans W405 (by decide)
                        have W408 : rf_W [] m74 m401 := W_388.trans W405 (by decide)
                        show pm_R _ 150 91 [.ref 16, .int a0, .int a1, .int a2, .ref l34, .ref l49, .long r72, pm_no, .int x8_388, .int x9_388] [.long r399] _ _
                        refine pm_R_lo pm_M150 (pc_q := 93) rfl rfl rfl ?_
                        refine sf_R_lcmp pm_M150 (pc_q := 94) rfl rfl (fun z409 e410 => ?_)
                        refine pm_R_ifc pm_M150 (t := 106) (pc_q := 97) rfl rfl rfl (fun c411 => ?_) (fun c411 => ?_)
                        · have k412 := sf_lneC e410 c411
                          refine sf_R_iinc pm_M150 (pc_q := 109) (ls_q := fun z => [.ref 16, .int a0, .int a1, .int a2, .ref l34, .ref l49, .long r72, pm_no, .int x8_388, .int z]) rfl B394 rfl (by decide) (by decide) (by decide) (fun _ => rfl) rfl (fun z413 e414 B415 => ?_)
                          show pm_R _ 150 109 [.ref 16, .int a0, .int a1, .int a2, .ref l34, .ref l49, .long r72, pm_no, .int x8_388, .int z413] [] _ _
                          refine pm_R_br pm_M150 (pc_q := 64) rfl rfl ?_
                          exact ih_388 _ (sf_up hN_388 e414 B394 (by decide) (by decide)) h402 m401 x8_388 z413 T403 F406 W408 Bx8_388 (sf_weak B415 (by decide) (by decide)) rfl
                        · have B416 : sf_B 0 0 z409 := sf_eqL (Classical.not_not.mp c411) sf_k0
                          have k417 := lf_ge e410 B416 (by decide)
                          refine pm_R_lo pm_M150 (pc_q := 99) rfl rfl rfl ?_
                          refine pm_R_op pm_M150 (pc_q := 100) (st_q := [.int 1, .int x8_388]) rfl rfl rfl ?_
                          refine pm_R_lo pm_M150 (pc_q := 102) rfl rfl rfl ?_
                          refine sf_R_iany pm_M150 (pc_q := 103) (st := [.int x8_388]) rfl rfl rfl (fun z421 => ?_)
                          refine sf_R_iany pm_M150 (pc_q := 104) (st := []) rfl rfl rfl (fun z425 => ?_)
                          refine pm_R_lo pm_M150 (pc_q := 106) (ls_q := [.ref 16, .int a0, .int a1, .int a2, .ref l34, .ref l49, .long r72, pm_no, .int z425, .int x9_388]) (st_q := []) rfl rfl rfl ?_
                          refine sf_R_iinc pm_M150 (pc_q := 109) (ls_q := fun z => [.ref 16, .int a0, .int a1, .int a2, .ref l34, .ref l49, .long r72, pm_no, .int z425, .int z]) rfl B394 rfl (by decide) (by decide) (by decide) (fun _ => rfl) rfl (fun z426 e427 B428 => ?_)
                          show pm_R _ 150 109 [.ref 16, .int a0, .int a1, .int a2, .ref l34, .ref l49, .long r72, pm_no, .int z425, .int z426] [] _ _
                          refine pm_R_br pm_M150 (pc_q := 64) rfl rfl ?_
                          exact ih_388 _ (sf_up hN_388 e427 B394 (by decide) (by decide)) h402 m401 z425 z426 T403 F406 W408 (sf_any z425) (sf_weak B428 (by decide) (by decide)) rfl
                exact L_388 _ h75 m74 0 0 T76 F79 (rf_W.refl _ _) (sf_weak sf_k0 (by decide) (by decide)) (sf_weak sf_k0 (by decide) (by decide)) rfl
              · skip
                refine pm_R_op pm_M150 (pc_q := 57) (st_q := [.int 0]) rfl rfl rfl ?_
                exact pm_R_ret pm_M150 (r := some (.int 0)) rfl rfl (K 0 m74 h75 T76 F79 W80)
        · skip
          refine pm_R_op pm_M139 (pc_q := 18) (st_q := [.null]) rfl rfl rfl ?_
          refine pm_R_br pm_M139 (pc_q := 30) rfl rfl ?_
          refine pm_R_ret pm_M139 (r := some (.null)) rfl rfl ?_
          show pm_R _ 150 12 [.ref 16, .int a0, .int a1, .int a2, .ref l34, pm_no, pm_no, pm_no, pm_no, pm_no] [.null] _ _
          refine pm_R_lo pm_M150 (pc_q := 14) (ls_q := [.ref 16, .int a0, .int a1, .int a2, .ref l34, .null, pm_no, pm_no, pm_no, pm_no]) (st_q := []) rfl rfl rfl ?_
          refine pm_R_lo pm_M150 (pc_q := 16) rfl rfl rfl ?_
          refine pm_R_br pm_M150 (pc_q := 19) rfl rfl ?_
          refine pm_R_lo pm_M150 (pc_q := 21) rfl rfl rfl ?_
          refine pm_R_br pm_M150 (pc_q := 33) rfl rfl ?_
          refine pm_R_op pm_M150 (pc_q := 34) (st_q := [.int (-1)]) rfl rfl rfl ?_
          exact pm_R_ret pm_M150 (r := some (.int (-1))) rfl rfl (K (-1) m h T (cl_F.refl (ck := ck) (A := [32, 38, 39]) (n := 0) (s := 0) T.1) (rf_W.refl [] m))
    · skip
      refine pm_R_op pm_M62 (pc_q := 18) (st_q := [.null]) rfl rfl rfl ?_
      refine pm_R_br pm_M62 (pc_q := 30) rfl rfl ?_
      refine pm_R_ret pm_M62 (r := some (.null)) rfl rfl ?_
      show pm_R _ 150 5 [.ref 16, .int a0, .int a1, .int a2, pm_no, pm_no, pm_no, pm_no, pm_no, pm_no] [.null] _ _
      refine pm_R_lo pm_M150 (pc_q := 7) (ls_q := [.ref 16, .int a0, .int a1, .int a2, .null, pm_no, pm_no, pm_no, pm_no, pm_no]) (st_q := []) rfl rfl rfl ?_
      refine pm_R_lo pm_M150 (pc_q := 8) rfl rfl rfl ?_
      refine pm_R_lo pm_M150 (pc_q := 9) rfl rfl rfl ?_
      refine pm_R_cv pm_M150 (pc_q := 12) (a := 16) (ra := [.int a1]) (rest := []) (ls_q := [.ref 16, .int a1]) rfl rfl (Or.inl rfl) pm_M139 T.e16 rfl (by decide) (T.lt (by decide)) rfl rfl (Nat.le_of_ble_eq_true rfl) rfl rfl ?_
      refine pm_R_lo pm_M139 (pc_q := 1) rfl rfl rfl ?_
      refine pm_R_ifc pm_M139 (t := 17) (pc_q := 4) rfl rfl rfl (fun c429 => ?_) (fun c429 => ?_)
      · have B430 : sf_B (-2147483648) (-1) a1 := sf_ltL c429 (sf_any a1) sf_k0
        refine pm_R_op pm_M139 (pc_q := 18) (st_q := [.null]) rfl rfl rfl ?_
        refine pm_R_br pm_M139 (pc_q := 30) rfl rfl ?_
        refine pm_R_ret pm_M139 (r := some (.null)) rfl rfl ?_
        show pm_R _ 150 12 [.ref 16, .int a0, .int a1, .int a2, .null, pm_no, pm_no, pm_no, pm_no, pm_no] [.null] _ _
        refine pm_R_lo pm_M150 (pc_q := 14) (ls_q := [.ref 16, .int a0, .int a1, .int a2, .null, .null, pm_no, pm_no, pm_no, pm_no]) (st_q := []) rfl rfl rfl ?_
        refine pm_R_lo pm_M150 (pc_q := 16) rfl rfl rfl ?_
        refine pm_R_br pm_M150 (pc_q := 33) rfl rfl ?_
        refine pm_R_op pm_M150 (pc_q := 34) (st_q := [.int (-1)]) rfl rfl rfl ?_
        exact pm_R_ret pm_M150 (r := some (.int (-1))) rfl rfl (K (-1) m h T (cl_F.refl (ck := ck) (A := [32, 38, 39]) (n := 0) (s := 0) T.1) (rf_W.refl [] m))
      · have B431 : sf_B 0 2147483647 a1 := sf_leR (Int32.not_lt.mp c429) sf_k0 (sf_any a1)
        refine pm_R_lo pm_M139 (pc_q := 5) rfl rfl rfl ?_
        refine pm_R_lo pm_M139 (pc_q := 6) rfl rfl rfl ?_
        refine pm_R_get pm_M139 (pc_q := 9) (v := .ref 17) rfl rfl T.e16 (by decide) (T.lt (by decide)) rfl rfl ?_
        refine pm_R_get pm_M139 (pc_q := 12) (v := .ref 23) rfl rfl T.e17 (by decide) (T.lt (by decide)) rfl rfl ?_
        refine pm_R_op pm_M139 (pc_q := 13) (st_q := [.int 2, .ref 23, .int a1]) rfl rfl rfl ?_
        obtain ⟨z432, ez433⟩ : ∃ y, f25 (Int32.toNatClampNeg 2) = y := ⟨_, rfl⟩
        have B434 : sf_B 0 2 z432 := ez433 ▸ (b27 2)
        refine pm_R_iald pm_M139 (pc_q := 14) (v := z432) rfl e26 (T.lt (by decide)) rfl ez433 rfl ?_
        refine pm_R_icmp pm_M139 (t := 21) (pc_q := 17) rfl rfl rfl (fun c435 => ?_) (fun c435 => ?_)
        · have B436 : sf_B 0 1 a1 := sf_ltL c435 B431 B434
          have B437 : sf_B 1 2 z432 := sf_ltR c435 B431 B434
          refine pm_R_lo pm_M139 (pc_q := 22) rfl rfl rfl ?_
          refine pm_R_get pm_M139 (pc_q := 25) (v := .ref 17) rfl rfl T.e16 (by decide) (T.lt (by decide)) rfl rfl ?_
          refine pm_R_get pm_M139 (pc_q := 28) (v := .ref 21) rfl rfl T.e17 (by decide) (T.lt (by decide)) rfl rfl ?_
          refine pm_R_lo pm_M139 (pc_q := 29) rfl rfl rfl ?_
          obtain ⟨f438, e439, b440⟩ := T.C 21 (by decide) (by decide)
          obtain ⟨l441, hx442⟩ := cl_there2 T e26 e439 ez433 c435 B436 (by decide)
          have hk443 := b440 _ _ hx442
          refine pm_R_aald pm_M139 (pc_q := 30) (v := .ref l441) rfl e439 (by decide) (by decide) (by decide) (T.lt (by decide)) (sf_in B436 (by decide) (by decide)) (by rw [hx442]; rfl) rfl ?_
          refine pm_R_ret pm_M139 (r := some (.ref l441)) rfl rfl ?_
          show pm_R _ 150 12 [.ref 16, .int a0, .int a1, .int a2, .null, pm_no, pm_no, pm_no, pm_no, pm_no] [.ref l441] _ _
          refine pm_R_lo pm_M150 (pc_q := 14) (ls_q := [.ref 16, .int a0, .int a1, .int a2, .null, .ref l441, pm_no, pm_no, pm_no, pm_no]) (st_q := []) rfl rfl rfl ?_
          refine pm_R_lo pm_M150 (pc_q := 16) rfl rfl rfl ?_
          refine pm_R_br pm_M150 (pc_q := 33) rfl rfl ?_
          refine pm_R_op pm_M150 (pc_q := 34) (st_q := [.int (-1)]) rfl rfl rfl ?_
          exact pm_R_ret pm_M150 (r := some (.int (-1))) rfl rfl (K (-1) m h T (cl_F.refl (ck := ck) (A := [32, 38, 39]) (n := 0) (s := 0) T.1) (rf_W.refl [] m))
        · skip
          refine pm_R_op pm_M139 (pc_q := 18) (st_q := [.null]) rfl rfl rfl ?_
          refine pm_R_br pm_M139 (pc_q := 30) rfl rfl ?_
          refine pm_R_ret pm_M139 (r := some (.null)) rfl rfl ?_
          show pm_R _ 150 12 [.ref 16, .int a0, .int a1, .int a2, .null, pm_no, pm_no, pm_no, pm_no, pm_no] [.null] _ _
          refine pm_R_lo pm_M150 (pc_q := 14) (ls_q := [.ref 16, .int a0, .int a1, .int a2, .null, .null, pm_no, pm_no, pm_no, pm_no]) (st_q := []) rfl rfl rfl ?_
          refine pm_R_lo pm_M150 (pc_q := 16) rfl rfl rfl ?_
          refine pm_R_br pm_M150 (pc_q := 33) rfl rfl ?_
          refine pm_R_op pm_M150 (pc_q := 34) (st_q := [.int (-1)]) rfl rfl rfl ?_
          exact pm_R_ret pm_M150 (r := some (.int (-1))) rfl rfl (K (-1) m h T (cl_F.refl (ck := ck) (A := [32, 38, 39]) (n := 0) (s := 0) T.1) (rf_W.refl [] m))

set_option maxRecDepth 100000 in
set_option maxHeartbeats 4000000 in
/-- SilentTable.reaches -/
theorem cl_c155 {d : Nat} {ck : cl_K} {E : Nat → pm_E} {m : Nat → Int32} {o : Nat → Option Nat} {h : pm_H} {Q : Option Value → pm_H → Prop} {a0 : Int32} {a1 : Int32} {a2 : Int32} {a3 : Int32} {a4 : Int32} (G : cl_G ck E) (T : cl_T ck E m o h)  (K : ∀ (r : Int32) (m_q : Nat → Int32) (h_q : pm_H), cl_T ck E m_q o h_q → cl_F ck [32, 38] 0 0 h h_q → rf_W [] m m_q → sf_B 0 1 r → Q (some (.int r)) h_q) : pm_R (d + 5) 155 0 [.ref 16, .int a0, .int a1, .int a2, .int a3, .int a4, pm_no, pm_no, pm_no, pm_no, pm_no] [] h Q := by
  refine pm_R_lo pm_M155 (pc_q := 1) rfl rfl rfl ?_
  refine pm_R_lo pm_M155 (pc_q := 2) rfl rfl rfl ?_
  refine pm_R_cv pm_M155 (pc_q := 5) (a := 16) (ra := [.int a0]) (rest := []) (ls_q := [.ref 16, .int a0]) rfl rfl (Or.inl rfl) pm_M62 T.e16 rfl (by decide) (T.lt (by decide)) rfl rfl (Nat.le_of_ble_eq_true rfl) rfl rfl ?_
  refine pm_R_lo pm_M62 (pc_q := 1) rfl rfl rfl ?_
  refine pm_R_ifc pm_M62 (t := 17) (pc_q := 4) rfl rfl rfl (fun c1 => ?_) (fun c1 => ?_)
  · have B2 : sf_B (-2147483648) (-1) a0 := sf_ltL c1 (sf_any a0) sf_k0
    refine pm_R_op pm_M62 (pc_q := 18) (st_q := [.null]) rfl rfl rfl ?_
    refine pm_R_br pm_M62 (pc_q := 30) rfl rfl ?_
    refine pm_R_ret pm_M62 (r := some (.null)) rfl rfl ?_
    show pm_R _ 155 5 [.ref 16, .int a0, .int a1, .int a2, .int a3, .int a4, pm_no, pm_no, pm_no, pm_no, pm_no] [.null] _ _
    refine pm_R_lo pm_M155 (pc_q := 7) (ls_q := [.ref 16, .int a0, .int a1, .int a2, .int a3, .int a4, .null, pm_no, pm_no, pm_no, pm_no]) (st_q := []) rfl rfl rfl ?_
    refine pm_R_lo pm_M155 (pc_q := 8) rfl rfl rfl ?_
    refine pm_R_lo pm_M155 (pc_q := 9) rfl rfl rfl ?_
    refine pm_R_cv pm_M155 (pc_q := 12) (a := 16) (ra := [.int a1]) (rest := []) (ls_q := [.ref 16, .int a1]) rfl rfl (Or.inl rfl) pm_M66 T.e16 rfl (by decide) (T.lt (by decide)) rfl rfl (Nat.le_of_ble_eq_true rfl) rfl rfl ?_
    refine pm_R_lo pm_M66 (pc_q := 1) rfl rfl rfl ?_
    refine pm_R_ifc pm_M66 (t := 17) (pc_q := 4) rfl rfl rfl (fun c3 => ?_) (fun c3 => ?_)
    · have B4 : sf_B (-2147483648) (-1) a1 := sf_ltL c3 (sf_any a1) sf_k0
      refine pm_R_op pm_M66 (pc_q := 18) (st_q := [.null]) rfl rfl rfl ?_
      refine pm_R_br pm_M66 (pc_q := 30) rfl rfl ?_
      refine pm_R_ret pm_M66 (r := some (.null)) rfl rfl ?_
      show pm_R _ 155 12 [.ref 16, .int a0, .int a1, .int a2, .int a3, .int a4, .null, pm_no, pm_no, pm_no, pm_no] [.null] _ _
      refine pm_R_lo pm_M155 (pc_q := 14) (ls_q := [.ref 16, .int a0, .int a1, .int a2, .int a3, .int a4, .null, .null, pm_no, pm_no, pm_no]) (st_q := []) rfl rfl rfl ?_
      refine pm_R_lo pm_M155 (pc_q := 15) rfl rfl rfl ?_
      refine pm_R_lo pm_M155 (pc_q := 16) rfl rfl rfl ?_
      refine pm_R_lo pm_M155 (pc_q := 18) rfl rfl rfl ?_
      refine pm_R_lo pm_M155 (pc_q := 20) rfl rfl rfl ?_
      refine pm_R_cv pm_M155 (pc_q := 23) (a := 16) (ra := [.int a4, .int a3, .int a2]) (rest := []) (ls_q := [.ref 16, .int a2, .int a3, .int a4, pm_no]) rfl rfl (Or.inl rfl) pm_M152 T.e16 rfl (by decide) (T.lt (by decide)) rfl rfl (Nat.le_of_ble_eq_true rfl) rfl rfl ?_
      refine pm_R_lo pm_M152 (pc_q := 1) rfl rfl rfl ?_
      refine pm_R_lo pm_M152 (pc_q := 2) rfl rfl rfl ?_
      refine pm_R_cv pm_M152 (pc_q := 5) (a := 16) (ra := [.int a2]) (rest := []) (ls_q := [.ref 16, .int a2]) rfl rfl (Or.inl rfl) pm_M139 T.e16 rfl (by decide) (T.lt (by decide)) rfl rfl (Nat.le_of_ble_eq_true rfl) rfl rfl ?_
      refine pm_R_lo pm_M139 (pc_q := 1) rfl rfl rfl ?_
      refine pm_R_ifc pm_M139 (t := 17) (pc_q := 4) rfl rfl rfl (fun c5 => ?_) (fun c5 => ?_)
      · have B6 : sf_B (-2147483648) (-1) a2 := sf_ltL c5 (sf_any a2) sf_k0
        refine pm_R_op pm_M139 (pc_q := 18) (st_q := [.null]) rfl rfl rfl ?_
        refine pm_R_br pm_M139 (pc_q := 30) rfl rfl ?_
        refine pm_R_ret pm_M139 (r := some (.null)) rfl rfl ?_
        show pm_R _ 152 5 [.ref 16, .int a2, .int a3, .int a4, pm_no] [.null] _ _
        refine pm_R_lo pm_M152 (pc_q := 7) (ls_q := [.ref 16, .int a2, .int a3, .int a4, .null]) (st_q := []) rfl rfl rfl ?_
        refine pm_R_lo pm_M152 (pc_q := 9) rfl rfl rfl ?_
        refine pm_R_br pm_M152 (pc_q := 35) rfl rfl ?_
        refine pm_R_op pm_M152 (pc_q := 36) (st_q := [.int (-1)]) rfl rfl rfl ?_
        refine pm_R_ret pm_M152 (r := some (.int (-1))) rfl rfl ?_
        show pm_R _ 155 23 [.ref 16, .int a0, .int a1, .int a2, .int a3, .int a4, .null, .null, pm_no, pm_no, pm_no] [.int (-1)] _ _
        refine pm_R_lo pm_M155 (pc_q := 25) (ls_q := [.ref 16, .int a0, .int a1, .int a2, .int a3, .int a4, .null, .null, .int (-1), pm_no, pm_no]) (st_q := []) rfl rfl rfl ?_
        refine pm_R_lo pm_M155 (pc_q := 27) rfl rfl rfl ?_
        refine pm_R_br pm_M155 (pc_q := 41) rfl rfl ?_
        refine pm_R_op pm_M155 (pc_q := 42) (st_q := [.int 0]) rfl rfl rfl ?_
        exact pm_R_ret pm_M155 (r := some (.int 0)) rfl rfl (K 0 m h T (cl_F.refl (ck := ck) (A := [32, 38]) (n := 0) (s := 0) T.1) (rf_W.refl [] m) (sf_weak sf_k0 (by decide) (by decide)))
      · have B7 : sf_B 0 2147483647 a2 := sf_leR (Int32.not_lt.mp c5) sf_k0 (sf_any a2)
        refine pm_R_lo pm_M139 (pc_q := 5) rfl rfl rfl ?_
        refine pm_R_lo pm_M139 (pc_q := 6) rfl rfl rfl ?_
        refine pm_R_get pm_M139 (pc_q := 9) (v := .ref 17) rfl rfl T.e16 (by decide) (T.lt (by decide)) rfl rfl ?_
        refine pm_R_get pm_M139 (pc_q := 12) (v := .ref 23) rfl rfl T.e17 (by decide) (T.lt (by decide)) rfl rfl ?_
        refine pm_R_op pm_M139 (pc_q := 13) (st_q := [.int 2, .ref 23, .int a2]) rfl rfl rfl ?_
        obtain ⟨f11, e12, b13⟩ := T.C 23 (by decide) (by decide)
        obtain ⟨z8, ez9⟩ : ∃ y, f11 (Int32.toNatClampNeg 2) = y := ⟨_, rfl⟩
        have B10 : sf_B 0 2 z8 := ez9 ▸ (b13 2)
        refine pm_R_iald pm_M139 (pc_q := 14) (v := z8) rfl e12 (T.lt (by decide)) rfl ez9 rfl ?_
        refine pm_R_icmp pm_M139 (t := 21) (pc_q := 17) rfl rfl rfl (fun c14 => ?_) (fun c14 => ?_)
        · have B15 : sf_B 0 1 a2 := sf_ltL c14 B7 B10
          have B16 : sf_B 1 2 z8 := sf_ltR c14 B7 B10
          refine pm_R_lo pm_M139 (pc_q := 22) rfl rfl rfl ?_
          refine pm_R_get pm_M139 (pc_q := 25) (v := .ref 17) rfl rfl T.e16 (by decide) (T.lt (by decide)) rfl rfl ?_
          refine pm_R_get pm_M139 (pc_q := 28) (v := .ref 21) rfl rfl T.e17 (by decide) (T.lt (by decide)) rfl rfl ?_
          refine pm_R_lo pm_M139 (pc_q := 29) rfl rfl rfl ?_
          obtain ⟨f17, e18, b19⟩ := T.C 21 (by decide) (by decide)
          obtain ⟨l20, hx21⟩ := cl_there2 T e12 e18 ez9 c14 B15 (by decide)
          have hk22 := b19 _ _ hx21
          refine pm_R_aald pm_M139 (pc_q := 30) (v := .ref l20) rfl e18 (by decide) (by decide) (by decide) (T.lt (by decide)) (sf_in B15 (by decide) (by decide)) (by rw [hx21]; rfl) rfl ?_
          refine pm_R_ret pm_M139 (r := some (.ref l20)) rfl rfl ?_
          show pm_R _ 152 5 [.ref 16, .int a2, .int a3, .int a4, pm_no] [.ref l20] _ _
          refine pm_R_lo pm_M152 (pc_q := 7) (ls_q := [.ref 16, .int a2, .int a3, .int a4, .ref l20]) (st_q := []) rfl rfl rfl ?_
          refine pm_R_lo pm_M152 (pc_q := 9) rfl rfl rfl ?_
          refine pm_R_br pm_M152 (pc_q := 12) rfl rfl ?_
          refine pm_R_lo pm_M152 (pc_q := 13) rfl rfl rfl ?_
          refine pm_R_lo pm_M152 (pc_q := 14) rfl rfl rfl ?_
          refine pm_R_icmp pm_M152 (t := 35) (pc_q := 17) rfl rfl rfl (fun c23 => ?_) (fun c23 => ?_)
          · refine pm_R_op pm_M152 (pc_q := 36) (st_q := [.int (-1)]) rfl rfl rfl ?_
            refine pm_R_ret pm_M152 (r := some (.int (-1))) rfl rfl ?_
            show pm_R _ 155 23 [.ref 16, .int a0, .int a1, .int a2, .int a3, .int a4, .null, .null, pm_no, pm_no, pm_no] [.int (-1)] _ _
            refine pm_R_lo pm_M155 (pc_q := 25) (ls_q := [.ref 16, .int a0, .int a1, .int a2, .int a3, .int a4, .null, .null, .int (-1), pm_no, pm_no]) (st_q := []) rfl rfl rfl ?_
            refine pm_R_lo pm_M155 (pc_q := 27) rfl rfl rfl ?_
            refine pm_R_br pm_M155 (pc_q := 41) rfl rfl ?_
            refine pm_R_op pm_M155 (pc_q := 42) (st_q := [.int 0]) rfl rfl rfl ?_
            exact pm_R_ret pm_M155 (r := some (.int 0)) rfl rfl (K 0 m h T (cl_F.refl (ck := ck) (A := [32, 38]) (n := 0) (s := 0) T.1) (rf_W.refl [] m) (sf_weak sf_k0 (by decide) (by decide)))
          · skip
            refine pm_R_lo pm_M152 (pc_q := 19) rfl rfl rfl ?_
            refine pm_R_lo pm_M152 (pc_q := 20) rfl rfl rfl ?_
            obtain ⟨s24, n25, fd26, fg27, fs28, h29, h30, h31, eE32, eE33, eE34, eE35, b36⟩ := (G.2.2.2.1 l20 hk22).2.2.2
            have kq37 := G.2.2.2.1 l20 hk22
            refine pm_R_cv pm_M152 (pc_q := 23) (a := l20) (ra := [.int a3]) (rest := []) (ls_q := [.ref l20, .int a3]) rfl rfl (Or.inl rfl) pm_M143 (T.im hk22 (by decide) (by decide) eE32) rfl (G.ge hk22 (by decide)) (T.al hk22 (by decide)) rfl rfl (Nat.le_of_ble_eq_true rfl) rfl rfl ?_
            refine pm_R_lo pm_M143 (pc_q := 1) rfl rfl rfl ?_
            refine pm_R_ifc pm_M143 (t := 16) (pc_q := 4) rfl rfl rfl (fun c38 => ?_) (fun c38 => ?_)
            · have B39 : sf_B (-2147483648) (-1) a3 := sf_ltL c38 (sf_any a3) sf_k0
              refine pm_R_op pm_M143 (pc_q := 17) (st_q := [.int 0]) rfl rfl rfl ?_
              refine pm_R_ret pm_M143 (r := some (.int 0)) rfl rfl ?_
              show pm_R _ 152 23 [.ref 16, .int a2, .int a3, .int a4, .ref l20] [.int 0] _ _
              refine pm_R_br pm_M152 (pc_q := 35) (st_q := []) rfl rfl ?_
              refine pm_R_op pm_M152 (pc_q := 36) (st_q := [.int (-1)]) rfl rfl rfl ?_
              refine pm_R_ret pm_M152 (r := some (.int (-1))) rfl rfl ?_
              show pm_R _ 155 23 [.ref 16, .int a0, .int a1, .int a2, .int a3, .int a4, .null, .null, pm_no, pm_no, pm_no] [.int (-1)] _ _
              refine pm_R_lo pm_M155 (pc_q := 25) (ls_q := [.ref 16, .int a0, .int a1, .int a2, .int a3, .int a4, .null, .null, .int (-1), pm_no, pm_no]) (st_q := []) rfl rfl rfl ?_
              refine pm_R_lo pm_M155 (pc_q := 27) rfl rfl rfl ?_
              refine pm_R_br pm_M155 (pc_q := 41) rfl rfl ?_
              refine pm_R_op pm_M155 (pc_q := 42) (st_q := [.int 0]) rfl rfl rfl ?_
              exact pm_R_ret pm_M155 (r := some (.int 0)) rfl rfl (K 0 m h T (cl_F.refl (ck := ck) (A := [32, 38]) (n := 0) (s := 0) T.1) (rf_W.refl [] m) (sf_weak sf_k0 (by decide) (by decide)))
            · have B40 : sf_B 0 2147483647 a3 := sf_leR (Int32.not_lt.mp c38) sf_k0 (sf_any a3)
              refine pm_R_lo pm_M143 (pc_q := 5) rfl rfl rfl ?_
              refine pm_R_lo pm_M143 (pc_q := 6) rfl rfl rfl ?_
              refine pm_R_get pm_M143 (pc_q := 9) (v := .int (Int32.ofNat s24)) rfl rfl (T.im hk22 (by decide) (by decide) eE32) (G.ge hk22 (by decide)) (T.al hk22 (by decide)) rfl rfl ?_
              refine pm_R_icmp pm_M143 (t := 16) (pc_q := 12) rfl rfl rfl (fun c41 => ?_) (fun c41 => ?_)
              · have B42 : sf_B 1 2147483647 a3 := sf_leR c41 (sf_ofB1 h30 h29 (by decide)) B40
                refine pm_R_op pm_M143 (pc_q := 17) (st_q := [.int 0]) rfl rfl rfl ?_
                refine pm_R_ret pm_M143 (r := some (.int 0)) rfl rfl ?_
                show pm_R _ 152 23 [.ref 16, .int a2, .int a3, .int a4, .ref l20] [.int 0] _ _
                refine pm_R_br pm_M152 (pc_q := 35) (st_q := []) rfl rfl ?_
                refine pm_R_op pm_M152 (pc_q := 36) (st_q := [.int (-1)]) rfl rfl rfl ?_
                refine pm_R_ret pm_M152 (r := some (.int (-1))) rfl rfl ?_
                show pm_R _ 155 23 [.ref 16, .int a0, .int a1, .int a2, .int a3, .int a4, .null, .null, pm_no, pm_no, pm_no] [.int (-1)] _ _
                refine pm_R_lo pm_M155 (pc_q := 25) (ls_q := [.ref 16, .int a0, .int a1, .int a2, .int a3, .int a4, .null, .null, .int (-1), pm_no, pm_no]) (st_q := []) rfl rfl rfl ?_
                refine pm_R_lo pm_M155 (pc_q := 27) rfl rfl rfl ?_
                refine pm_R_br pm_M155 (pc_q := 41) rfl rfl ?_
                refine pm_R_op pm_M155 (pc_q := 42) (st_q := [.int 0]) rfl rfl rfl ?_
                exact pm_R_ret pm_M155 (r := some (.int 0)) rfl rfl (K 0 m h T (cl_F.refl (ck := ck) (A := [32, 38]) (n := 0) (s := 0) T.1) (rf_W.refl [] m) (sf_weak sf_k0 (by decide) (by decide)))
              · have B43 : sf_B 0 5 a3 := sf_ltL (Int32.not_le.mp c41) B40 (sf_ofB1 h30 h29 (by decide))
                refine pm_R_op pm_M143 (pc_q := 13) (st_q := [.int 1]) rfl rfl rfl ?_
                refine pm_R_br pm_M143 (pc_q := 17) rfl rfl ?_
                refine pm_R_ret pm_M143 (r := some (.int 1)) rfl rfl ?_
                show pm_R _ 152 23 [.ref 16, .int a2, .int a3, .int a4, .ref l20] [.int 1] _ _
                refine pm_R_br pm_M152 (pc_q := 26) (st_q := []) rfl rfl ?_
                refine pm_R_lo pm_M152 (pc_q := 28) rfl rfl rfl ?_
                refine pm_R_lo pm_M152 (pc_q := 29) rfl rfl rfl ?_
                refine pm_R_cv pm_M152 (pc_q := 32) (a := l20) (ra := [.int a4]) (rest := []) (ls_q := [.ref l20, .int a4]) rfl rfl (Or.inl rfl) pm_M143 (T.im hk22 (by decide) (by decide) eE32) rfl (G.ge hk22 (by decide)) (T.al hk22 (by decide)) rfl rfl (Nat.le_of_ble_eq_true rfl) rfl rfl ?_
                refine pm_R_lo pm_M143 (pc_q := 1) rfl rfl rfl ?_
                refine pm_R_ifc pm_M143 (t := 16) (pc_q := 4) rfl rfl rfl (fun c44 => ?_) (fun c44 => ?_)
                · have B45 : sf_B (-2147483648) (-1) a4 := sf_ltL c44 (sf_any a4) sf_k0
                  refine pm_R_op pm_M143 (pc_q := 17) (st_q := [.int 0]) rfl rfl rfl ?_
                  refine pm_R_ret pm_M143 (r := some (.int 0)) rfl rfl ?_
                  show pm_R _ 152 32 [.ref 16, .int a2, .int a3, .int a4, .ref l20] [.int 0] _ _
                  refine pm_R_br pm_M152 (pc_q := 35) (st_q := []) rfl rfl ?_
                  refine pm_R_op pm_M152 (pc_q := 36) (st_q := [.int (-1)]) rfl rfl rfl ?_
                  refine pm_R_ret pm_M152 (r := some (.int (-1))) rfl rfl ?_
                  show pm_R _ 155 23 [.ref 16, .int a0, .int a1, .int a2, .int a3, .int a4, .null, .null, pm_no, pm_no, pm_no] [.int (-1)] _ _
                  refine pm_R_lo pm_M155 (pc_q := 25) (ls_q := [.ref 16, .int a0, .int a1, .int a2, .int a3, .int a4, .null, .null, .int (-1), pm_no, pm_no]) (st_q := []) rfl rfl rfl ?_
                  refine pm_R_lo pm_M155 (pc_q := 27) rfl rfl rfl ?_
                  refine pm_R_br pm_M155 (pc_q := 41) rfl rfl ?_
                  refine pm_R_op pm_M155 (pc_q := 42) (st_q := [.int 0]) rfl rfl rfl ?_
                  exact pm_R_ret pm_M155 (r := some (.int 0)) rfl rfl (K 0 m h T (cl_F.refl (ck := ck) (A := [32, 38]) (n := 0) (s := 0) T.1) (rf_W.refl [] m) (sf_weak sf_k0 (by decide) (by decide)))
                · have B46 : sf_B 0 2147483647 a4 := sf_leR (Int32.not_lt.mp c44) sf_k0 (sf_any a4)
                  refine pm_R_lo pm_M143 (pc_q := 5) rfl rfl rfl ?_
                  refine pm_R_lo pm_M143 (pc_q := 6) rfl rfl rfl ?_
                  refine pm_R_get pm_M143 (pc_q := 9) (v := .int (Int32.ofNat s24)) rfl rfl (T.im hk22 (by decide) (by decide) eE32) (G.ge hk22 (by decide)) (T.al hk22 (by decide)) rfl rfl ?_
                  refine pm_R_icmp pm_M143 (t := 16) (pc_q := 12) rfl rfl rfl (fun c47 => ?_) (fun c47 => ?_)
                  · have B48 : sf_B 1 2147483647 a4 := sf_leR c47 (sf_ofB1 h30 h29 (by decide)) B46
                    refine pm_R_op pm_M143 (pc_q := 17) (st_q := [.int 0]) rfl rfl rfl ?_
                    refine pm_R_ret pm_M143 (r := some (.int 0)) rfl rfl ?_
                    show pm_R _ 152 32 [.ref 16, .int a2, .int a3, .int a4, .ref l20] [.int 0] _ _
                    refine pm_R_br pm_M152 (pc_q := 35) (st_q := []) rfl rfl ?_
                    refine pm_R_op pm_M152 (pc_q := 36) (st_q := [.int (-1)]) rfl rfl rfl ?_
                    refine pm_R_ret pm_M152 (r := some (.int (-1))) rfl rfl ?_
                    show pm_R _ 155 23 [.ref 16, .int a0, .int a1, .int a2, .int a3, .int a4, .null, .null, pm_no, pm_no, pm_no] [.int (-1)] _ _
                    refine pm_R_lo pm_M155 (pc_q := 25) (ls_q := [.ref 16, .int a0, .int a1, .int a2, .int a3, .int a4, .null, .null, .int (-1), pm_no, pm_no]) (st_q := []) rfl rfl rfl ?_
                    refine pm_R_lo pm_M155 (pc_q := 27) rfl rfl rfl ?_
                    refine pm_R_br pm_M155 (pc_q := 41) rfl rfl ?_
                    refine pm_R_op pm_M155 (pc_q := 42) (st_q := [.int 0]) rfl rfl rfl ?_
                    exact pm_R_ret pm_M155 (r := some (.int 0)) rfl rfl (K 0 m h T (cl_F.refl (ck := ck) (A := [32, 38]) (n := 0) (s := 0) T.1) (rf_W.refl [] m) (sf_weak sf_k0 (by decide) (by decide)))
                  · have B49 : sf_B 0 5 a4 := sf_ltL (Int32.not_le.mp c47) B46 (sf_ofB1 h30 h29 (by decide))
                    refine pm_R_op pm_M143 (pc_q := 13) (st_q := [.int 1]) rfl rfl rfl ?_
                    refine pm_R_br pm_M143 (pc_q := 17) rfl rfl ?_
                    refine pm_R_ret pm_M143 (r := some (.int 1)) rfl rfl ?_
                    show pm_R _ 152 32 [.ref 16, .int a2, .int a3, .int a4, .ref l20] [.int 1] _ _
                    refine pm_R_br pm_M152 (pc_q := 37) (st_q := []) rfl rfl ?_
                    refine pm_R_lo pm_M152 (pc_q := 39) rfl rfl rfl ?_
                    refine pm_R_lo pm_M152 (pc_q := 40) rfl rfl rfl ?_
                    refine pm_R_lo pm_M152 (pc_q := 41) rfl rfl rfl ?_
                    refine pm_R_cv pm_M152 (pc_q := 44) (a := l20) (ra := [.int a4, .int a3]) (rest := []) (ls_q := [.ref l20, .int a3, .int a4, pm_no, pm_no]) rfl rfl (Or.inl rfl) pm_M153 (T.im hk22 (by decide) (by decide) eE32) rfl (G.ge hk22 (by decide)) (T.al hk22 (by decide)) rfl rfl (Nat.le_of_ble_eq_true rfl) rfl rfl ?_
                    refine cl_c153 (d := d + 1) G T hk22 B43 B49 (fun r50 X57 B51 => ?_)
                    show pm_R _ 152 44 [.ref 16, .int a2, .int a3, .int a4, .ref l20] [.int r50] _ _
                    refine pm_R_ret pm_M152 (r := some (.int r50)) rfl (pm_ret_i _) ?_
                    show pm_R _ 155 23 [.ref 16, .int a0, .int a1, .int a2, .int a3, .int a4, .null, .null, pm_no, pm_no, pm_no] [.int r50] _ _
                    refine pm_R_lo pm_M155 (pc_q := 25) (ls_q := [.ref 16, .int a0, .int a1, .int a2, .int a3, .int a4, .null, .null, .int r50, pm_no, pm_no]) (st_q := []) rfl rfl rfl ?_
                    refine pm_R_lo pm_M155 (pc_q := 27) rfl rfl rfl ?_
                    refine pm_R_br pm_M155 (pc_q := 41) rfl rfl ?_
                    refine pm_R_op pm_M155 (pc_q := 42) (st_q := [.int 0]) rfl rfl rfl ?_
                    exact pm_R_ret pm_M155 (r := some (.int 0)) rfl rfl (K 0 m h T (cl_F.refl (ck := ck) (A := [32, 38]) (n := 0) (s := 0) T.1) (rf_W.refl [] m) (sf_weak sf_k0 (by decide) (by decide)))
        · skip
          refine pm_R_op pm_M139 (pc_q := 18) (st_q := [.null]) rfl rfl rfl ?_
          refine pm_R_br pm_M139 (pc_q := 30) rfl rfl ?_
          refine pm_R_ret pm_M139 (r := some (.null)) rfl rfl ?_
          show pm_R _ 152 5 [.ref 16, .int a2, .int a3, .int a4, pm_no] [.null] _ _
          refine pm_R_lo pm_M152 (pc_q := 7) (ls_q := [.ref 16, .int a2, .int a3, .int a4, .null]) (st_q := []) rfl rfl rfl ?_
          refine pm_R_lo pm_M152 (pc_q := 9) rfl rfl rfl ?_
          refine pm_R_br pm_M152 (pc_q := 35) rfl rfl ?_
          refine pm_R_op pm_M152 (pc_q := 36) (st_q := [.int (-1)]) rfl rfl rfl ?_
          refine pm_R_ret pm_M152 (r := some (.int (-1))) rfl rfl ?_
          show pm_R _ 155 23 [.ref 16, .int a0, .int a1, .int a2, .int a3, .int a4, .null, .null, pm_no, pm_no, pm_no] [.int (-1)] _ _
          refine pm_R_lo pm_M155 (pc_q := 25) (ls_q := [.ref 16, .int a0, .int a1, .int a2, .int a3, .int a4, .null, .null, .int (-1), pm_no, pm_no]) (st_q := []) rfl rfl rfl ?_
          refine pm_R_lo pm_M155 (pc_q := 27) rfl rfl rfl ?_
          refine pm_R_br pm_M155 (pc_q := 41) rfl rfl ?_
          refine pm_R_op pm_M155 (pc_q := 42) (st_q := [.int 0]) rfl rfl rfl ?_
          exact pm_R_ret pm_M155 (r := some (.int 0)) rfl rfl (K 0 m h T (cl_F.refl (ck := ck) (A := [32, 38]) (n := 0) (s := 0) T.1) (rf_W.refl [] m) (sf_weak sf_k0 (by decide) (by decide)))
    · have B58 : sf_B 0 2147483647 a1 := sf_leR (Int32.not_lt.mp c3) sf_k0 (sf_any a1)
      refine pm_R_lo pm_M66 (pc_q := 5) rfl rfl rfl ?_
      refine pm_R_lo pm_M66 (pc_q := 6) rfl rfl rfl ?_
      refine pm_R_get pm_M66 (pc_q := 9) (v := .ref 17) rfl rfl T.e16 (by decide) (T.lt (by decide)) rfl rfl ?_
      refine pm_R_get pm_M66 (pc_q := 12) (v := .ref 23) rfl rfl T.e17 (by decide) (T.lt (by decide)) rfl rfl ?_
      refine pm_R_op pm_M66 (pc_q := 13) (st_q := [.int 1, .ref 23, .int a1]) rfl rfl rfl ?_
      obtain ⟨f62, e63, b64⟩ := T.C 23 (by decide) (by decide)
      obtain ⟨z59, ez60⟩ : ∃ y, f62 (Int32.toNatClampNeg 1) = y := ⟨_, rfl⟩
      have B61 : sf_B 0 3 z59 := ez60 ▸ (b64 1)
      refine pm_R_iald pm_M66 (pc_q := 14) (v := z59) rfl e63 (T.lt (by decide)) rfl ez60 rfl ?_
      refine pm_R_icmp pm_M66 (t := 21) (pc_q := 17) rfl rfl rfl (fun c65 => ?_) (fun c65 => ?_)
      · have B66 : sf_B 0 2 a1 := sf_ltL c65 B58 B61
        have B67 : sf_B 1 3 z59 := sf_ltR c65 B58 B61
        refine pm_R_lo pm_M66 (pc_q := 22) rfl rfl rfl ?_
        refine pm_R_get pm_M66 (pc_q := 25) (v := .ref 17) rfl rfl T.e16 (by decide) (T.lt (by decide)) rfl rfl ?_
        refine pm_R_get pm_M66 (pc_q := 28) (v := .ref 20) rfl rfl T.e17 (by decide) (T.lt (by decide)) rfl rfl ?_
        refine pm_R_lo pm_M66 (pc_q := 29) rfl rfl rfl ?_
        obtain ⟨f68, e69, b70⟩ := T.C 20 (by decide) (by decide)
        obtain ⟨l71, hx72⟩ := cl_there1 T e63 e69 ez60 c65 B66 (by decide)
        have hk73 := b70 _ _ hx72
        refine pm_R_aald pm_M66 (pc_q := 30) (v := .ref l71) rfl e69 (by decide) (by decide) (by decide) (T.lt (by decide)) (sf_in B66 (by decide) (by decide)) (by rw [hx72]; rfl) rfl ?_
        refine pm_R_ret pm_M66 (r := some (.ref l71)) rfl rfl ?_
        show pm_R _ 155 12 [.ref 16, .int a0, .int a1, .int a2, .int a3, .int a4, .null, pm_no, pm_no, pm_no, pm_no] [.ref l71] _ _
        refine pm_R_lo pm_M155 (pc_q := 14) (ls_q := [.ref 16, .int a0, .int a1, .int a2, .int a3, .int a4, .null, .ref l71, pm_no, pm_no, pm_no]) (st_q := []) rfl rfl rfl ?_
        refine pm_R_lo pm_M155 (pc_q := 15) rfl rfl rfl ?_
        refine pm_R_lo pm_M155 (pc_q := 16) rfl rfl rfl ?_
        refine pm_R_lo pm_M155 (pc_q := 18) rfl rfl rfl ?_
        refine pm_R_lo pm_M155 (pc_q := 20) rfl rfl rfl ?_
        refine pm_R_cv pm_M155 (pc_q := 23) (a := 16) (ra := [.int a4, .int a3, .int a2]) (rest := []) (ls_q := [.ref 16, .int a2, .int a3, .int a4, pm_no]) rfl rfl (Or.inl rfl) pm_M152 T.e16 rfl (by decide) (T.lt (by decide)) rfl rfl (Nat.le_of_ble_eq_true rfl) rfl rfl ?_
        refine pm_R_lo pm_M152 (pc_q := 1) rfl rfl rfl ?_
        refine pm_R_lo pm_M152 (pc_q := 2) rfl rfl rfl ?_
        refine pm_R_cv pm_M152 (pc_q := 5) (a := 16) (ra := [.int a2]) (rest := []) (ls_q := [.ref 16, .int a2]) rfl rfl (Or.inl rfl) pm_M139 T.e16 rfl (by decide) (T.lt (by decide)) rfl rfl (Nat.le_of_ble_eq_true rfl) rfl rfl ?_
        refine pm_R_lo pm_M139 (pc_q := 1) rfl rfl rfl ?_
        refine pm_R_ifc pm_M139 (t := 17) (pc_q := 4) rfl rfl rfl (fun c74 => ?_) (fun c74 => ?_)
        · have B75 : sf_B (-2147483648) (-1) a2 := sf_ltL c74 (sf_any a2) sf_k0
          refine pm_R_op pm_M139 (pc_q := 18) (st_q := [.null]) rfl rfl rfl ?_
          refine pm_R_br pm_M139 (pc_q := 30) rfl rfl ?_
          refine pm_R_ret pm_M139 (r := some (.null)) rfl rfl ?_
          show pm_R _ 152 5 [.ref 16, .int a2, .int a3, .int a4, pm_no] [.null] _ _
          refine pm_R_lo pm_M152 (pc_q := 7) (ls_q := [.ref 16, .int a2, .int a3, .int a4, .null]) (st_q := []) rfl rfl rfl ?_
          refine pm_R_lo pm_M152 (pc_q := 9) rfl rfl rfl ?_
          refine pm_R_br pm_M152 (pc_q := 35) rfl rfl ?_
          refine pm_R_op pm_M152 (pc_q := 36) (st_q := [.int (-1)]) rfl rfl rfl ?_
          refine pm_R_ret pm_M152 (r := some (.int (-1))) rfl rfl ?_
          show pm_R _ 155 23 [.ref 16, .int a0, .int a1, .int a2, .int a3, .int a4, .null, .ref l71, pm_no, pm_no, pm_no] [.int (-1)] _ _
          refine pm_R_lo pm_M155 (pc_q := 25) (ls_q := [.ref 16, .int a0, .int a1, .int a2, .int a3, .int a4, .null, .ref l71, .int (-1), pm_no, pm_no]) (st_q := []) rfl rfl rfl ?_
          refine pm_R_lo pm_M155 (pc_q := 27) rfl rfl rfl ?_
          refine pm_R_br pm_M155 (pc_q := 41) rfl rfl ?_
          refine pm_R_op pm_M155 (pc_q := 42) (st_q := [.int 0]) rfl rfl rfl ?_
          exact pm_R_ret pm_M155 (r := some (.int 0)) rfl rfl (K 0 m h T (cl_F.refl (ck := ck) (A := [32, 38]) (n := 0) (s := 0) T.1) (rf_W.refl [] m) (sf_weak sf_k0 (by decide) (by decide)))
        · have B76 : sf_B 0 2147483647 a2 := sf_leR (Int32.not_lt.mp c74) sf_k0 (sf_any a2)
          refine pm_R_lo pm_M139 (pc_q := 5) rfl rfl rfl ?_
          refine pm_R_lo pm_M139 (pc_q := 6) rfl rfl rfl ?_
          refine pm_R_get pm_M139 (pc_q := 9) (v := .ref 17) rfl rfl T.e16 (by decide) (T.lt (by decide)) rfl rfl ?_
          refine pm_R_get pm_M139 (pc_q := 12) (v := .ref 23) rfl rfl T.e17 (by decide) (T.lt (by decide)) rfl rfl ?_
          refine pm_R_op pm_M139 (pc_q := 13) (st_q := [.int 2, .ref 23, .int a2]) rfl rfl rfl ?_
          obtain ⟨z77, ez78⟩ : ∃ y, f62 (Int32.toNatClampNeg 2) = y := ⟨_, rfl⟩
          have B79 : sf_B 0 2 z77 := ez78 ▸ (b64 2)
          refine pm_R_iald pm_M139 (pc_q := 14) (v := z77) rfl e63 (T.lt (by decide)) rfl ez78 rfl ?_
          refine pm_R_icmp pm_M139 (t := 21) (pc_q := 17) rfl rfl rfl (fun c80 => ?_) (fun c80 => ?_)
          · have B81 : sf_B 0 1 a2 := sf_ltL c80 B76 B79
            have B82 : sf_B 1 2 z77 := sf_ltR c80 B76 B79
            refine pm_R_lo pm_M139 (pc_q := 22) rfl rfl rfl ?_
            refine pm_R_get pm_M139 (pc_q := 25) (v := .ref 17) rfl rfl T.e16 (by decide) (T.lt (by decide)) rfl rfl ?_
            refine pm_R_get pm_M139 (pc_q := 28) (v := .ref 21) rfl rfl T.e17 (by decide) (T.lt (by decide)) rfl rfl ?_
            refine pm_R_lo pm_M139 (pc_q := 29) rfl rfl rfl ?_
            obtain ⟨f83, e84, b85⟩ := T.C 21 (by decide) (by decide)
            obtain ⟨l86, hx87⟩ := cl_there2 T e63 e84 ez78 c80 B81 (by decide)
            have hk88 := b85 _ _ hx87
            refine pm_R_aald pm_M139 (pc_q := 30) (v := .ref l86) rfl e84 (by decide) (by decide) (by decide) (T.lt (by decide)) (sf_in B81 (by decide) (by decide)) (by rw [hx87]; rfl) rfl ?_
            refine pm_R_ret pm_M139 (r := some (.ref l86)) rfl rfl ?_
            show pm_R _ 152 5 [.ref 16, .int a2, .int a3, .int a4, pm_no] [.ref l86] _ _
            refine pm_R_lo pm_M152 (pc_q := 7) (ls_q := [.ref 16, .int a2, .int a3, .int a4, .ref l86]) (st_q := []) rfl rfl rfl ?_
            refine pm_R_lo pm_M152 (pc_q := 9) rfl rfl rfl ?_
            refine pm_R_br pm_M152 (pc_q := 12) rfl rfl ?_
            refine pm_R_lo pm_M152 (pc_q := 13) rfl rfl rfl ?_
            refine pm_R_lo pm_M152 (pc_q := 14) rfl rfl rfl ?_
            refine pm_R_icmp pm_M152 (t := 35) (pc_q := 17) rfl rfl rfl (fun c89 => ?_) (fun c89 => ?_)
            · refine pm_R_op pm_M152 (pc_q := 36) (st_q := [.int (-1)]) rfl rfl rfl ?_
              refine pm_R_ret pm_M152 (r := some (.int (-1))) rfl rfl ?_
              show pm_R _ 155 23 [.ref 16, .int a0, .int a1, .int a2, .int a3, .int a4, .null, .ref l71, pm_no, pm_no, pm_no] [.int (-1)] _ _
              refine pm_R_lo pm_M155 (pc_q := 25) (ls_q := [.ref 16, .int a0, .int a1, .int a2, .int a3, .int a4, .null, .ref l71, .int (-1), pm_no, pm_no]) (st_q := []) rfl rfl rfl ?_
              refine pm_R_lo pm_M155 (pc_q := 27) rfl rfl rfl ?_
              refine pm_R_br pm_M155 (pc_q := 41) rfl rfl ?_
              refine pm_R_op pm_M155 (pc_q := 42) (st_q := [.int 0]) rfl rfl rfl ?_
              exact pm_R_ret pm_M155 (r := some (.int 0)) rfl rfl (K 0 m h T (cl_F.refl (ck := ck) (A := [32, 38]) (n := 0) (s := 0) T.1) (rf_W.refl [] m) (sf_weak sf_k0 (by decide) (by decide)))
            · skip
              refine pm_R_lo pm_M152 (pc_q := 19) rfl rfl rfl ?_
              refine pm_R_lo pm_M152 (pc_q := 20) rfl rfl rfl ?_
              obtain ⟨s90, n91, fd92, fg93, fs94, h95, h96, h97, eE98, eE99, eE100, eE101, b102⟩ := (G.2.2.2.1 l86 hk88).2.2.2
              have kq103 := G.2.2.2.1 l86 hk88
              refine pm_R_cv pm_M152 (pc_q := 23) (a := l86) (ra := [.int a3]) (rest := []) (ls_q := [.ref l86, .int a3]) rfl rfl (Or.inl rfl) pm_M143 (T.im hk88 (by decide) (by decide) eE98) rfl (G.ge hk88 (by decide)) (T.al hk88 (by decide)) rfl rfl (Nat.le_of_ble_eq_true rfl) rfl rfl ?_
              refine pm_R_lo pm_M143 (pc_q := 1) rfl rfl rfl ?_
              refine pm_R_ifc pm_M143 (t := 16) (pc_q := 4) rfl rfl rfl (fun c104 => ?_) (fun c104 => ?_)
              · have B105 : sf_B (-2147483648) (-1) a3 := sf_ltL c104 (sf_any a3) sf_k0
                refine pm_R_op pm_M143 (pc_q := 17) (st_q := [.int 0]) rfl rfl rfl ?_
                refine pm_R_ret pm_M143 (r := some (.int 0)) rfl rfl ?_
                show pm_R _ 152 23 [.ref 16, .int a2, .int a3, .int a4, .ref l86] [.int 0] _ _
                refine pm_R_br pm_M152 (pc_q := 35) (st_q := []) rfl rfl ?_
                refine pm_R_op pm_M152 (pc_q := 36) (st_q := [.int (-1)]) rfl rfl rfl ?_
                refine pm_R_ret pm_M152 (r := some (.int (-1))) rfl rfl ?_
                show pm_R _ 155 23 [.ref 16, .int a0, .int a1, .int a2, .int a3, .int a4, .null, .ref l71, pm_no, pm_no, pm_no] [.int (-1)] _ _
                refine pm_R_lo pm_M155 (pc_q := 25) (ls_q := [.ref 16, .int a0, .int a1, .int a2, .int a3, .int a4, .null, .ref l71, .int (-1), pm_no, pm_no]) (st_q := []) rfl rfl rfl ?_
                refine pm_R_lo pm_M155 (pc_q := 27) rfl rfl rfl ?_
                refine pm_R_br pm_M155 (pc_q := 41) rfl rfl ?_
                refine pm_R_op pm_M155 (pc_q := 42) (st_q := [.int 0]) rfl rfl rfl ?_
                exact pm_R_ret pm_M155 (r := some (.int 0)) rfl rfl (K 0 m h T (cl_F.refl (ck := ck) (A := [32, 38]) (n := 0) (s := 0) T.1) (rf_W.refl [] m) (sf_weak sf_k0 (by decide) (by decide)))
              · have B106 : sf_B 0 2147483647 a3 := sf_leR (Int32.not_lt.mp c104) sf_k0 (sf_any a3)
                refine pm_R_lo pm_M143 (pc_q := 5) rfl rfl rfl ?_
                refine pm_R_lo pm_M143 (pc_q := 6) rfl rfl rfl ?_
                refine pm_R_get pm_M143 (pc_q := 9) (v := .int (Int32.ofNat s90)) rfl rfl (T.im hk88 (by decide) (by decide) eE98) (G.ge hk88 (by decide)) (T.al hk88 (by decide)) rfl rfl ?_
                refine pm_R_icmp pm_M143 (t := 16) (pc_q := 12) rfl rfl rfl (fun c107 => ?_) (fun c107 => ?_)
                · have B108 : sf_B 1 2147483647 a3 := sf_leR c107 (sf_ofB1 h96 h95 (by decide)) B106
                  refine pm_R_op pm_M143 (pc_q := 17) (st_q := [.int 0]) rfl rfl rfl ?_
                  refine pm_R_ret pm_M143 (r := some (.int 0)) rfl rfl ?_
                  show pm_R _ 152 23 [.ref 16, .int a2, .int a3, .int a4, .ref l86] [.int 0] _ _
                  refine pm_R_br pm_M152 (pc_q := 35) (st_q := []) rfl rfl ?_
                  refine pm_R_op pm_M152 (pc_q := 36) (st_q := [.int (-1)]) rfl rfl rfl ?_
                  refine pm_R_ret pm_M152 (r := some (.int (-1))) rfl rfl ?_
                  show pm_R _ 155 23 [.ref 16, .int a0, .int a1, .int a2, .int a3, .int a4, .null, .ref l71, pm_no, pm_no, pm_no] [.int (-1)] _ _
                  refine pm_R_lo pm_M155 (pc_q := 25) (ls_q := [.ref 16, .int a0, .int a1, .int a2, .int a3, .int a4, .null, .ref l71, .int (-1), pm_no, pm_no]) (st_q := []) rfl rfl rfl ?_
                  refine pm_R_lo pm_M155 (pc_q := 27) rfl rfl rfl ?_
                  refine pm_R_br pm_M155 (pc_q := 41) rfl rfl ?_
                  refine pm_R_op pm_M155 (pc_q := 42) (st_q := [.int 0]) rfl rfl rfl ?_
                  exact pm_R_ret pm_M155 (r := some (.int 0)) rfl rfl (K 0 m h T (cl_F.refl (ck := ck) (A := [32, 38]) (n := 0) (s := 0) T.1) (rf_W.refl [] m) (sf_weak sf_k0 (by decide) (by decide)))
                · have B109 : sf_B 0 5 a3 := sf_ltL (Int32.not_le.mp c107) B106 (sf_ofB1 h96 h95 (by decide))
                  refine pm_R_op pm_M143 (pc_q := 13) (st_q := [.int 1]) rfl rfl rfl ?_
                  refine pm_R_br pm_M143 (pc_q := 17) rfl rfl ?_
                  refine pm_R_ret pm_M143 (r := some (.int 1)) rfl rfl ?_
                  show pm_R _ 152 23 [.ref 16, .int a2, .int a3, .int a4, .ref l86] [.int 1] _ _
                  refine pm_R_br pm_M152 (pc_q := 26) (st_q := []) rfl rfl ?_
                  refine pm_R_lo pm_M152 (pc_q := 28) rfl rfl rfl ?_
                  refine pm_R_lo pm_M152 (pc_q := 29) rfl rfl rfl ?_
                  refine pm_R_cv pm_M152 (pc_q := 32) (a := l86) (ra := [.int a4]) (rest := []) (ls_q := [.ref l86, .int a4]) rfl rfl (Or.inl rfl) pm_M143 (T.im hk88 (by decide) (by decide) eE98) rfl (G.ge hk88 (by decide)) (T.al hk88 (by decide)) rfl rfl (Nat.le_of_ble_eq_true rfl) rfl rfl ?_
                  refine pm_R_lo pm_M143 (pc_q := 1) rfl rfl rfl ?_
                  refine pm_R_ifc pm_M143 (t := 16) (pc_q := 4) rfl rfl rfl (fun c110 => ?_) (fun c110 => ?_)
                  · have B111 : sf_B (-2147483648) (-1) a4 := sf_ltL c110 (sf_any a4) sf_k0
                    refine pm_R_op pm_M143 (pc_q := 17) (st_q := [.int 0]) rfl rfl rfl ?_
                    refine pm_R_ret pm_M143 (r := some (.int 0)) rfl rfl ?_
                    show pm_R _ 152 32 [.ref 16, .int a2, .int a3, .int a4, .ref l86] [.int 0] _ _
                    refine pm_R_br pm_M152 (pc_q := 35) (st_q := []) rfl rfl ?_
                    refine pm_R_op pm_M152 (pc_q := 36) (st_q := [.int (-1)]) rfl rfl rfl ?_
                    refine pm_R_ret pm_M152 (r := some (.int (-1))) rfl rfl ?_
                    show pm_R _ 155 23 [.ref 16, .int a0, .int a1, .int a2, .int a3, .int a4, .null, .ref l71, pm_no, pm_no, pm_no] [.int (-1)] _ _
                    refine pm_R_lo pm_M155 (pc_q := 25) (ls_q := [.ref 16, .int a0, .int a1, .int a2, .int a3, .int a4, .null, .ref l71, .int (-1), pm_no, pm_no]) (st_q := []) rfl rfl rfl ?_
                    refine pm_R_lo pm_M155 (pc_q := 27) rfl rfl rfl ?_
                    refine pm_R_br pm_M155 (pc_q := 41) rfl rfl ?_
                    refine pm_R_op pm_M155 (pc_q := 42) (st_q := [.int 0]) rfl rfl rfl ?_
                    exact pm_R_ret pm_M155 (r := some (.int 0)) rfl rfl (K 0 m h T (cl_F.refl (ck := ck) (A := [32, 38]) (n := 0) (s := 0) T.1) (rf_W.refl [] m) (sf_weak sf_k0 (by decide) (by decide)))
                  · have B112 : sf_B 0 2147483647 a4 := sf_leR (Int32.not_lt.mp c110) sf_k0 (sf_any a4)
                    refine pm_R_lo pm_M143 (pc_q := 5) rfl rfl rfl ?_
                    refine pm_R_lo pm_M143 (pc_q := 6) rfl rfl rfl ?_
                    refine pm_R_get pm_M143 (pc_q := 9) (v := .int (Int32.ofNat s90)) rfl rfl (T.im hk88 (by decide) (by decide) eE98) (G.ge hk88 (by decide)) (T.al hk88 (by decide)) rfl rfl ?_
                    refine pm_R_icmp pm_M143 (t := 16) (pc_q := 12) rfl rfl rfl (fun c113 => ?_) (fun c113 => ?_)
                    · have B114 : sf_B 1 2147483647 a4 := sf_leR c113 (sf_ofB1 h96 h95 (by decide)) B112
                      refine pm_R_op pm_M143 (pc_q := 17) (st_q := [.int 0]) rfl rfl rfl ?_
                      refine pm_R_ret pm_M143 (r := some (.int 0)) rfl rfl ?_
                      show pm_R _ 152 32 [.ref 16, .int a2, .int a3, .int a4, .ref l86] [.int 0] _ _
                      refine pm_R_br pm_M152 (pc_q := 35) (st_q := []) rfl rfl ?_
                      refine pm_R_op pm_M152 (pc_q := 36) (st_q := [.int (-1)]) rfl rfl rfl ?_
                      refine pm_R_ret pm_M152 (r := some (.int (-1))) rfl rfl ?_
                      show pm_R _ 155 23 [.ref 16, .int a0, .int a1, .int a2, .int a3, .int a4, .null, .ref l71, pm_no, pm_no, pm_no] [.int (-1)] _ _
                      refine pm_R_lo pm_M155 (pc_q := 25) (ls_q := [.ref 16, .int a0, .int a1, .int a2, .int a3, .int a4, .null, .ref l71, .int (-1), pm_no, pm_no]) (st_q := []) rfl rfl rfl ?_
                      refine pm_R_lo pm_M155 (pc_q := 27) rfl rfl rfl ?_
                      refine pm_R_br pm_M155 (pc_q := 41) rfl rfl ?_
                      refine pm_R_op pm_M155 (pc_q := 42) (st_q := [.int 0]) rfl rfl rfl ?_
                      exact pm_R_ret pm_M155 (r := some (.int 0)) rfl rfl (K 0 m h T (cl_F.refl (ck := ck) (A := [32, 38]) (n := 0) (s := 0) T.1) (rf_W.refl [] m) (sf_weak sf_k0 (by decide) (by decide)))
                    · have B115 : sf_B 0 5 a4 := sf_ltL (Int32.not_le.mp c113) B112 (sf_ofB1 h96 h95 (by decide))
                      refine pm_R_op pm_M143 (pc_q := 13) (st_q := [.int 1]) rfl rfl rfl ?_
                      refine pm_R_br pm_M143 (pc_q := 17) rfl rfl ?_
                      refine pm_R_ret pm_M143 (r := some (.int 1)) rfl rfl ?_
                      show pm_R _ 152 32 [.ref 16, .int a2, .int a3, .int a4, .ref l86] [.int 1] _ _
                      refine pm_R_br pm_M152 (pc_q := 37) (st_q := []) rfl rfl ?_
                      refine pm_R_lo pm_M152 (pc_q := 39) rfl rfl rfl ?_
                      refine pm_R_lo pm_M152 (pc_q := 40) rfl rfl rfl ?_
                      refine pm_R_lo pm_M152 (pc_q := 41) rfl rfl rfl ?_
                      refine pm_R_cv pm_M152 (pc_q := 44) (a := l86) (ra := [.int a4, .int a3]) (rest := []) (ls_q := [.ref l86, .int a3, .int a4, pm_no, pm_no]) rfl rfl (Or.inl rfl) pm_M153 (T.im hk88 (by decide) (by decide) eE98) rfl (G.ge hk88 (by decide)) (T.al hk88 (by decide)) rfl rfl (Nat.le_of_ble_eq_true rfl) rfl rfl ?_
                      refine cl_c153 (d := d + 1) G T hk88 B109 B115 (fun r116 X123 B117 => ?_)
                      show pm_R _ 152 44 [.ref 16, .int a2, .int a3, .int a4, .ref l86] [.int r116] _ _
                      refine pm_R_ret pm_M152 (r := some (.int r116)) rfl (pm_ret_i _) ?_
                      show pm_R _ 155 23 [.ref 16, .int a0, .int a1, .int a2, .int a3, .int a4, .null, .ref l71, pm_no, pm_no, pm_no] [.int r116] _ _
                      refine pm_R_lo pm_M155 (pc_q := 25) (ls_q := [.ref 16, .int a0, .int a1, .int a2, .int a3, .int a4, .null, .ref l71, .int r116, pm_no, pm_no]) (st_q := []) rfl rfl rfl ?_
                      refine pm_R_lo pm_M155 (pc_q := 27) rfl rfl rfl ?_
                      refine pm_R_br pm_M155 (pc_q := 41) rfl rfl ?_
                      refine pm_R_op pm_M155 (pc_q := 42) (st_q := [.int 0]) rfl rfl rfl ?_
                      exact pm_R_ret pm_M155 (r := some (.int 0)) rfl rfl (K 0 m h T (cl_F.refl (ck := ck) (A := [32, 38]) (n := 0) (s := 0) T.1) (rf_W.refl [] m) (sf_weak sf_k0 (by decide) (by decide)))
          · skip
            refine pm_R_op pm_M139 (pc_q := 18) (st_q := [.null]) rfl rfl rfl ?_
            refine pm_R_br pm_M139 (pc_q := 30) rfl rfl ?_
            refine pm_R_ret pm_M139 (r := some (.null)) rfl rfl ?_
            show pm_R _ 152 5 [.ref 16, .int a2, .int a3, .int a4, pm_no] [.null] _ _
            refine pm_R_lo pm_M152 (pc_q := 7) (ls_q := [.ref 16, .int a2, .int a3, .int a4, .null]) (st_q := []) rfl rfl rfl ?_
            refine pm_R_lo pm_M152 (pc_q := 9) rfl rfl rfl ?_
            refine pm_R_br pm_M152 (pc_q := 35) rfl rfl ?_
            refine pm_R_op pm_M152 (pc_q := 36) (st_q := [.int (-1)]) rfl rfl rfl ?_
            refine pm_R_ret pm_M152 (r := some (.int (-1))) rfl rfl ?_
            show pm_R _ 155 23 [.ref 16, .int a0, .int a1, .int a2, .int a3, .int a4, .null, .ref l71, pm_no, pm_no, pm_no] [.int (-1)] _ _
            refine pm_R_lo pm_M155 (pc_q := 25) (ls_q := [.ref 16, .int a0, .int a1, .int a2, .int a3, .int a4, .null, .ref l71, .int (-1), pm_no, pm_no]) (st_q := []) rfl rfl rfl ?_
            refine pm_R_lo pm_M155 (pc_q := 27) rfl rfl rfl ?_
            refine pm_R_br pm_M155 (pc_q := 41) rfl rfl ?_
            refine pm_R_op pm_M155 (pc_q := 42) (st_q := [.int 0]) rfl rfl rfl ?_
            exact pm_R_ret pm_M155 (r := some (.int 0)) rfl rfl (K 0 m h T (cl_F.refl (ck := ck) (A := [32, 38]) (n := 0) (s := 0) T.1) (rf_W.refl [] m) (sf_weak sf_k0 (by decide) (by decide)))
      · skip
        refine pm_R_op pm_M66 (pc_q := 18) (st_q := [.null]) rfl rfl rfl ?_
        refine pm_R_br pm_M66 (pc_q := 30) rfl rfl ?_
        refine pm_R_ret pm_M66 (r := some (.null)) rfl rfl ?_
        show pm_R _ 155 12 [.ref 16, .int a0, .int a1, .int a2, .int a3, .int a4, .null, pm_no, pm_no, pm_no, pm_no] [.null] _ _
        refine pm_R_lo pm_M155 (pc_q := 14) (ls_q := [.ref 16, .int a0, .int a1, .int a2, .int a3, .int a4, .null, .null, pm_no, pm_no, pm_no]) (st_q := []) rfl rfl rfl ?_
        refine pm_R_lo pm_M155 (pc_q := 15) rfl rfl rfl ?_
        refine pm_R_lo pm_M155 (pc_q := 16) rfl rfl rfl ?_
        refine pm_R_lo pm_M155 (pc_q := 18) rfl rfl rfl ?_
        refine pm_R_lo pm_M155 (pc_q := 20) rfl rfl rfl ?_
        refine pm_R_cv pm_M155 (pc_q := 23) (a := 16) (ra := [.int a4, .int a3, .int a2]) (rest := []) (ls_q := [.ref 16, .int a2, .int a3, .int a4, pm_no]) rfl rfl (Or.inl rfl) pm_M152 T.e16 rfl (by decide) (T.lt (by decide)) rfl rfl (Nat.le_of_ble_eq_true rfl) rfl rfl ?_
        refine pm_R_lo pm_M152 (pc_q := 1) rfl rfl rfl ?_
        refine pm_R_lo pm_M152 (pc_q := 2) rfl rfl rfl ?_
        refine pm_R_cv pm_M152 (pc_q := 5) (a := 16) (ra := [.int a2]) (rest := []) (ls_q := [.ref 16, .int a2]) rfl rfl (Or.inl rfl) pm_M139 T.e16 rfl (by decide) (T.lt (by decide)) rfl rfl (Nat.le_of_ble_eq_true rfl) rfl rfl ?_
        refine pm_R_lo pm_M139 (pc_q := 1) rfl rfl rfl ?_
        refine pm_R_ifc pm_M139 (t := 17) (pc_q := 4) rfl rfl rfl (fun c124 => ?_) (fun c124 => ?_)
        · have B125 : sf_B (-2147483648) (-1) a2 := sf_ltL c124 (sf_any a2) sf_k0
          refine pm_R_op pm_M139 (pc_q := 18) (st_q := [.null]) rfl rfl rfl ?_
          refine pm_R_br pm_M139 (pc_q := 30) rfl rfl ?_
          refine pm_R_ret pm_M139 (r := some (.null)) rfl rfl ?_
          show pm_R _ 152 5 [.ref 16, .int a2, .int a3, .int a4, pm_no] [.null] _ _
          refine pm_R_lo pm_M152 (pc_q := 7) (ls_q := [.ref 16, .int a2, .int a3, .int a4, .null]) (st_q := []) rfl rfl rfl ?_
          refine pm_R_lo pm_M152 (pc_q := 9) rfl rfl rfl ?_
          refine pm_R_br pm_M152 (pc_q := 35) rfl rfl ?_
          refine pm_R_op pm_M152 (pc_q := 36) (st_q := [.int (-1)]) rfl rfl rfl ?_
          refine pm_R_ret pm_M152 (r := some (.int (-1))) rfl rfl ?_
          show pm_R _ 155 23 [.ref 16, .int a0, .int a1, .int a2, .int a3, .int a4, .null, .null, pm_no, pm_no, pm_no] [.int (-1)] _ _
          refine pm_R_lo pm_M155 (pc_q := 25) (ls_q := [.ref 16, .int a0, .int a1, .int a2, .int a3, .int a4, .null, .null, .int (-1), pm_no, pm_no]) (st_q := []) rfl rfl rfl ?_
          refine pm_R_lo pm_M155 (pc_q := 27) rfl rfl rfl ?_
          refine pm_R_br pm_M155 (pc_q := 41) rfl rfl ?_
          refine pm_R_op pm_M155 (pc_q := 42) (st_q := [.int 0]) rfl rfl rfl ?_
          exact pm_R_ret pm_M155 (r := some (.int 0)) rfl rfl (K 0 m h T (cl_F.refl (ck := ck) (A := [32, 38]) (n := 0) (s := 0) T.1) (rf_W.refl [] m) (sf_weak sf_k0 (by decide) (by decide)))
        · have B126 : sf_B 0 2147483647 a2 := sf_leR (Int32.not_lt.mp c124) sf_k0 (sf_any a2)
          refine pm_R_lo pm_M139 (pc_q := 5) rfl rfl rfl ?_
          refine pm_R_lo pm_M139 (pc_q := 6) rfl rfl rfl ?_
          refine pm_R_get pm_M139 (pc_q := 9) (v := .ref 17) rfl rfl T.e16 (by decide) (T.lt (by decide)) rfl rfl ?_
          refine pm_R_get pm_M139 (pc_q := 12) (v := .ref 23) rfl rfl T.e17 (by decide) (T.lt (by decide)) rfl rfl ?_
          refine pm_R_op pm_M139 (pc_q := 13) (st_q := [.int 2, .ref 23, .int a2]) rfl rfl rfl ?_
          obtain ⟨z127, ez128⟩ : ∃ y, f62 (Int32.toNatClampNeg 2) = y := ⟨_, rfl⟩
          have B129 : sf_B 0 2 z127 := ez128 ▸ (b64 2)
          refine pm_R_iald pm_M139 (pc_q := 14) (v := z127) rfl e63 (T.lt (by decide)) rfl ez128 rfl ?_
          refine pm_R_icmp pm_M139 (t := 21) (pc_q := 17) rfl rfl rfl (fun c130 => ?_) (fun c130 => ?_)
          · have B131 : sf_B 0 1 a2 := sf_ltL c130 B126 B129
            have B132 : sf_B 1 2 z127 := sf_ltR c130 B126 B129
            refine pm_R_lo pm_M139 (pc_q := 22) rfl rfl rfl ?_
            refine pm_R_get pm_M139 (pc_q := 25) (v := .ref 17) rfl rfl T.e16 (by decide) (T.lt (by decide)) rfl rfl ?_
            refine pm_R_get pm_M139 (pc_q := 28) (v := .ref 21) rfl rfl T.e17 (by decide) (T.lt (by decide)) rfl rfl ?_
            refine pm_R_lo pm_M139 (pc_q := 29) rfl rfl rfl ?_
            obtain ⟨f133, e134, b135⟩ := T.C 21 (by decide) (by decide)
            obtain ⟨l136, hx137⟩ := cl_there2 T e63 e134 ez128 c130 B131 (by decide)
            have hk138 := b135 _ _ hx137
            refine pm_R_aald pm_M139 (pc_q := 30) (v := .ref l136) rfl e134 (by decide) (by decide) (by decide) (T.lt (by decide)) (sf_in B131 (by decide) (by decide)) (by rw [hx137]; rfl) rfl ?_
            refine pm_R_ret pm_M139 (r := some (.ref l136)) rfl rfl ?_
            show pm_R _ 152 5 [.ref 16, .int a2, .int a3, .int a4, pm_no] [.ref l136] _ _
            refine pm_R_lo pm_M152 (pc_q := 7) (ls_q := [.ref 16, .int a2, .int a3, .int a4, .ref l136]) (st_q := []) rfl rfl rfl ?_
            refine pm_R_lo pm_M152 (pc_q := 9) rfl rfl rfl ?_
            refine pm_R_br pm_M152 (pc_q := 12) rfl rfl ?_
            refine pm_R_lo pm_M152 (pc_q := 13) rfl rfl rfl ?_
            refine pm_R_lo pm_M152 (pc_q := 14) rfl rfl rfl ?_
            refine pm_R_icmp pm_M152 (t := 35) (pc_q := 17) rfl rfl rfl (fun c139 => ?_) (fun c139 => ?_)
            · refine pm_R_op pm_M152 (pc_q := 36) (st_q := [.int (-1)]) rfl rfl rfl ?_
              refine pm_R_ret pm_M152 (r := some (.int (-1))) rfl rfl ?_
              show pm_R _ 155 23 [.ref 16, .int a0, .int a1, .int a2, .int a3, .int a4, .null, .null, pm_no, pm_no, pm_no] [.int (-1)] _ _
              refine pm_R_lo pm_M155 (pc_q := 25) (ls_q := [.ref 16, .int a0, .int a1, .int a2, .int a3, .int a4, .null, .null, .int (-1), pm_no, pm_no]) (st_q := []) rfl rfl rfl ?_
              refine pm_R_lo pm_M155 (pc_q := 27) rfl rfl rfl ?_
              refine pm_R_br pm_M155 (pc_q := 41) rfl rfl ?_
              refine pm_R_op pm_M155 (pc_q := 42) (st_q := [.int 0]) rfl rfl rfl ?_
              exact pm_R_ret pm_M155 (r := some (.int 0)) rfl rfl (K 0 m h T (cl_F.refl (ck := ck) (A := [32, 38]) (n := 0) (s := 0) T.1) (rf_W.refl [] m) (sf_weak sf_k0 (by decide) (by decide)))
            · skip
              refine pm_R_lo pm_M152 (pc_q := 19) rfl rfl rfl ?_
              refine pm_R_lo pm_M152 (pc_q := 20) rfl rfl rfl ?_
              obtain ⟨s140, n141, fd142, fg143, fs144, h145, h146, h147, eE148, eE149, eE150, eE151, b152⟩ := (G.2.2.2.1 l136 hk138).2.2.2
              have kq153 := G.2.2.2.1 l136 hk138
              refine pm_R_cv pm_M152 (pc_q := 23) (a := l136) (ra := [.int a3]) (rest := []) (ls_q := [.ref l136, .int a3]) rfl rfl (Or.inl rfl) pm_M143 (T.im hk138 (by decide) (by decide) eE148) rfl (G.ge hk138 (by decide)) (T.al hk138 (by decide)) rfl rfl (Nat.le_of_ble_eq_true rfl) rfl rfl ?_
              refine pm_R_lo pm_M143 (pc_q := 1) rfl rfl rfl ?_
              refine pm_R_ifc pm_M143 (t := 16) (pc_q := 4) rfl rfl rfl (fun c154 => ?_) (fun c154 => ?_)
              · have B155 : sf_B (-2147483648) (-1) a3 := sf_ltL c154 (sf_any a3) sf_k0
                refine pm_R_op pm_M143 (pc_q := 17) (st_q := [.int 0]) rfl rfl rfl ?_
                refine pm_R_ret pm_M143 (r := some (.int 0)) rfl rfl ?_
                show pm_R _ 152 23 [.ref 16, .int a2, .int a3, .int a4, .ref l136] [.int 0] _ _
                refine pm_R_br pm_M152 (pc_q := 35) (st_q := []) rfl rfl ?_
                refine pm_R_op pm_M152 (pc_q := 36) (st_q := [.int (-1)]) rfl rfl rfl ?_
                refine pm_R_ret pm_M152 (r := some (.int (-1))) rfl rfl ?_
                show pm_R _ 155 23 [.ref 16, .int a0, .int a1, .int a2, .int a3, .int a4, .null, .null, pm_no, pm_no, pm_no] [.int (-1)] _ _
                refine pm_R_lo pm_M155 (pc_q := 25) (ls_q := [.ref 16, .int a0, .int a1, .int a2, .int a3, .int a4, .null, .null, .int (-1), pm_no, pm_no]) (st_q := []) rfl rfl rfl ?_
                refine pm_R_lo pm_M155 (pc_q := 27) rfl rfl rfl ?_
                refine pm_R_br pm_M155 (pc_q := 41) rfl rfl ?_
                refine pm_R_op pm_M155 (pc_q := 42) (st_q := [.int 0]) rfl rfl rfl ?_
                exact pm_R_ret pm_M155 (r := some (.int 0)) rfl rfl (K 0 m h T (cl_F.refl (ck := ck) (A := [32, 38]) (n := 0) (s := 0) T.1) (rf_W.refl [] m) (sf_weak sf_k0 (by decide) (by decide)))
              · have B156 : sf_B 0 2147483647 a3 := sf_leR (Int32.not_lt.mp c154) sf_k0 (sf_any a3)
                refine pm_R_lo pm_M143 (pc_q := 5) rfl rfl rfl ?_
                refine pm_R_lo pm_M143 (pc_q := 6) rfl rfl rfl ?_
                refine pm_R_get pm_M143 (pc_q := 9) (v := .int (Int32.ofNat s140)) rfl rfl (T.im hk138 (by decide) (by decide) eE148) (G.ge hk138 (by decide)) (T.al hk138 (by decide)) rfl rfl ?_
                refine pm_R_icmp pm_M143 (t := 16) (pc_q := 12) rfl rfl rfl (fun c157 => ?_) (fun c157 => ?_)
                · have B158 : sf_B 1 2147483647 a3 := sf_leR c157 (sf_ofB1 h146 h145 (by decide)) B156
                  refine pm_R_op pm_M143 (pc_q := 17) (st_q := [.int 0]) rfl rfl rfl ?_
                  refine pm_R_ret pm_M143 (r := some (.int 0)) rfl rfl ?_
                  show pm_R _ 152 23 [.ref 16, .int a2, .int a3, .int a4, .ref l136] [.int 0] _ _
                  refine pm_R_br pm_M152 (pc_q := 35) (st_q := []) rfl rfl ?_
                  refine pm_R_op pm_M152 (pc_q := 36) (st_q := [.int (-1)]) rfl rfl rfl ?_
                  refine pm_R_ret pm_M152 (r := some (.int (-1))) rfl rfl ?_
                  show pm_R _ 155 23 [.ref 16, .int a0, .int a1, .int a2, .int a3, .int a4, .null, .null, pm_no, pm_no, pm_no] [.int (-1)] _ _
                  refine pm_R_lo pm_M155 (pc_q := 25) (ls_q := [.ref 16, .int a0, .int a1, .int a2, .int a3, .int a4, .null, .null, .int (-1), pm_no, pm_no]) (st_q := []) rfl rfl rfl ?_
                  refine pm_R_lo pm_M155 (pc_q := 27) rfl rfl rfl ?_
                  refine pm_R_br pm_M155 (pc_q := 41) rfl rfl ?_
                  refine pm_R_op pm_M155 (pc_q := 42) (st_q := [.int 0]) rfl rfl rfl ?_
                  exact pm_R_ret pm_M155 (r := some (.int 0)) rfl rfl (K 0 m h T (cl_F.refl (ck := ck) (A := [32, 38]) (n := 0) (s := 0) T.1) (rf_W.refl [] m) (sf_weak sf_k0 (by decide) (by decide)))
                · have B159 : sf_B 0 5 a3 := sf_ltL (Int32.not_le.mp c157) B156 (sf_ofB1 h146 h145 (by decide))
                  refine pm_R_op pm_M143 (pc_q := 13) (st_q := [.int 1]) rfl rfl rfl ?_
                  refine pm_R_br pm_M143 (pc_q := 17) rfl rfl ?_
                  refine pm_R_ret pm_M143 (r := some (.int 1)) rfl rfl ?_
                  show pm_R _ 152 23 [.ref 16, .int a2, .int a3, .int a4, .ref l136] [.int 1] _ _
                  refine pm_R_br pm_M152 (pc_q := 26) (st_q := []) rfl rfl ?_
                  refine pm_R_lo pm_M152 (pc_q := 28) rfl rfl rfl ?_
                  refine pm_R_lo pm_M152 (pc_q := 29) rfl rfl rfl ?_
                  refine pm_R_cv pm_M152 (pc_q := 32) (a := l136) (ra := [.int a4]) (rest := []) (ls_q := [.ref l136, .int a4]) rfl rfl (Or.inl rfl) pm_M143 (T.im hk138 (by decide) (by decide) eE148) rfl (G.ge hk138 (by decide)) (T.al hk138 (by decide)) rfl rfl (Nat.le_of_ble_eq_true rfl) rfl rfl ?_
                  refine pm_R_lo pm_M143 (pc_q := 1) rfl rfl rfl ?_
                  refine pm_R_ifc pm_M143 (t := 16) (pc_q := 4) rfl rfl rfl (fun c160 => ?_) (fun c160 => ?_)
                  · have B161 : sf_B (-2147483648) (-1) a4 := sf_ltL c160 (sf_any a4) sf_k0
                    refine pm_R_op pm_M143 (pc_q := 17) (st_q := [.int 0]) rfl rfl rfl ?_
                    refine pm_R_ret pm_M143 (r := some (.int 0)) rfl rfl ?_
                    show pm_R _ 152 32 [.ref 16, .int a2, .int a3, .int a4, .ref l136] [.int 0] _ _
                    refine pm_R_br pm_M152 (pc_q := 35) (st_q := []) rfl rfl ?_
                    refine pm_R_op pm_M152 (pc_q := 36) (st_q := [.int (-1)]) rfl rfl rfl ?_
                    refine pm_R_ret pm_M152 (r := some (.int (-1))) rfl rfl ?_
                    show pm_R _ 155 23 [.ref 16, .int a0, .int a1, .int a2, .int a3, .int a4, .null, .null, pm_no, pm_no, pm_no] [.int (-1)] _ _
                    refine pm_R_lo pm_M155 (pc_q := 25) (ls_q := [.ref 16, .int a0, .int a1, .int a2, .int a3, .int a4, .null, .null, .int (-1), pm_no, pm_no]) (st_q := []) rfl rfl rfl ?_
                    refine pm_R_lo pm_M155 (pc_q := 27) rfl rfl rfl ?_
                    refine pm_R_br pm_M155 (pc_q := 41) rfl rfl ?_
                    refine pm_R_op pm_M155 (pc_q := 42) (st_q := [.int 0]) rfl rfl rfl ?_
                    exact pm_R_ret pm_M155 (r := some (.int 0)) rfl rfl (K 0 m h T (cl_F.refl (ck := ck) (A := [32, 38]) (n := 0) (s := 0) T.1) (rf_W.refl [] m) (sf_weak sf_k0 (by decide) (by decide)))
                  · have B162 : sf_B 0 2147483647 a4 := sf_leR (Int32.not_lt.mp c160) sf_k0 (sf_any a4)
                    refine pm_R_lo pm_M143 (pc_q := 5) rfl rfl rfl ?_
                    refine pm_R_lo pm_M143 (pc_q := 6) rfl rfl rfl ?_
                    refine pm_R_get pm_M143 (pc_q := 9) (v := .int (Int32.ofNat s140)) rfl rfl (T.im hk138 (by decide) (by decide) eE148) (G.ge hk138 (by decide)) (T.al hk138 (by decide)) rfl rfl ?_
                    refine pm_R_icmp pm_M143 (t := 16) (pc_q := 12) rfl rfl rfl (fun c163 => ?_) (fun c163 => ?_)
                    · have B164 : sf_B 1 2147483647 a4 := sf_leR c163 (sf_ofB1 h146 h145 (by decide)) B162
                      refine pm_R_op pm_M143 (pc_q := 17) (st_q := [.int 0]) rfl rfl rfl ?_
                      refine pm_R_ret pm_M143 (r := some (.int 0)) rfl rfl ?_
                      show pm_R _ 152 32 [.ref 16, .int a2, .int a3, .int a4, .ref l136] [.int 0] _ _
                      refine pm_R_br pm_M152 (pc_q := 35) (st_q := []) rfl rfl ?_
                      refine pm_R_op pm_M152 (pc_q := 36) (st_q := [.int (-1)]) rfl rfl rfl ?_
                      refine pm_R_ret pm_M152 (r := some (.int (-1))) rfl rfl ?_
                      show pm_R _ 155 23 [.ref 16, .int a0, .int a1, .int a2, .int a3, .int a4, .null, .null, pm_no, pm_no, pm_no] [.int (-1)] _ _
                      refine pm_R_lo pm_M155 (pc_q := 25) (ls_q := [.ref 16, .int a0, .int a1, .int a2, .int a3, .int a4, .null, .null, .int (-1), pm_no, pm_no]) (st_q := []) rfl rfl rfl ?_
                      refine pm_R_lo pm_M155 (pc_q := 27) rfl rfl rfl ?_
                      refine pm_R_br pm_M155 (pc_q := 41) rfl rfl ?_
                      refine pm_R_op pm_M155 (pc_q := 42) (st_q := [.int 0]) rfl rfl rfl ?_
                      exact pm_R_ret pm_M155 (r := some (.int 0)) rfl rfl (K 0 m h T (cl_F.refl (ck := ck) (A := [32, 38]) (n := 0) (s := 0) T.1) (rf_W.refl [] m) (sf_weak sf_k0 (by decide) (by decide)))
                    · have B165 : sf_B 0 5 a4 := sf_ltL (Int32.not_le.mp c163) B162 (sf_ofB1 h146 h145 (by decide))
                      refine pm_R_op pm_M143 (pc_q := 13) (st_q := [.int 1]) rfl rfl rfl ?_
                      refine pm_R_br pm_M143 (pc_q := 17) rfl rfl ?_
                      refine pm_R_ret pm_M143 (r := some (.int 1)) rfl rfl ?_
                      show pm_R _ 152 32 [.ref 16, .int a2, .int a3, .int a4, .ref l136] [.int 1] _ _
                      refine pm_R_br pm_M152 (pc_q := 37) (st_q := []) rfl rfl ?_
                      refine pm_R_lo pm_M152 (pc_q := 39) rfl rfl rfl ?_
                      refine pm_R_lo pm_M152 (pc_q := 40) rfl rfl rfl ?_
                      refine pm_R_lo pm_M152 (pc_q := 41) rfl rfl rfl ?_
                      refine pm_R_cv pm_M152 (pc_q := 44) (a := l136) (ra := [.int a4, .int a3]) (rest := []) (ls_q := [.ref l136, .int a3, .int a4, pm_no, pm_no]) rfl rfl (Or.inl rfl) pm_M153 (T.im hk138 (by decide) (by decide) eE148) rfl (G.ge hk138 (by decide)) (T.al hk138 (by decide)) rfl rfl (Nat.le_of_ble_eq_true rfl) rfl rfl ?_
                      refine cl_c153 (d := d + 1) G T hk138 B159 B165 (fun r166 X173 B167 => ?_)
                      show pm_R _ 152 44 [.ref 16, .int a2, .int a3, .int a4, .ref l136] [.int r166] _ _
                      refine pm_R_ret pm_M152 (r := some (.int r166)) rfl (pm_ret_i _) ?_
                      show pm_R _ 155 23 [.ref 16, .int a0, .int a1, .int a2, .int a3, .int a4, .null, .null, pm_no, pm_no, pm_no] [.int r166] _ _
                      refine pm_R_lo pm_M155 (pc_q := 25) (ls_q := [.ref 16, .int a0, .int a1, .int a2, .int a3, .int a4, .null, .null, .int r166, pm_no, pm_no]) (st_q := []) rfl rfl rfl ?_
                      refine pm_R_lo pm_M155 (pc_q := 27) rfl rfl rfl ?_
                      refine pm_R_br pm_M155 (pc_q := 41) rfl rfl ?_
                      refine pm_R_op pm_M155 (pc_q := 42) (st_q := [.int 0]) rfl rfl rfl ?_
                      exact pm_R_ret pm_M155 (r := some (.int 0)) rfl rfl (K 0 m h T (cl_F.refl (ck := ck) (A := [32, 38]) (n := 0) (s := 0) T.1) (rf_W.refl [] m) (sf_weak sf_k0 (by decide) (by decide)))
          · skip
            refine pm_R_op pm_M139 (pc_q := 18) (st_q := [.null]) rfl rfl rfl ?_
            refine pm_R_br pm_M139 (pc_q := 30) rfl rfl ?_
            refine pm_R_ret pm_M139 (r := some (.null)) rfl rfl ?_
            show pm_R _ 152 5 [.ref 16, .int a2, .int a3, .int a4, pm_no] [.null] _ _
            refine pm_R_lo pm_M152 (pc_q := 7) (ls_q := [.ref 16, .int a2, .int a3, .int a4, .null]) (st_q := []) rfl rfl rfl ?_
            refine pm_R_lo pm_M152 (pc_q := 9) rfl rfl rfl ?_
            refine pm_R_br pm_M152 (pc_q := 35) rfl rfl ?_
            refine pm_R_op pm_M152 (pc_q := 36) (st_q := [.int (-1)]) rfl rfl rfl ?_
            refine pm_R_ret pm_M152 (r := some (.int (-1))) rfl rfl ?_
            show pm_R _ 155 23 [.ref 16, .int a0, .int a1, .int a2, .int a3, .int a4, .null, .null, pm_no, pm_no, pm_no] [.int (-1)] _ _
            refine pm_R_lo pm_M155 (pc_q := 25) (ls_q := [.ref 16, .int a0, .int a1, .int a2, .int a3, .int a4, .null, .null, .int (-1), pm_no, pm_no]) (st_q := []) rfl rfl rfl ?_
            refine pm_R_lo pm_M155 (pc_q := 27) rfl rfl rfl ?_
            refine pm_R_br pm_M155 (pc_q := 41) rfl rfl ?_
            refine pm_R_op pm_M155 (pc_q := 42) (st_q := [.int 0]) rfl rfl rfl ?_
            exact pm_R_ret pm_M155 (r := some (.int 0)) rfl rfl (K 0 m h T (cl_F.refl (ck := ck) (A := [32, 38]) (n := 0) (s := 0) T.1) (rf_W.refl [] m) (sf_weak sf_k0 (by decide) (by decide)))
  · have B174 : sf_B 0 2147483647 a0 := sf_leR (Int32.not_lt.mp c1) sf_k0 (sf_any a0)
    refine pm_R_lo pm_M62 (pc_q := 5) rfl rfl rfl ?_
    refine pm_R_lo pm_M62 (pc_q := 6) rfl rfl rfl ?_
    refine pm_R_get pm_M62 (pc_q := 9) (v := .ref 17) rfl rfl T.e16 (by decide) (T.lt (by decide)) rfl rfl ?_
    refine pm_R_get pm_M62 (pc_q := 12) (v := .ref 23) rfl rfl T.e17 (by decide) (T.lt (by decide)) rfl rfl ?_
    refine pm_R_op pm_M62 (pc_q := 13) (st_q := [.int 0, .ref 23, .int a0]) rfl rfl rfl ?_
    obtain ⟨f178, e179, b180⟩ := T.C 23 (by decide) (by decide)
    obtain ⟨z175, ez176⟩ : ∃ y, f178 (Int32.toNatClampNeg 0) = y := ⟨_, rfl⟩
    have B177 : sf_B 0 2 z175 := ez176 ▸ (b180 0)
    refine pm_R_iald pm_M62 (pc_q := 14) (v := z175) rfl e179 (T.lt (by decide)) rfl ez176 rfl ?_
    refine pm_R_icmp pm_M62 (t := 21) (pc_q := 17) rfl rfl rfl (fun c181 => ?_) (fun c181 => ?_)
    · have B182 : sf_B 0 1 a0 := sf_ltL c181 B174 B177
      have B183 : sf_B 1 2 z175 := sf_ltR c181 B174 B177
      refine pm_R_lo pm_M62 (pc_q := 22) rfl rfl rfl ?_
      refine pm_R_get pm_M62 (pc_q := 25) (v := .ref 17) rfl rfl T.e16 (by decide) (T.lt (by decide)) rfl rfl ?_
      refine pm_R_get pm_M62 (pc_q := 28) (v := .ref 19) rfl rfl T.e17 (by decide) (T.lt (by decide)) rfl rfl ?_
      refine pm_R_lo pm_M62 (pc_q := 29) rfl rfl rfl ?_
      obtain ⟨f184, e185, b186⟩ := T.C 19 (by decide) (by decide)
      obtain ⟨l187, hx188⟩ := cl_there0 T e179 e185 ez176 c181 B182 (by decide)
      have hk189 := b186 _ _ hx188
      refine pm_R_aald pm_M62 (pc_q := 30) (v := .ref l187) rfl e185 (by decide) (by decide) (by decide) (T.lt (by decide)) (sf_in B182 (by decide) (by decide)) (by rw [hx188]; rfl) rfl ?_
      refine pm_R_ret pm_M62 (r := some (.ref l187)) rfl rfl ?_
      show pm_R _ 155 5 [.ref 16, .int a0, .int a1, .int a2, .int a3, .int a4, pm_no, pm_no, pm_no, pm_no, pm_no] [.ref l187] _ _
      refine pm_R_lo pm_M155 (pc_q := 7) (ls_q := [.ref 16, .int a0, .int a1, .int a2, .int a3, .int a4, .ref l187, pm_no, pm_no, pm_no, pm_no]) (st_q := []) rfl rfl rfl ?_
      refine pm_R_lo pm_M155 (pc_q := 8) rfl rfl rfl ?_
      refine pm_R_lo pm_M155 (pc_q := 9) rfl rfl rfl ?_
      refine pm_R_cv pm_M155 (pc_q := 12) (a := 16) (ra := [.int a1]) (rest := []) (ls_q := [.ref 16, .int a1]) rfl rfl (Or.inl rfl) pm_M66 T.e16 rfl (by decide) (T.lt (by decide)) rfl rfl (Nat.le_of_ble_eq_true rfl) rfl rfl ?_
      refine pm_R_lo pm_M66 (pc_q := 1) rfl rfl rfl ?_
      refine pm_R_ifc pm_M66 (t := 17) (pc_q := 4) rfl rfl rfl (fun c190 => ?_) (fun c190 => ?_)
      · have B191 : sf_B (-2147483648) (-1) a1 := sf_ltL c190 (sf_any a1) sf_k0
        refine pm_R_op pm_M66 (pc_q := 18) (st_q := [.null]) rfl rfl rfl ?_
        refine pm_R_br pm_M66 (pc_q := 30) rfl rfl ?_
        refine pm_R_ret pm_M66 (r := some (.null)) rfl rfl ?_
        show pm_R _ 155 12 [.ref 16, .int a0, .int a1, .int a2, .int a3, .int a4, .ref l187, pm_no, pm_no, pm_no, pm_no] [.null] _ _
        refine pm_R_lo pm_M155 (pc_q := 14) (ls_q := [.ref 16, .int a0, .int a1, .int a2, .int a3, .int a4, .ref l187, .null, pm_no, pm_no, pm_no]) (st_q := []) rfl rfl rfl ?_
        refine pm_R_lo pm_M155 (pc_q := 15) rfl rfl rfl ?_
        refine pm_R_lo pm_M155 (pc_q := 16) rfl rfl rfl ?_
        refine pm_R_lo pm_M155 (pc_q := 18) rfl rfl rfl ?_
        refine pm_R_lo pm_M155 (pc_q := 20) rfl rfl rfl ?_
        refine pm_R_cv pm_M155 (pc_q := 23) (a := 16) (ra := [.int a4, .int a3, .int a2]) (rest := []) (ls_q := [.ref 16, .int a2, .int a3, .int a4, pm_no]) rfl rfl (Or.inl rfl) pm_M152 T.e16 rfl (by decide) (T.lt (by decide)) rfl rfl (Nat.le_of_ble_eq_true rfl) rfl rfl ?_
        refine pm_R_lo pm_M152 (pc_q := 1) rfl rfl rfl ?_
        refine pm_R_lo pm_M152 (pc_q := 2) rfl rfl rfl ?_
        refine pm_R_cv pm_M152 (pc_q := 5) (a := 16) (ra := [.int a2]) (rest := []) (ls_q := [.ref 16, .int a2]) rfl rfl (Or.inl rfl) pm_M139 T.e16 rfl (by decide) (T.lt (by decide)) rfl rfl (Nat.le_of_ble_eq_true rfl) rfl rfl ?_
        refine pm_R_lo pm_M139 (pc_q := 1) rfl rfl rfl ?_
        refine pm_R_ifc pm_M139 (t := 17) (pc_q := 4) rfl rfl rfl (fun c192 => ?_) (fun c192 => ?_)
        · have B193 : sf_B (-2147483648) (-1) a2 := sf_ltL c192 (sf_any a2) sf_k0
          refine pm_R_op pm_M139 (pc_q := 18) (st_q := [.null]) rfl rfl rfl ?_
          refine pm_R_br pm_M139 (pc_q := 30) rfl rfl ?_
          refine pm_R_ret pm_M139 (r := some (.null)) rfl rfl ?_
          show pm_R _ 152 5 [.ref 16, .int a2, .int a3, .int a4, pm_no] [.null] _ _
          refine pm_R_lo pm_M152 (pc_q := 7) (ls_q := [.ref 16, .int a2, .int a3, .int a4, .null]) (st_q := []) rfl rfl rfl ?_
          refine pm_R_lo pm_M152 (pc_q := 9) rfl rfl rfl ?_
          refine pm_R_br pm_M152 (pc_q := 35) rfl rfl ?_
          refine pm_R_op pm_M152 (pc_q := 36) (st_q := [.int (-1)]) rfl rfl rfl ?_
          refine pm_R_ret pm_M152 (r := some (.int (-1))) rfl rfl ?_
          show pm_R _ 155 23 [.ref 16, .int a0, .int a1, .int a2, .int a3, .int a4, .ref l187, .null, pm_no, pm_no, pm_no] [.int (-1)] _ _
          refine pm_R_lo pm_M155 (pc_q := 25) (ls_q := [.ref 16, .int a0, .int a1, .int a2, .int a3, .int a4, .ref l187, .null, .int (-1), pm_no, pm_no]) (st_q := []) rfl rfl rfl ?_
          refine pm_R_lo pm_M155 (pc_q := 27) rfl rfl rfl ?_
          refine pm_R_br pm_M155 (pc_q := 30) rfl rfl ?_
          refine pm_R_lo pm_M155 (pc_q := 32) rfl rfl rfl ?_
          refine pm_R_br pm_M155 (pc_q := 41) rfl rfl ?_
          refine pm_R_op pm_M155 (pc_q := 42) (st_q := [.int 0]) rfl rfl rfl ?_
          exact pm_R_ret pm_M155 (r := some (.int 0)) rfl rfl (K 0 m h T (cl_F.refl (ck := ck) (A := [32, 38]) (n := 0) (s := 0) T.1) (rf_W.refl [] m) (sf_weak sf_k0 (by decide) (by decide)))
        · have B194 : sf_B 0 2147483647 a2 := sf_leR (Int32.not_lt.mp c192) sf_k0 (sf_any a2)
          refine pm_R_lo pm_M139 (pc_q := 5) rfl rfl rfl ?_
          refine pm_R_lo pm_M139 (pc_q := 6) rfl rfl rfl ?_
          refine pm_R_get pm_M139 (pc_q := 9) (v := .ref 17) rfl rfl T.e16 (by decide) (T.lt (by decide)) rfl rfl ?_
          refine pm_R_get pm_M139 (pc_q := 12) (v := .ref 23) rfl rfl T.e17 (by decide) (T.lt (by decide)) rfl rfl ?_
          refine pm_R_op pm_M139 (pc_q := 13) (st_q := [.int 2, .ref 23, .int a2]) rfl rfl rfl ?_
          obtain ⟨z195, ez196⟩ : ∃ y, f178 (Int32.toNatClampNeg 2) = y := ⟨_, rfl⟩
          have B197 : sf_B 0 2 z195 := ez196 ▸ (b180 2)
          refine pm_R_iald pm_M139 (pc_q := 14) (v := z195) rfl e179 (T.lt (by decide)) rfl ez196 rfl ?_
          refine pm_R_icmp pm_M139 (t := 21) (pc_q := 17) rfl rfl rfl (fun c198 => ?_) (fun c198 => ?_)
          · have B199 : sf_B 0 1 a2 := sf_ltL c198 B194 B197
            have B200 : sf_B 1 2 z195 := sf_ltR c198 B194 B197
            refine pm_R_lo pm_M139 (pc_q := 22) rfl rfl rfl ?_
            refine pm_R_get pm_M139 (pc_q := 25) (v := .ref 17) rfl rfl T.e16 (by decide) (T.lt (by decide)) rfl rfl ?_
            refine pm_R_get pm_M139 (pc_q := 28) (v := .ref 21) rfl rfl T.e17 (by decide) (T.lt (by decide)) rfl rfl ?_
            refine pm_R_lo pm_M139 (pc_q := 29) rfl rfl rfl ?_
            obtain ⟨f201, e202, b203⟩ := T.C 21 (by decide) (by decide)
            obtain ⟨l204, hx205⟩ := cl_there2 T e179 e202 ez196 c198 B199 (by decide)
            have hk206 := b203 _ _ hx205
            refine pm_R_aald pm_M139 (pc_q := 30) (v := .ref l204) rfl e202 (by decide) (by decide) (by decide) (T.lt (by decide)) (sf_in B199 (by decide) (by decide)) (by rw [hx205]; rfl) rfl ?_
            refine pm_R_ret pm_M139 (r := some (.ref l204)) rfl rfl ?_
            show pm_R _ 152 5 [.ref 16, .int a2, .int a3, .int a4, pm_no] [.ref l204] _ _
            refine pm_R_lo pm_M152 (pc_q := 7) (ls_q := [.ref 16, .int a2, .int a3, .int a4, .ref l204]) (st_q := []) rfl rfl rfl ?_
            refine pm_R_lo pm_M152 (pc_q := 9) rfl rfl rfl ?_
            refine pm_R_br pm_M152 (pc_q := 12) rfl rfl ?_
            refine pm_R_lo pm_M152 (pc_q := 13) rfl rfl rfl ?_
            refine pm_R_lo pm_M152 (pc_q := 14) rfl rfl rfl ?_
            refine pm_R_icmp pm_M152 (t := 35) (pc_q := 17) rfl rfl rfl (fun c207 => ?_) (fun c207 => ?_)
            · refine pm_R_op pm_M152 (pc_q := 36) (st_q := [.int (-1)]) rfl rfl rfl ?_
              refine pm_R_ret pm_M152 (r := some (.int (-1))) rfl rfl ?_
              show pm_R _ 155 23 [.ref 16, .int a0, .int a1, .int a2, .int a3, .int a4, .ref l187, .null, pm_no, pm_no, pm_no] [.int (-1)] _ _
              refine pm_R_lo pm_M155 (pc_q := 25) (ls_q := [.ref 16, .int a0, .int a1, .int a2, .int a3, .int a4, .ref l187, .null, .int (-1), pm_no, pm_no]) (st_q := []) rfl rfl rfl ?_
              refine pm_R_lo pm_M155 (pc_q := 27) rfl rfl rfl ?_
              refine pm_R_br pm_M155 (pc_q := 30) rfl rfl ?_
              refine pm_R_lo pm_M155 (pc_q := 32) rfl rfl rfl ?_
              refine pm_R_br pm_M155 (pc_q := 41) rfl rfl ?_
              refine pm_R_op pm_M155 (pc_q := 42) (st_q := [.int 0]) rfl rfl rfl ?_
              exact pm_R_ret pm_M155 (r := some (.int 0)) rfl rfl (K 0 m h T (cl_F.refl (ck := ck) (A := [32, 38]) (n := 0) (s := 0) T.1) (rf_W.refl [] m) (sf_weak sf_k0 (by decide) (by decide)))
            · skip
              refine pm_R_lo pm_M152 (pc_q := 19) rfl rfl rfl ?_
              refine pm_R_lo pm_M152 (pc_q := 20) rfl rfl rfl ?_
              obtain ⟨s208, n209, fd210, fg211, fs212, h213, h214, h215, eE216, eE217, eE218, eE219, b220⟩ := (G.2.2.2.1 l204 hk206).2.2.2
              have kq221 := G.2.2.2.1 l204 hk206
              refine pm_R_cv pm_M152 (pc_q := 23) (a := l204) (ra := [.int a3]) (rest := []) (ls_q := [.ref l204, .int a3]) rfl rfl (Or.inl rfl) pm_M143 (T.im hk206 (by decide) (by decide) eE216) rfl (G.ge hk206 (by decide)) (T.al hk206 (by decide)) rfl rfl (Nat.le_of_ble_eq_true rfl) rfl rfl ?_
              refine pm_R_lo pm_M143 (pc_q := 1) rfl rfl rfl ?_
              refine pm_R_ifc pm_M143 (t := 16) (pc_q := 4) rfl rfl rfl (fun c222 => ?_) (fun c222 => ?_)
              · have B223 : sf_B (-2147483648) (-1) a3 := sf_ltL c222 (sf_any a3) sf_k0
                refine pm_R_op pm_M143 (pc_q := 17) (st_q := [.int 0]) rfl rfl rfl ?_
                refine pm_R_ret pm_M143 (r := some (.int 0)) rfl rfl ?_
                show pm_R _ 152 23 [.ref 16, .int a2, .int a3, .int a4, .ref l204] [.int 0] _ _
                refine pm_R_br pm_M152 (pc_q := 35) (st_q := []) rfl rfl ?_
                refine pm_R_op pm_M152 (pc_q := 36) (st_q := [.int (-1)]) rfl rfl rfl ?_
                refine pm_R_ret pm_M152 (r := some (.int (-1))) rfl rfl ?_
                show pm_R _ 155 23 [.ref 16, .int a0, .int a1, .int a2, .int a3, .int a4, .ref l187, .null, pm_no, pm_no, pm_no] [.int (-1)] _ _
                refine pm_R_lo pm_M155 (pc_q := 25) (ls_q := [.ref 16, .int a0, .int a1, .int a2, .int a3, .int a4, .ref l187, .null, .int (-1), pm_no, pm_no]) (st_q := []) rfl rfl rfl ?_
                refine pm_R_lo pm_M155 (pc_q := 27) rfl rfl rfl ?_
                refine pm_R_br pm_M155 (pc_q := 30) rfl rfl ?_
                refine pm_R_lo pm_M155 (pc_q := 32) rfl rfl rfl ?_
                refine pm_R_br pm_M155 (pc_q := 41) rfl rfl ?_
                refine pm_R_op pm_M155 (pc_q := 42) (st_q := [.int 0]) rfl rfl rfl ?_
                exact pm_R_ret pm_M155 (r := some (.int 0)) rfl rfl (K 0 m h T (cl_F.refl (ck := ck) (A := [32, 38]) (n := 0) (s := 0) T.1) (rf_W.refl [] m) (sf_weak sf_k0 (by decide) (by decide)))
              · have B224 : sf_B 0 2147483647 a3 := sf_leR (Int32.not_lt.mp c222) sf_k0 (sf_any a3)
                refine pm_R_lo pm_M143 (pc_q := 5) rfl rfl rfl ?_
                refine pm_R_lo pm_M143 (pc_q := 6) rfl rfl rfl ?_
                refine pm_R_get pm_M143 (pc_q := 9) (v := .int (Int32.ofNat s208)) rfl rfl (T.im hk206 (by decide) (by decide) eE216) (G.ge hk206 (by decide)) (T.al hk206 (by decide)) rfl rfl ?_
                refine pm_R_icmp pm_M143 (t := 16) (pc_q := 12) rfl rfl rfl (fun c225 => ?_) (fun c225 => ?_)
                · have B226 : sf_B 1 2147483647 a3 := sf_leR c225 (sf_ofB1 h214 h213 (by decide)) B224
                  refine pm_R_op pm_M143 (pc_q := 17) (st_q := [.int 0]) rfl rfl rfl ?_
                  refine pm_R_ret pm_M143 (r := some (.int 0)) rfl rfl ?_
                  show pm_R _ 152 23 [.ref 16, .int a2, .int a3, .int a4, .ref l204] [.int 0] _ _
                  refine pm_R_br pm_M152 (pc_q := 35) (st_q := []) rfl rfl ?_
                  refine pm_R_op pm_M152 (pc_q := 36) (st_q := [.int (-1)]) rfl rfl rfl ?_
                  refine pm_R_ret pm_M152 (r := some (.int (-1))) rfl rfl ?_
                  show pm_R _ 155 23 [.ref 16, .int a0, .int a1, .int a2, .int a3, .int a4, .ref l187, .null, pm_no, pm_no, pm_no] [.int (-1)] _ _
                  refine pm_R_lo pm_M155 (pc_q := 25) (ls_q := [.ref 16, .int a0, .int a1, .int a2, .int a3, .int a4, .ref l187, .null, .int (-1), pm_no, pm_no]) (st_q := []) rfl rfl rfl ?_
                  refine pm_R_lo pm_M155 (pc_q := 27) rfl rfl rfl ?_
                  refine pm_R_br pm_M155 (pc_q := 30) rfl rfl ?_
                  refine pm_R_lo pm_M155 (pc_q := 32) rfl rfl rfl ?_
                  refine pm_R_br pm_M155 (pc_q := 41) rfl rfl ?_
                  refine pm_R_op pm_M155 (pc_q := 42) (st_q := [.int 0]) rfl rfl rfl ?_
                  exact pm_R_ret pm_M155 (r := some (.int 0)) rfl rfl (K 0 m h T (cl_F.refl (ck := ck) (A := [32, 38]) (n := 0) (s := 0) T.1) (rf_W.refl [] m) (sf_weak sf_k0 (by decide) (by decide)))
                · have B227 : sf_B 0 5 a3 := sf_ltL (Int32.not_le.mp c225) B224 (sf_ofB1 h214 h213 (by decide))
                  refine pm_R_op pm_M143 (pc_q := 13) (st_q := [.int 1]) rfl rfl rfl ?_
                  refine pm_R_br pm_M143 (pc_q := 17) rfl rfl ?_
                  refine pm_R_ret pm_M143 (r := some (.int 1)) rfl rfl ?_
                  show pm_R _ 152 23 [.ref 16, .int a2, .int a3, .int a4, .ref l204] [.int 1] _ _
                  refine pm_R_br pm_M152 (pc_q := 26) (st_q := []) rfl rfl ?_
                  refine pm_R_lo pm_M152 (pc_q := 28) rfl rfl rfl ?_
                  refine pm_R_lo pm_M152 (pc_q := 29) rfl rfl rfl ?_
                  refine pm_R_cv pm_M152 (pc_q := 32) (a := l204) (ra := [.int a4]) (rest := []) (ls_q := [.ref l204, .int a4]) rfl rfl (Or.inl rfl) pm_M143 (T.im hk206 (by decide) (by decide) eE216) rfl (G.ge hk206 (by decide)) (T.al hk206 (by decide)) rfl rfl (Nat.le_of_ble_eq_true rfl) rfl rfl ?_
                  refine pm_R_lo pm_M143 (pc_q := 1) rfl rfl rfl ?_
                  refine pm_R_ifc pm_M143 (t := 16) (pc_q := 4) rfl rfl rfl (fun c228 => ?_) (fun c228 => ?_)
                  · have B229 : sf_B (-2147483648) (-1) a4 := sf_ltL c228 (sf_any a4) sf_k0
                    refine pm_R_op pm_M143 (pc_q := 17) (st_q := [.int 0]) rfl rfl rfl ?_
                    refine pm_R_ret pm_M143 (r := some (.int 0)) rfl rfl ?_
                    show pm_R _ 152 32 [.ref 16, .int a2, .int a3, .int a4, .ref l204] [.int 0] _ _
                    refine pm_R_br pm_M152 (pc_q := 35) (st_q := []) rfl rfl ?_
                    refine pm_R_op pm_M152 (pc_q := 36) (st_q := [.int (-1)]) rfl rfl rfl ?_
                    refine pm_R_ret pm_M152 (r := some (.int (-1))) rfl rfl ?_
                    show pm_R _ 155 23 [.ref 16, .int a0, .int a1, .int a2, .int a3, .int a4, .ref l187, .null, pm_no, pm_no, pm_no] [.int (-1)] _ _
                    refine pm_R_lo pm_M155 (pc_q := 25) (ls_q := [.ref 16, .int a0, .int a1, .int a2, .int a3, .int a4, .ref l187, .null, .int (-1), pm_no, pm_no]) (st_q := []) rfl rfl rfl ?_
                    refine pm_R_lo pm_M155 (pc_q := 27) rfl rfl rfl ?_
                    refine pm_R_br pm_M155 (pc_q := 30) rfl rfl ?_
                    refine pm_R_lo pm_M155 (pc_q := 32) rfl rfl rfl ?_
                    refine pm_R_br pm_M155 (pc_q := 41) rfl rfl ?_
                    refine pm_R_op pm_M155 (pc_q := 42) (st_q := [.int 0]) rfl rfl rfl ?_
                    exact pm_R_ret pm_M155 (r := some (.int 0)) rfl rfl (K 0 m h T (cl_F.refl (ck := ck) (A := [32, 38]) (n := 0) (s := 0) T.1) (rf_W.refl [] m) (sf_weak sf_k0 (by decide) (by decide)))
                  · have B230 : sf_B 0 2147483647 a4 := sf_leR (Int32.not_lt.mp c228) sf_k0 (sf_any a4)
                    refine pm_R_lo pm_M143 (pc_q := 5) rfl rfl rfl ?_
                    refine pm_R_lo pm_M143 (pc_q := 6) rfl rfl rfl ?_
                    refine pm_R_get pm_M143 (pc_q := 9) (v := .int (Int32.ofNat s208)) rfl rfl (T.im hk206 (by decide) (by decide) eE216) (G.ge hk206 (by decide)) (T.al hk206 (by decide)) rfl rfl ?_
                    refine pm_R_icmp pm_M143 (t := 16) (pc_q := 12) rfl rfl rfl (fun c231 => ?_) (fun c231 => ?_)
                    · have B232 : sf_B 1 2147483647 a4 := sf_leR c231 (sf_ofB1 h214 h213 (by decide)) B230
                      refine pm_R_op pm_M143 (pc_q := 17) (st_q := [.int 0]) rfl rfl rfl ?_
                      refine pm_R_ret pm_M143 (r := some (.int 0)) rfl rfl ?_
                      show pm_R _ 152 32 [.ref 16, .int a2, .int a3, .int a4, .ref l204] [.int 0] _ _
                      refine pm_R_br pm_M152 (pc_q := 35) (st_q := []) rfl rfl ?_
                      refine pm_R_op pm_M152 (pc_q := 36) (st_q := [.int (-1)]) rfl rfl rfl ?_
                      refine pm_R_ret pm_M152 (r := some (.int (-1))) rfl rfl ?_
                      show pm_R _ 155 23 [.ref 16, .int a0, .int a1, .int a2, .int a3, .int a4, .ref l187, .null, pm_no, pm_no, pm_no] [.int (-1)] _ _
                      refine pm_R_lo pm_M155 (pc_q := 25) (ls_q := [.ref 16, .int a0, .int a1, .int a2, .int a3, .int a4, .ref l187, .null, .int (-1), pm_no, pm_no]) (st_q := []) rfl rfl rfl ?_
                      refine pm_R_lo pm_M155 (pc_q := 27) rfl rfl rfl ?_
                      refine pm_R_br pm_M155 (pc_q := 30) rfl rfl ?_
                      refine pm_R_lo pm_M155 (pc_q := 32) rfl rfl rfl ?_
                      refine pm_R_br pm_M155 (pc_q := 41) rfl rfl ?_
                      refine pm_R_op pm_M155 (pc_q := 42) (st_q := [.int 0]) rfl rfl rfl ?_
                      exact pm_R_ret pm_M155 (r := some (.int 0)) rfl rfl (K 0 m h T (cl_F.refl (ck := ck) (A := [32, 38]) (n := 0) (s := 0) T.1) (rf_W.refl [] m) (sf_weak sf_k0 (by decide) (by decide)))
                    · have B233 : sf_B 0 5 a4 := sf_ltL (Int32.not_le.mp c231) B230 (sf_ofB1 h214 h213 (by decide))
                      refine pm_R_op pm_M143 (pc_q := 13) (st_q := [.int 1]) rfl rfl rfl ?_
                      refine pm_R_br pm_M143 (pc_q := 17) rfl rfl ?_
                      refine pm_R_ret pm_M143 (r := some (.int 1)) rfl rfl ?_
                      show pm_R _ 152 32 [.ref 16, .int a2, .int a3, .int a4, .ref l204] [.int 1] _ _
                      refine pm_R_br pm_M152 (pc_q := 37) (st_q := []) rfl rfl ?_
                      refine pm_R_lo pm_M152 (pc_q := 39) rfl rfl rfl ?_
                      refine pm_R_lo pm_M152 (pc_q := 40) rfl rfl rfl ?_
                      refine pm_R_lo pm_M152 (pc_q := 41) rfl rfl rfl ?_
                      refine pm_R_cv pm_M152 (pc_q := 44) (a := l204) (ra := [.int a4, .int a3]) (rest := []) (ls_q := [.ref l204, .int a3, .int a4, pm_no, pm_no]) rfl rfl (Or.inl rfl) pm_M153 (T.im hk206 (by decide) (by decide) eE216) rfl (G.ge hk206 (by decide)) (T.al hk206 (by decide)) rfl rfl (Nat.le_of_ble_eq_true rfl) rfl rfl ?_
                      refine cl_c153 (d := d + 1) G T hk206 B227 B233 (fun r234 X241 B235 => ?_)
                      show pm_R _ 152 44 [.ref 16, .int a2, .int a3, .int a4, .ref l204] [.int r234] _ _
                      refine pm_R_ret pm_M152 (r := some (.int r234)) rfl (pm_ret_i _) ?_
                      show pm_R _ 155 23 [.ref 16, .int a0, .int a1, .int a2, .int a3, .int a4, .ref l187, .null, pm_no, pm_no, pm_no] [.int r234] _ _
                      refine pm_R_lo pm_M155 (pc_q := 25) (ls_q := [.ref 16, .int a0, .int a1, .int a2, .int a3, .int a4, .ref l187, .null, .int r234, pm_no, pm_no]) (st_q := []) rfl rfl rfl ?_
                      refine pm_R_lo pm_M155 (pc_q := 27) rfl rfl rfl ?_
                      refine pm_R_br pm_M155 (pc_q := 30) rfl rfl ?_
                      refine pm_R_lo pm_M155 (pc_q := 32) rfl rfl rfl ?_
                      refine pm_R_br pm_M155 (pc_q := 41) rfl rfl ?_
                      refine pm_R_op pm_M155 (pc_q := 42) (st_q := [.int 0]) rfl rfl rfl ?_
                      exact pm_R_ret pm_M155 (r := some (.int 0)) rfl rfl (K 0 m h T (cl_F.refl (ck := ck) (A := [32, 38]) (n := 0) (s := 0) T.1) (rf_W.refl [] m) (sf_weak sf_k0 (by decide) (by decide)))
          · skip
            refine pm_R_op pm_M139 (pc_q := 18) (st_q := [.null]) rfl rfl rfl ?_
            refine pm_R_br pm_M139 (pc_q := 30) rfl rfl ?_
            refine pm_R_ret pm_M139 (r := some (.null)) rfl rfl ?_
            show pm_R _ 152 5 [.ref 16, .int a2, .int a3, .int a4, pm_no] [.null] _ _
            refine pm_R_lo pm_M152 (pc_q := 7) (ls_q := [.ref 16, .int a2, .int a3, .int a4, .null]) (st_q := []) rfl rfl rfl ?_
            refine pm_R_lo pm_M152 (pc_q := 9) rfl rfl rfl ?_
            refine pm_R_br pm_M152 (pc_q := 35) rfl rfl ?_
            refine pm_R_op pm_M152 (pc_q := 36) (st_q := [.int (-1)]) rfl rfl rfl ?_
            refine pm_R_ret pm_M152 (r := some (.int (-1))) rfl rfl ?_
            show pm_R _ 155 23 [.ref 16, .int a0, .int a1, .int a2, .int a3, .int a4, .ref l187, .null, pm_no, pm_no, pm_no] [.int (-1)] _ _
            refine pm_R_lo pm_M155 (pc_q := 25) (ls_q := [.ref 16, .int a0, .int a1, .int a2, .int a3, .int a4, .ref l187, .null, .int (-1), pm_no, pm_no]) (st_q := []) rfl rfl rfl ?_
            refine pm_R_lo pm_M155 (pc_q := 27) rfl rfl rfl ?_
            refine pm_R_br pm_M155 (pc_q := 30) rfl rfl ?_
            refine pm_R_lo pm_M155 (pc_q := 32) rfl rfl rfl ?_
            refine pm_R_br pm_M155 (pc_q := 41) rfl rfl ?_
            refine pm_R_op pm_M155 (pc_q := 42) (st_q := [.int 0]) rfl rfl rfl ?_
            exact pm_R_ret pm_M155 (r := some (.int 0)) rfl rfl (K 0 m h T (cl_F.refl (ck := ck) (A := [32, 38]) (n := 0) (s := 0) T.1) (rf_W.refl [] m) (sf_weak sf_k0 (by decide) (by decide)))
      · have B242 : sf_B 0 2147483647 a1 := sf_leR (Int32.not_lt.mp c190) sf_k0 (sf_any a1)
        refine pm_R_lo pm_M66 (pc_q := 5) rfl rfl rfl ?_
        refine pm_R_lo pm_M66 (pc_q := 6) rfl rfl rfl ?_
        refine pm_R_get pm_M66 (pc_q := 9) (v := .ref 17) rfl rfl T.e16 (by decide) (T.lt (by decide)) rfl rfl ?_
        refine pm_R_get pm_M66 (pc_q := 12) (v := .ref 23) rfl rfl T.e17 (by decide) (T.lt (by decide)) rfl rfl ?_
        refine pm_R_op pm_M66 (pc_q := 13) (st_q := [.int 1, .ref 23, .int a1]) rfl rfl rfl ?_
        obtain ⟨z243, ez244⟩ : ∃ y, f178 (Int32.toNatClampNeg 1) = y := ⟨_, rfl⟩
        have B245 : sf_B 0 3 z243 := ez244 ▸ (b180 1)
        refine pm_R_iald pm_M66 (pc_q := 14) (v := z243) rfl e179 (T.lt (by decide)) rfl ez244 rfl ?_
        refine pm_R_icmp pm_M66 (t := 21) (pc_q := 17) rfl rfl rfl (fun c246 => ?_) (fun c246 => ?_)
        · have B247 : sf_B 0 2 a1 := sf_ltL c246 B242 B245
          have B248 : sf_B 1 3 z243 := sf_ltR c246 B242 B245
          refine pm_R_lo pm_M66 (pc_q := 22) rfl rfl rfl ?_
          refine pm_R_get pm_M66 (pc_q := 25) (v := .ref 17) rfl rfl T.e16 (by decide) (T.lt (by decide)) rfl rfl ?_
          refine pm_R_get pm_M66 (pc_q := 28) (v := .ref 20) rfl rfl T.e17 (by decide) (T.lt (by decide)) rfl rfl ?_
          refine pm_R_lo pm_M66 (pc_q := 29) rfl rfl rfl ?_
          obtain ⟨f249, e250, b251⟩ := T.C 20 (by decide) (by decide)
          obtain ⟨l252, hx253⟩ := cl_there1 T e179 e250 ez244 c246 B247 (by decide)
          have hk254 := b251 _ _ hx253
          refine pm_R_aald pm_M66 (pc_q := 30) (v := .ref l252) rfl e250 (by decide) (by decide) (by decide) (T.lt (by decide)) (sf_in B247 (by decide) (by decide)) (by rw [hx253]; rfl) rfl ?_
          refine pm_R_ret pm_M66 (r := some (.ref l252)) rfl rfl ?_
          show pm_R _ 155 12 [.ref 16, .int a0, .int a1, .int a2, .int a3, .int a4, .ref l187, pm_no, pm_no, pm_no, pm_no] [.ref l252] _ _
          refine pm_R_lo pm_M155 (pc_q := 14) (ls_q := [.ref 16, .int a0, .int a1, .int a2, .int a3, .int a4, .ref l187, .ref l252, pm_no, pm_no, pm_no]) (st_q := []) rfl rfl rfl ?_
          refine pm_R_lo pm_M155 (pc_q := 15) rfl rfl rfl ?_
          refine pm_R_lo pm_M155 (pc_q := 16) rfl rfl rfl ?_
          refine pm_R_lo pm_M155 (pc_q := 18) rfl rfl rfl ?_
          refine pm_R_lo pm_M155 (pc_q := 20) rfl rfl rfl ?_
          refine pm_R_cv pm_M155 (pc_q := 23) (a := 16) (ra := [.int a4, .int a3, .int a2]) (rest := []) (ls_q := [.ref 16, .int a2, .int a3, .int a4, pm_no]) rfl rfl (Or.inl rfl) pm_M152 T.e16 rfl (by decide) (T.lt (by decide)) rfl rfl (Nat.le_of_ble_eq_true rfl) rfl rfl ?_
          refine pm_R_lo pm_M152 (pc_q := 1) rfl rfl rfl ?_
          refine pm_R_lo pm_M152 (pc_q := 2) rfl rfl rfl ?_
          refine pm_R_cv pm_M152 (pc_q := 5) (a := 16) (ra := [.int a2]) (rest := []) (ls_q := [.ref 16, .int a2]) rfl rfl (Or.inl rfl) pm_M139 T.e16 rfl (by decide) (T.lt (by decide)) rfl rfl (Nat.le_of_ble_eq_true rfl) rfl rfl ?_
          refine pm_R_lo pm_M139 (pc_q := 1) rfl rfl rfl ?_
          refine pm_R_ifc pm_M139 (t := 17) (pc_q := 4) rfl rfl rfl (fun c255 => ?_) (fun c255 => ?_)
          · have B256 : sf_B (-2147483648) (-1) a2 := sf_ltL c255 (sf_any a2) sf_k0
            refine pm_R_op pm_M139 (pc_q := 18) (st_q := [.null]) rfl rfl rfl ?_
            refine pm_R_br pm_M139 (pc_q := 30) rfl rfl ?_
            refine pm_R_ret pm_M139 (r := some (.null)) rfl rfl ?_
            show pm_R _ 152 5 [.ref 16, .int a2, .int a3, .int a4, pm_no] [.null] _ _
            refine pm_R_lo pm_M152 (pc_q := 7) (ls_q := [.ref 16, .int a2, .int a3, .int a4, .null]) (st_q := []) rfl rfl rfl ?_
            refine pm_R_lo pm_M152 (pc_q := 9) rfl rfl rfl ?_
            refine pm_R_br pm_M152 (pc_q := 35) rfl rfl ?_
            refine pm_R_op pm_M152 (pc_q := 36) (st_q := [.int (-1)]) rfl rfl rfl ?_
            refine pm_R_ret pm_M152 (r := some (.int (-1))) rfl rfl ?_
            show pm_R _ 155 23 [.ref 16, .int a0, .int a1, .int a2, .int a3, .int a4, .ref l187, .ref l252, pm_no, pm_no, pm_no] [.int (-1)] _ _
            refine pm_R_lo pm_M155 (pc_q := 25) (ls_q := [.ref 16, .int a0, .int a1, .int a2, .int a3, .int a4, .ref l187, .ref l252, .int (-1), pm_no, pm_no]) (st_q := []) rfl rfl rfl ?_
            refine pm_R_lo pm_M155 (pc_q := 27) rfl rfl rfl ?_
            refine pm_R_br pm_M155 (pc_q := 30) rfl rfl ?_
            refine pm_R_lo pm_M155 (pc_q := 32) rfl rfl rfl ?_
            refine pm_R_br pm_M155 (pc_q := 35) rfl rfl ?_
            refine pm_R_lo pm_M155 (pc_q := 37) rfl rfl rfl ?_
            refine pm_R_op pm_M155 (pc_q := 38) (st_q := [.int (-1), .int (-1)]) rfl rfl rfl ?_
            refine pm_R_br pm_M155 (pc_q := 41) (st_q := []) rfl rfl ?_
            refine pm_R_op pm_M155 (pc_q := 42) (st_q := [.int 0]) rfl rfl rfl ?_
            exact pm_R_ret pm_M155 (r := some (.int 0)) rfl rfl (K 0 m h T (cl_F.refl (ck := ck) (A := [32, 38]) (n := 0) (s := 0) T.1) (rf_W.refl [] m) (sf_weak sf_k0 (by decide) (by decide)))
          · have B257 : sf_B 0 2147483647 a2 := sf_leR (Int32.not_lt.mp c255) sf_k0 (sf_any a2)
            refine pm_R_lo pm_M139 (pc_q := 5) rfl rfl rfl ?_
            refine pm_R_lo pm_M139 (pc_q := 6) rfl rfl rfl ?_
            refine pm_R_get pm_M139 (pc_q := 9) (v := .ref 17) rfl rfl T.e16 (by decide) (T.lt (by decide)) rfl rfl ?_
            refine pm_R_get pm_M139 (pc_q := 12) (v := .ref 23) rfl rfl T.e17 (by decide) (T.lt (by decide)) rfl rfl ?_
            refine pm_R_op pm_M139 (pc_q := 13) (st_q := [.int 2, .ref 23, .int a2]) rfl rfl rfl ?_
            obtain ⟨z258, ez259⟩ : ∃ y, f178 (Int32.toNatClampNeg 2) = y := ⟨_, rfl⟩
            have B260 : sf_B 0 2 z258 := ez259 ▸ (b180 2)
            refine pm_R_iald pm_M139 (pc_q := 14) (v := z258) rfl e179 (T.lt (by decide)) rfl ez259 rfl ?_
            refine pm_R_icmp pm_M139 (t := 21) (pc_q := 17) rfl rfl rfl (fun c261 => ?_) (fun c261 => ?_)
            · have B262 : sf_B 0 1 a2 := sf_ltL c261 B257 B260
              have B263 : sf_B 1 2 z258 := sf_ltR c261 B257 B260
              refine pm_R_lo pm_M139 (pc_q := 22) rfl rfl rfl ?_
              refine pm_R_get pm_M139 (pc_q := 25) (v := .ref 17) rfl rfl T.e16 (by decide) (T.lt (by decide)) rfl rfl ?_
              refine pm_R_get pm_M139 (pc_q := 28) (v := .ref 21) rfl rfl T.e17 (by decide) (T.lt (by decide)) rfl rfl ?_
              refine pm_R_lo pm_M139 (pc_q := 29) rfl rfl rfl ?_
              obtain ⟨f264, e265, b266⟩ := T.C 21 (by decide) (by decide)
              obtain ⟨l267, hx268⟩ := cl_there2 T e179 e265 ez259 c261 B262 (by decide)
              have hk269 := b266 _ _ hx268
              refine pm_R_aald pm_M139 (pc_q := 30) (v := .ref l267) rfl e265 (by decide) (by decide) (by decide) (T.lt (by decide)) (sf_in B262 (by decide) (by decide)) (by rw [hx268]; rfl) rfl ?_
              refine pm_R_ret pm_M139 (r := some (.ref l267)) rfl rfl ?_
              show pm_R _ 152 5 [.ref 16, .int a2, .int a3, .int a4, pm_no] [.ref l267] _ _
              refine pm_R_lo pm_M152 (pc_q := 7) (ls_q := [.ref 16, .int a2, .int a3, .int a4, .ref l267]) (st_q := []) rfl rfl rfl ?_
              refine pm_R_lo pm_M152 (pc_q := 9) rfl rfl rfl ?_
              refine pm_R_br pm_M152 (pc_q := 12) rfl rfl ?_
              refine pm_R_lo pm_M152 (pc_q := 13) rfl rfl rfl ?_
              refine pm_R_lo pm_M152 (pc_q := 14) rfl rfl rfl ?_
              refine pm_R_icmp pm_M152 (t := 35) (pc_q := 17) rfl rfl rfl (fun c270 => ?_) (fun c270 => ?_)
              · refine pm_R_op pm_M152 (pc_q := 36) (st_q := [.int (-1)]) rfl rfl rfl ?_
                refine pm_R_ret pm_M152 (r := some (.int (-1))) rfl rfl ?_
                show pm_R _ 155 23 [.ref 16, .int a0, .int a1, .int a2, .int a3, .int a4, .ref l187, .ref l252, pm_no, pm_no, pm_no] [.int (-1)] _ _
                refine pm_R_lo pm_M155 (pc_q := 25) (ls_q := [.ref 16, .int a0, .int a1, .int a2, .int a3, .int a4, .ref l187, .ref l252, .int (-1), pm_no, pm_no]) (st_q := []) rfl rfl rfl ?_
                refine pm_R_lo pm_M155 (pc_q := 27) rfl rfl rfl ?_
                refine pm_R_br pm_M155 (pc_q := 30) rfl rfl ?_
                refine pm_R_lo pm_M155 (pc_q := 32) rfl rfl rfl ?_
                refine pm_R_br pm_M155 (pc_q := 35) rfl rfl ?_
                refine pm_R_lo pm_M155 (pc_q := 37) rfl rfl rfl ?_
                refine pm_R_op pm_M155 (pc_q := 38) (st_q := [.int (-1), .int (-1)]) rfl rfl rfl ?_
                refine pm_R_br pm_M155 (pc_q := 41) (st_q := []) rfl rfl ?_
                refine pm_R_op pm_M155 (pc_q := 42) (st_q := [.int 0]) rfl rfl rfl ?_
                exact pm_R_ret pm_M155 (r := some (.int 0)) rfl rfl (K 0 m h T (cl_F.refl (ck := ck) (A := [32, 38]) (n := 0) (s := 0) T.1) (rf_W.refl [] m) (sf_weak sf_k0 (by decide) (by decide)))
              · skip
                refine pm_R_lo pm_M152 (pc_q := 19) rfl rfl rfl ?_
                refine pm_R_lo pm_M152 (pc_q := 20) rfl rfl rfl ?_
                obtain ⟨s271, n272, fd273, fg274, fs275, h276, h277, h278, eE279, eE280, eE281, eE282, b283⟩ := (G.2.2.2.1 l267 hk269).2.2.2
                have kq284 := G.2.2.2.1 l267 hk269
                refine pm_R_cv pm_M152 (pc_q := 23) (a := l267) (ra := [.int a3]) (rest := []) (ls_q := [.ref l267, .int a3]) rfl rfl (Or.inl rfl) pm_M143 (T.im hk269 (by decide) (by decide) eE279) rfl (G.ge hk269 (by decide)) (T.al hk269 (by decide)) rfl rfl (Nat.le_of_ble_eq_true rfl) rfl rfl ?_
                refine pm_R_lo pm_M143 (pc_q := 1) rfl rfl rfl ?_
                refine pm_R_ifc pm_M143 (t := 16) (pc_q := 4) rfl rfl rfl (fun c285 => ?_) (fun c285 => ?_)
                · have B286 : sf_B (-2147483648) (-1) a3 := sf_ltL c285 (sf_any a3) sf_k0
                  refine pm_R_op pm_M143 (pc_q := 17) (st_q := [.int 0]) rfl rfl rfl ?_
                  refine pm_R_ret pm_M143 (r := some (.int 0)) rfl rfl ?_
                  show pm_R _ 152 23 [.ref 16, .int a2, .int a3, .int a4, .ref l267] [.int 0] _ _
                  refine pm_R_br pm_M152 (pc_q := 35) (st_q := []) rfl rfl ?_
                  refine pm_R_op pm_M152 (pc_q := 36) (st_q := [.int (-1)]) rfl rfl rfl ?_
                  refine pm_R_ret pm_M152 (r := some (.int (-1))) rfl rfl ?_
                  show pm_R _ 155 23 [.ref 16, .int a0, .int a1, .int a2, .int a3, .int a4, .ref l187, .ref l252, pm_no, pm_no, pm_no] [.int (-1)] _ _
                  refine pm_R_lo pm_M155 (pc_q := 25) (ls_q := [.ref 16, .int a0, .int a1, .int a2, .int a3, .int a4, .ref l187, .ref l252, .int (-1), pm_no, pm_no]) (st_q := []) rfl rfl rfl ?_
                  refine pm_R_lo pm_M155 (pc_q := 27) rfl rfl rfl ?_
                  refine pm_R_br pm_M155 (pc_q := 30) rfl rfl ?_
                  refine pm_R_lo pm_M155 (pc_q := 32) rfl rfl rfl ?_
                  refine pm_R_br pm_M155 (pc_q := 35) rfl rfl ?_
                  refine pm_R_lo pm_M155 (pc_q := 37) rfl rfl rfl ?_
                  refine pm_R_op pm_M155 (pc_q := 38) (st_q := [.int (-1), .int (-1)]) rfl rfl rfl ?_
                  refine pm_R_br pm_M155 (pc_q := 41) (st_q := []) rfl rfl ?_
                  refine pm_R_op pm_M155 (pc_q := 42) (st_q := [.int 0]) rfl rfl rfl ?_
                  exact pm_R_ret pm_M155 (r := some (.int 0)) rfl rfl (K 0 m h T (cl_F.refl (ck := ck) (A := [32, 38]) (n := 0) (s := 0) T.1) (rf_W.refl [] m) (sf_weak sf_k0 (by decide) (by decide)))
                · have B287 : sf_B 0 2147483647 a3 := sf_leR (Int32.not_lt.mp c285) sf_k0 (sf_any a3)
                  refine pm_R_lo pm_M143 (pc_q := 5) rfl rfl rfl ?_
                  refine pm_R_lo pm_M143 (pc_q := 6) rfl rfl rfl ?_
                  refine pm_R_get pm_M143 (pc_q := 9) (v := .int (Int32.ofNat s271)) rfl rfl (T.im hk269 (by decide) (by decide) eE279) (G.ge hk269 (by decide)) (T.al hk269 (by decide)) rfl rfl ?_
                  refine pm_R_icmp pm_M143 (t := 16) (pc_q := 12) rfl rfl rfl (fun c288 => ?_) (fun c288 => ?_)
                  · have B289 : sf_B 1 2147483647 a3 := sf_leR c288 (sf_ofB1 h277 h276 (by decide)) B287
                    refine pm_R_op pm_M143 (pc_q := 17) (st_q := [.int 0]) rfl rfl rfl ?_
                    refine pm_R_ret pm_M143 (r := some (.int 0)) rfl rfl ?_
                    show pm_R _ 152 23 [.ref 16, .int a2, .int a3, .int a4, .ref l267] [.int 0] _ _
                    refine pm_R_br pm_M152 (pc_q := 35) (st_q := []) rfl rfl ?_
                    refine pm_R_op pm_M152 (pc_q := 36) (st_q := [.int (-1)]) rfl rfl rfl ?_
                    refine pm_R_ret pm_M152 (r := some (.int (-1))) rfl rfl ?_
                    show pm_R _ 155 23 [.ref 16, .int a0, .int a1, .int a2, .int a3, .int a4, .ref l187, .ref l252, pm_no, pm_no, pm_no] [.int (-1)] _ _
                    refine pm_R_lo pm_M155 (pc_q := 25) (ls_q := [.ref 16, .int a0, .int a1, .int a2, .int a3, .int a4, .ref l187, .ref l252, .int (-1), pm_no, pm_no]) (st_q := []) rfl rfl rfl ?_
                    refine pm_R_lo pm_M155 (pc_q := 27) rfl rfl rfl ?_
                    refine pm_R_br pm_M155 (pc_q := 30) rfl rfl ?_
                    refine pm_R_lo pm_M155 (pc_q := 32) rfl rfl rfl ?_
                    refine pm_R_br pm_M155 (pc_q := 35) rfl rfl ?_
                    refine pm_R_lo pm_M155 (pc_q := 37) rfl rfl rfl ?_
                    refine pm_R_op pm_M155 (pc_q := 38) (st_q := [.int (-1), .int (-1)]) rfl rfl rfl ?_
                    refine pm_R_br pm_M155 (pc_q := 41) (st_q := []) rfl rfl ?_
                    refine pm_R_op pm_M155 (pc_q := 42) (st_q := [.int 0]) rfl rfl rfl ?_
                    exact pm_R_ret pm_M155 (r := some (.int 0)) rfl rfl (K 0 m h T (cl_F.refl (ck := ck) (A := [32, 38]) (n := 0) (s := 0) T.1) (rf_W.refl [] m) (sf_weak sf_k0 (by decide) (by decide)))
                  · have B290 : sf_B 0 5 a3 := sf_ltL (Int32.not_le.mp c288) B287 (sf_ofB1 h277 h276 (by decide))
                    refine pm_R_op pm_M143 (pc_q := 13) (st_q := [.int 1]) rfl rfl rfl ?_
                    refine pm_R_br pm_M143 (pc_q := 17) rfl rfl ?_
                    refine pm_R_ret pm_M143 (r := some (.int 1)) rfl rfl ?_
                    show pm_R _ 152 23 [.ref 16, .int a2, .int a3, .int a4, .ref l267] [.int 1] _ _
                    refine pm_R_br pm_M152 (pc_q := 26) (st_q := []) rfl rfl ?_
                    refine pm_R_lo pm_M152 (pc_q := 28) rfl rfl rfl ?_
                    refine pm_R_lo pm_M152 (pc_q := 29) rfl rfl rfl ?_
                    refine pm_R_cv pm_M152 (pc_q := 32) (a := l267) (ra := [.int a4]) (rest := []) (ls_q := [.ref l267, .int a4]) rfl rfl (Or.inl rfl) pm_M143 (T.im hk269 (by decide) (by decide) eE279) rfl (G.ge hk269 (by decide)) (T.al hk269 (by decide)) rfl rfl (Nat.le_of_ble_eq_true rfl) rfl rfl ?_
                    refine pm_R_lo pm_M143 (pc_q := 1) rfl rfl rfl ?_
                    refine pm_R_ifc pm_M143 (t := 16) (pc_q := 4) rfl rfl rfl (fun c291 => ?_) (fun c291 => ?_)
                    · have B292 : sf_B (-2147483648) (-1) a4 := sf_ltL c291 (sf_any a4) sf_k0
                      refine pm_R_op pm_M143 (pc_q := 17) (st_q := [.int 0]) rfl rfl rfl ?_
                      refine pm_R_ret pm_M143 (r := some (.int 0)) rfl rfl ?_
                      show pm_R _ 152 32 [.ref 16, .int a2, .int a3, .int a4, .ref l267] [.int 0] _ _
                      refine pm_R_br pm_M152 (pc_q := 35) (st_q := []) rfl rfl ?_
                      refine pm_R_op pm_M152 (pc_q := 36) (st_q := [.int (-1)]) rfl rfl rfl ?_
                      refine pm_R_ret pm_M152 (r := some (.int (-1))) rfl rfl ?_
                      show pm_R _ 155 23 [.ref 16, .int a0, .int a1, .int a2, .int a3, .int a4, .ref l187, .ref l252, pm_no, pm_no, pm_no] [.int (-1)] _ _
                      refine pm_R_lo pm_M155 (pc_q := 25) (ls_q := [.ref 16, .int a0, .int a1, .int a2, .int a3, .int a4, .ref l187, .ref l252, .int (-1), pm_no, pm_no]) (st_q := []) rfl rfl rfl ?_
                      refine pm_R_lo pm_M155 (pc_q := 27) rfl rfl rfl ?_
                      refine pm_R_br pm_M155 (pc_q := 30) rfl rfl ?_
                      refine pm_R_lo pm_M155 (pc_q := 32) rfl rfl rfl ?_
                      refine pm_R_br pm_M155 (pc_q := 35) rfl rfl ?_
                      refine pm_R_lo pm_M155 (pc_q := 37) rfl rfl rfl ?_
                      refine pm_R_op pm_M155 (pc_q := 38) (st_q := [.int (-1), .int (-1)]) rfl rfl rfl ?_
                      refine pm_R_br pm_M155 (pc_q := 41) (st_q := []) rfl rfl ?_
                      refine pm_R_op pm_M155 (pc_q := 42) (st_q := [.int 0]) rfl rfl rfl ?_
                      exact pm_R_ret pm_M155 (r := some (.int 0)) rfl rfl (K 0 m h T (cl_F.refl (ck := ck) (A := [32, 38]) (n := 0) (s := 0) T.1) (rf_W.refl [] m) (sf_weak sf_k0 (by decide) (by decide)))
                    · have B293 : sf_B 0 2147483647 a4 := sf_leR (Int32.not_lt.mp c291) sf_k0 (sf_any a4)
                      refine pm_R_lo pm_M143 (pc_q := 5) rfl rfl rfl ?_
                      refine pm_R_lo pm_M143 (pc_q := 6) rfl rfl rfl ?_
                      refine pm_R_get pm_M143 (pc_q := 9) (v := .int (Int32.ofNat s271)) rfl rfl (T.im hk269 (by decide) (by decide) eE279) (G.ge hk269 (by decide)) (T.al hk269 (by decide)) rfl rfl ?_
                      refine pm_R_icmp pm_M143 (t := 16) (pc_q := 12) rfl rfl rfl (fun c294 => ?_) (fun c294 => ?_)
                      · have B295 : sf_B 1 2147483647 a4 := sf_leR c294 (sf_ofB1 h277 h276 (by decide)) B293
                        refine pm_R_op pm_M143 (pc_q := 17) (st_q := [.int 0]) rfl rfl rfl ?_
                        refine pm_R_ret pm_M143 (r := some (.int 0)) rfl rfl ?_
                        show pm_R _ 152 32 [.ref 16, .int a2, .int a3, .int a4, .ref l267] [.int 0] _ _
                        refine pm_R_br pm_M152 (pc_q := 35) (st_q := []) rfl rfl ?_
                        refine pm_R_op pm_M152 (pc_q := 36) (st_q := [.int (-1)]) rfl rfl rfl ?_
                        refine pm_R_ret pm_M152 (r := some (.int (-1))) rfl rfl ?_
                        show pm_R _ 155 23 [.ref 16, .int a0, .int a1, .int a2, .int a3, .int a4, .ref l187, .ref l252, pm_no, pm_no, pm_no] [.int (-1)] _ _
                        refine pm_R_lo pm_M155 (pc_q := 25) (ls_q := [.ref 16, .int a0, .int a1, .int a2, .int a3, .int a4, .ref l187, .ref l252, .int (-1), pm_no, pm_no]) (st_q := []) rfl rfl rfl ?_
                        refine pm_R_lo pm_M155 (pc_q := 27) rfl rfl rfl ?_
                        refine pm_R_br pm_M155 (pc_q := 30) rfl rfl ?_
                        refine pm_R_lo pm_M155 (pc_q := 32) rfl rfl rfl ?_
                        refine pm_R_br pm_M155 (pc_q := 35) rfl rfl ?_
                        refine pm_R_lo pm_M155 (pc_q := 37) rfl rfl rfl ?_
                        refine pm_R_op pm_M155 (pc_q := 38) (st_q := [.int (-1), .int (-1)]) rfl rfl rfl ?_
                        refine pm_R_br pm_M155 (pc_q := 41) (st_q := []) rfl rfl ?_
                        refine pm_R_op pm_M155 (pc_q := 42) (st_q := [.int 0]) rfl rfl rfl ?_
                        exact pm_R_ret pm_M155 (r := some (.int 0)) rfl rfl (K 0 m h T (cl_F.refl (ck := ck) (A := [32, 38]) (n := 0) (s := 0) T.1) (rf_W.refl [] m) (sf_weak sf_k0 (by decide) (by decide)))
                      · have B296 : sf_B 0 5 a4 := sf_ltL (Int32.not_le.mp c294) B293 (sf_ofB1 h277 h276 (by decide))
                        refine pm_R_op pm_M143 (pc_q := 13) (st_q := [.int 1]) rfl rfl rfl ?_
                        refine pm_R_br pm_M143 (pc_q := 17) rfl rfl ?_
                        refine pm_R_ret pm_M143 (r := some (.int 1)) rfl rfl ?_
                        show pm_R _ 152 32 [.ref 16, .int a2, .int a3, .int a4, .ref l267] [.int 1] _ _
                        refine pm_R_br pm_M152 (pc_q := 37) (st_q := []) rfl rfl ?_
                        refine pm_R_lo pm_M152 (pc_q := 39) rfl rfl rfl ?_
                        refine pm_R_lo pm_M152 (pc_q := 40) rfl rfl rfl ?_
                        refine pm_R_lo pm_M152 (pc_q := 41) rfl rfl rfl ?_
                        refine pm_R_cv pm_M152 (pc_q := 44) (a := l267) (ra := [.int a4, .int a3]) (rest := []) (ls_q := [.ref l267, .int a3, .int a4, pm_no, pm_no]) rfl rfl (Or.inl rfl) pm_M153 (T.im hk269 (by decide) (by decide) eE279) rfl (G.ge hk269 (by decide)) (T.al hk269 (by decide)) rfl rfl (Nat.le_of_ble_eq_true rfl) rfl rfl ?_
                        refine cl_c153 (d := d + 1) G T hk269 B290 B296 (fun r297 X304 B298 => ?_)
                        show pm_R _ 152 44 [.ref 16, .int a2, .int a3, .int a4, .ref l267] [.int r297] _ _
                        refine pm_R_ret pm_M152 (r := some (.int r297)) rfl (pm_ret_i _) ?_
                        show pm_R _ 155 23 [.ref 16, .int a0, .int a1, .int a2, .int a3, .int a4, .ref l187, .ref l252, pm_no, pm_no, pm_no] [.int r297] _ _
                        refine pm_R_lo pm_M155 (pc_q := 25) (ls_q := [.ref 16, .int a0, .int a1, .int a2, .int a3, .int a4, .ref l187, .ref l252, .int r297, pm_no, pm_no]) (st_q := []) rfl rfl rfl ?_
                        refine pm_R_lo pm_M155 (pc_q := 27) rfl rfl rfl ?_
                        refine pm_R_br pm_M155 (pc_q := 30) rfl rfl ?_
                        refine pm_R_lo pm_M155 (pc_q := 32) rfl rfl rfl ?_
                        refine pm_R_br pm_M155 (pc_q := 35) rfl rfl ?_
                        refine pm_R_lo pm_M155 (pc_q := 37) rfl rfl rfl ?_
                        refine pm_R_op pm_M155 (pc_q := 38) (st_q := [.int (-1), .int r297]) rfl rfl rfl ?_
                        refine pm_R_icmp pm_M155 (t := 43) (pc_q := 41) rfl rfl rfl (fun c305 => ?_) (fun c305 => ?_)
                        · have B306 : sf_B 1 5 r297 := cl_gap X304 c305 B298
                          refine pm_R_lo pm_M155 (pc_q := 44) rfl rfl rfl ?_
                          refine pm_R_lo pm_M155 (pc_q := 46) rfl rfl rfl ?_
                          refine pm_R_lo pm_M155 (pc_q := 48) rfl rfl rfl ?_
                          refine pm_R_op pm_M155 (pc_q := 49) (st_q := [.int 0, .ref l252, .ref l187, .ref 16]) rfl rfl rfl ?_
                          refine pm_R_cv pm_M155 (pc_q := 52) (a := 16) (ra := [.int 0, .ref l252, .ref l187]) (rest := []) (ls_q := [.ref 16, .ref l187, .ref l252, .int 0]) rfl rfl (Or.inl rfl) pm_M98 T.e16 rfl (by decide) (T.lt (by decide)) rfl rfl (Nat.le_of_ble_eq_true rfl) rfl rfl ?_
                          refine cl_c98 (d := d + 0) G T hk189 hk254 (sf_weak sf_k0 (by decide) (by decide)) (fun r307 m309 h310 T311 F312 W313 => ?_)
                          have F314 := (cl_F.refl (ck := ck) (A := [32, 38]) (n := 0) (s := 0) T.1).trans (N := 0) (S := 0) F312 (by decide) (by decide) (by decide)
                          have W315 : rf_W [] m m309 := (rf_W.refl [] m).trans W313 (by decide)
                          show pm_R _ 155 52 [.ref 16, .int a0, .int a1, .int a2, .int a3, .int a4, .ref l187, .ref l252, .int r297, pm_no, pm_no] [.long r307] _ _
                          refine pm_R_lo pm_M155 (pc_q := 54) (ls_q := [.ref 16, .int a0, .int a1, .int a2, .int a3, .int a4, .ref l187, .ref l252, .int r297, .long r307, pm_no]) (st_q := []) rfl rfl rfl ?_
                          refine pm_R_lo pm_M155 (pc_q := 56) rfl rfl rfl ?_
                          refine pm_R_op pm_M155 (pc_q := 57) (st_q := [.long 0, .long r307]) rfl rfl rfl ?_
                          refine sf_R_lcmp pm_M155 (pc_q := 58) rfl rfl (fun z316 e317 => ?_)
                          refine pm_R_ifc pm_M155 (t := 83) (pc_q := 61) rfl rfl rfl (fun c318 => ?_) (fun c318 => ?_)
                          · have B319 : sf_B 0 0 z316 := sf_eqL c318 sf_k0
                            have B320 : lf_B 0 0 r307 := lf_eqB e317 B319 (⟨by decide, by decide⟩ : lf_B 0 0 0)
                            refine pm_R_op pm_M155 (pc_q := 84) (st_q := [.int 0]) rfl rfl rfl ?_
                            exact pm_R_ret pm_M155 (r := some (.int 0)) rfl rfl (K 0 m309 h310 T311 F314 W315 (sf_weak sf_k0 (by decide) (by decide)))
                          · have k321 := sf_lneC e317 c318
                            refine pm_R_lo pm_M155 (pc_q := 62) rfl rfl rfl ?_
                            refine pm_R_lo pm_M155 (pc_q := 64) rfl rfl rfl ?_
                            refine pm_R_lo pm_M155 (pc_q := 66) rfl rfl rfl ?_
                            refine pm_R_lo pm_M155 (pc_q := 68) rfl rfl rfl ?_
                            refine pm_R_op pm_M155 (pc_q := 69) (st_q := [.int 1, .int r297, .ref l252, .ref l187, .ref 16]) rfl rfl rfl ?_
                            refine sf_R_isub pm_M155 (pc_q := 70) rfl rfl B306 sf_k1 (by decide) (by decide) (fun z322 e323 B324 => ?_)
                            refine pm_R_cv pm_M155 (pc_q := 73) (a := 16) (ra := [.int z322, .ref l252, .ref l187]) (rest := []) (ls_q := [.ref 16, .ref l187, .ref l252, .int z322]) rfl rfl (Or.inl rfl) pm_M98 T311.e16 rfl (by decide) (T311.lt (by decide)) rfl rfl (Nat.le_of_ble_eq_true rfl) rfl rfl ?_
                            refine cl_c98 (d := d + 0) G T311 hk189 hk254 (sf_weak B324 (by decide) (by decide)) (fun r325 m327 h328 T329 F330 W331 => ?_)
                            have F332 := F314.trans (N := 0) (S := 0) F330 (by decide) (by decide) (by decide)
                            have W333 : rf_W [] m m327 := W315.trans W331 (by decide)
                            show pm_R _ 155 73 [.ref 16, .int a0, .int a1, .int a2, .int a3, .int a4, .ref l187, .ref l252, .int r297, .long r307, pm_no] [.long r325] _ _
                            refine pm_R_lo pm_M155 (pc_q := 75) rfl rfl rfl ?_
                            refine sf_R_lcmp pm_M155 (pc_q := 76) rfl rfl (fun z334 e335 => ?_)
                            refine pm_R_ifc pm_M155 (t := 83) (pc_q := 79) rfl rfl rfl (fun c336 => ?_) (fun c336 => ?_)
                            · have k337 := sf_lneC e335 c336
                              refine pm_R_op pm_M155 (pc_q := 84) (st_q := [.int 0]) rfl rfl rfl ?_
                              exact pm_R_ret pm_M155 (r := some (.int 0)) rfl rfl (K 0 m327 h328 T329 F332 W333 (sf_weak sf_k0 (by decide) (by decide)))
                            · have B338 : sf_B 0 0 z334 := sf_eqL (Classical.not_not.mp c336) sf_k0
                              have k339 := lf_ge e335 B338 (by decide)
                              refine pm_R_op pm_M155 (pc_q := 80) (st_q := [.int 1]) rfl rfl rfl ?_
                              refine pm_R_br pm_M155 (pc_q := 84) rfl rfl ?_
                              exact pm_R_ret pm_M155 (r := some (.int 1)) rfl rfl (K 1 m327 h328 T329 F332 W333 (sf_weak sf_k1 (by decide) (by decide)))
                        · have B340 : sf_B (-1) (-1) r297 := sf_eqL (Classical.not_not.mp c305) sf_kn1
                          refine pm_R_op pm_M155 (pc_q := 42) (st_q := [.int 0]) rfl rfl rfl ?_
                          exact pm_R_ret pm_M155 (r := some (.int 0)) rfl rfl (K 0 m h T (cl_F.refl (ck := ck) (A := [32, 38]) (n := 0) (s := 0) T.1) (rf_W.refl [] m) (sf_weak sf_k0 (by decide) (by decide)))
            · skip
              refine pm_R_op pm_M139 (pc_q := 18) (st_q := [.null]) rfl rfl rfl ?_
              refine pm_R_br pm_M139 (pc_q := 30) rfl rfl ?_
              refine pm_R_ret pm_M139 (r := some (.null)) rfl rfl ?_
              show pm_R _ 152 5 [.ref 16, .int a2, .int a3, .int a4, pm_no] [.null] _ _
              refine pm_R_lo pm_M152 (pc_q := 7) (ls_q := [.ref 16, .int a2, .int a3, .int a4, .null]) (st_q := []) rfl rfl rfl ?_
              refine pm_R_lo pm_M152 (pc_q := 9) rfl rfl rfl ?_
              refine pm_R_br pm_M152 (pc_q := 35) rfl rfl ?_
              refine pm_R_op pm_M152 (pc_q := 36) (st_q := [.int (-1)]) rfl rfl rfl ?_
              refine pm_R_ret pm_M152 (r := some (.int (-1))) rfl rfl ?_
              show pm_R _ 155 23 [.ref 16, .int a0, .int a1, .int a2, .int a3, .int a4, .ref l187, .ref l252, pm_no, pm_no, pm_no] [.int (-1)] _ _
              refine pm_R_lo pm_M155 (pc_q := 25) (ls_q := [.ref 16, .int a0, .int a1, .int a2, .int a3, .int a4, .ref l187, .ref l252, .int (-1), pm_no, pm_no]) (st_q := []) rfl rfl rfl ?_
              refine pm_R_lo pm_M155 (pc_q := 27) rfl rfl rfl ?_
              refine pm_R_br pm_M155 (pc_q := 30) rfl rfl ?_
              refine pm_R_lo pm_M155 (pc_q := 32) rfl rfl rfl ?_
              refine pm_R_br pm_M155 (pc_q := 35) rfl rfl ?_
              refine pm_R_lo pm_M155 (pc_q := 37) rfl rfl rfl ?_
              refine pm_R_op pm_M155 (pc_q := 38) (st_q := [.int (-1), .int (-1)]) rfl rfl rfl ?_
              refine pm_R_br pm_M155 (pc_q := 41) (st_q := []) rfl rfl ?_
              refine pm_R_op pm_M155 (pc_q := 42) (st_q := [.int 0]) rfl rfl rfl ?_
              exact pm_R_ret pm_M155 (r := some (.int 0)) rfl rfl (K 0 m h T (cl_F.refl (ck := ck) (A := [32, 38]) (n := 0) (s := 0) T.1) (rf_W.refl [] m) (sf_weak sf_k0 (by decide) (by decide)))
        · skip
          refine pm_R_op pm_M66 (pc_q := 18) (st_q := [.null]) rfl rfl rfl ?_
          refine pm_R_br pm_M66 (pc_q := 30) rfl rfl ?_
          refine pm_R_ret pm_M66 (r := some (.null)) rfl rfl ?_
          show pm_R _ 155 12 [.ref 16, .int a0, .int a1, .int a2, .int a3, .int a4, .ref l187, pm_no, pm_no, pm_no, pm_no] [.null] _ _
          refine pm_R_lo pm_M155 (pc_q := 14) (ls_q := [.ref 16, .int a0, .int a1, .int a2, .int a3, .int a4, .ref l187, .null, pm_no, pm_no, pm_no]) (st_q := []) rfl rfl rfl ?_
          refine pm_R_lo pm_M155 (pc_q := 15) rfl rfl rfl ?_
          refine pm_R_lo pm_M155 (pc_q := 16) rfl rfl rfl ?_
          refine pm_R_lo pm_M155 (pc_q := 18) rfl rfl rfl ?_
          refine pm_R_lo pm_M155 (pc_q := 20) rfl rfl rfl ?_
          refine pm_R_cv pm_M155 (pc_q := 23) (a := 16) (ra := [.int a4, .int a3, .int a2]) (rest := []) (ls_q := [.ref 16, .int a2, .int a3, .int a4, pm_no]) rfl rfl (Or.inl rfl) pm_M152 T.e16 rfl (by decide) (T.lt (by decide)) rfl rfl (Nat.le_of_ble_eq_true rfl) rfl rfl ?_
          refine pm_R_lo pm_M152 (pc_q := 1) rfl rfl rfl ?_
          refine pm_R_lo pm_M152 (pc_q := 2) rfl rfl rfl ?_
          refine pm_R_cv pm_M152 (pc_q := 5) (a := 16) (ra := [.int a2]) (rest := []) (ls_q := [.ref 16, .int a2]) rfl rfl (Or.inl rfl) pm_M139 T.e16 rfl (by decide) (T.lt (by decide)) rfl rfl (Nat.le_of_ble_eq_true rfl) rfl rfl ?_
          refine pm_R_lo pm_M139 (pc_q := 1) rfl rfl rfl ?_
          refine pm_R_ifc pm_M139 (t := 17) (pc_q := 4) rfl rfl rfl (fun c341 => ?_) (fun c341 => ?_)
          · have B342 : sf_B (-2147483648) (-1) a2 := sf_ltL c341 (sf_any a2) sf_k0
            refine pm_R_op pm_M139 (pc_q := 18) (st_q := [.null]) rfl rfl rfl ?_
            refine pm_R_br pm_M139 (pc_q := 30) rfl rfl ?_
            refine pm_R_ret pm_M139 (r := some (.null)) rfl rfl ?_
            show pm_R _ 152 5 [.ref 16, .int a2, .int a3, .int a4, pm_no] [.null] _ _
            refine pm_R_lo pm_M152 (pc_q := 7) (ls_q := [.ref 16, .int a2, .int a3, .int a4, .null]) (st_q := []) rfl rfl rfl ?_
            refine pm_R_lo pm_M152 (pc_q := 9) rfl rfl rfl ?_
            refine pm_R_br pm_M152 (pc_q := 35) rfl rfl ?_
            refine pm_R_op pm_M152 (pc_q := 36) (st_q := [.int (-1)]) rfl rfl rfl ?_
            refine pm_R_ret pm_M152 (r := some (.int (-1))) rfl rfl ?_
            show pm_R _ 155 23 [.ref 16, .int a0, .int a1, .int a2, .int a3, .int a4, .ref l187, .null, pm_no, pm_no, pm_no] [.int (-1)] _ _
            refine pm_R_lo pm_M155 (pc_q := 25) (ls_q := [.ref 16, .int a0, .int a1, .int a2, .int a3, .int a4, .ref l187, .null, .int (-1), pm_no, pm_no]) (st_q := []) rfl rfl rfl ?_
            refine pm_R_lo pm_M155 (pc_q := 27) rfl rfl rfl ?_
            refine pm_R_br pm_M155 (pc_q := 30) rfl rfl ?_
            refine pm_R_lo pm_M155 (pc_q := 32) rfl rfl rfl ?_
            refine pm_R_br pm_M155 (pc_q := 41) rfl rfl ?_
            refine pm_R_op pm_M155 (pc_q := 42) (st_q := [.int 0]) rfl rfl rfl ?_
            exact pm_R_ret pm_M155 (r := some (.int 0)) rfl rfl (K 0 m h T (cl_F.refl (ck := ck) (A := [32, 38]) (n := 0) (s := 0) T.1) (rf_W.refl [] m) (sf_weak sf_k0 (by decide) (by decide)))
          · have B343 : sf_B 0 2147483647 a2 := sf_leR (Int32.not_lt.mp c341) sf_k0 (sf_any a2)
            refine pm_R_lo pm_M139 (pc_q := 5) rfl rfl rfl ?_
            refine pm_R_lo pm_M139 (pc_q := 6) rfl rfl rfl ?_
            refine pm_R_get pm_M139 (pc_q := 9) (v := .ref 17) rfl rfl T.e16 (by decide) (T.lt (by decide)) rfl rfl ?_
            refine pm_R_get pm_M139 (pc_q := 12) (v := .ref 23) rfl rfl T.e17 (by decide) (T.lt (by decide)) rfl rfl ?_
            refine pm_R_op pm_M139 (pc_q := 13) (st_q := [.int 2, .ref 23, .int a2]) rfl rfl rfl ?_
            obtain ⟨z344, ez345⟩ : ∃ y, f178 (Int32.toNatClampNeg 2) = y := ⟨_, rfl⟩
            have B346 : sf_B 0 2 z344 := ez345 ▸ (b180 2)
            refine pm_R_iald pm_M139 (pc_q := 14) (v := z344) rfl e179 (T.lt (by decide)) rfl ez345 rfl ?_
            refine pm_R_icmp pm_M139 (t := 21) (pc_q := 17) rfl rfl rfl (fun c347 => ?_) (fun c347 => ?_)
            · have B348 : sf_B 0 1 a2 := sf_ltL c347 B343 B346
              have B349 : sf_B 1 2 z344 := sf_ltR c347 B343 B346
              refine pm_R_lo pm_M139 (pc_q := 22) rfl rfl rfl ?_
              refine pm_R_get pm_M139 (pc_q := 25) (v := .ref 17) rfl rfl T.e16 (by decide) (T.lt (by decide)) rfl rfl ?_
              refine pm_R_get pm_M139 (pc_q := 28) (v := .ref 21) rfl rfl T.e17 (by decide) (T.lt (by decide)) rfl rfl ?_
              refine pm_R_lo pm_M139 (pc_q := 29) rfl rfl rfl ?_
              obtain ⟨f350, e351, b352⟩ := T.C 21 (by decide) (by decide)
              obtain ⟨l353, hx354⟩ := cl_there2 T e179 e351 ez345 c347 B348 (by decide)
              have hk355 := b352 _ _ hx354
              refine pm_R_aald pm_M139 (pc_q := 30) (v := .ref l353) rfl e351 (by decide) (by decide) (by decide) (T.lt (by decide)) (sf_in B348 (by decide) (by decide)) (by rw [hx354]; rfl) rfl ?_
              refine pm_R_ret pm_M139 (r := some (.ref l353)) rfl rfl ?_
              show pm_R _ 152 5 [.ref 16, .int a2, .int a3, .int a4, pm_no] [.ref l353] _ _
              refine pm_R_lo pm_M152 (pc_q := 7) (ls_q := [.ref 16, .int a2, .int a3, .int a4, .ref l353]) (st_q := []) rfl rfl rfl ?_
              refine pm_R_lo pm_M152 (pc_q := 9) rfl rfl rfl ?_
              refine pm_R_br pm_M152 (pc_q := 12) rfl rfl ?_
              refine pm_R_lo pm_M152 (pc_q := 13) rfl rfl rfl ?_
              refine pm_R_lo pm_M152 (pc_q := 14) rfl rfl rfl ?_
              refine pm_R_icmp pm_M152 (t := 35) (pc_q := 17) rfl rfl rfl (fun c356 => ?_) (fun c356 => ?_)
              · refine pm_R_op pm_M152 (pc_q := 36) (st_q := [.int (-1)]) rfl rfl rfl ?_
                refine pm_R_ret pm_M152 (r := some (.int (-1))) rfl rfl ?_
                show pm_R _ 155 23 [.ref 16, .int a0, .int a1, .int a2, .int a3, .int a4, .ref l187, .null, pm_no, pm_no, pm_no] [.int (-1)] _ _
                refine pm_R_lo pm_M155 (pc_q := 25) (ls_q := [.ref 16, .int a0, .int a1, .int a2, .int a3, .int a4, .ref l187, .null, .int (-1), pm_no, pm_no]) (st_q := []) rfl rfl rfl ?_
                refine pm_R_lo pm_M155 (pc_q := 27) rfl rfl rfl ?_
                refine pm_R_br pm_M155 (pc_q := 30) rfl rfl ?_
                refine pm_R_lo pm_M155 (pc_q := 32) rfl rfl rfl ?_
                refine pm_R_br pm_M155 (pc_q := 41) rfl rfl ?_
                refine pm_R_op pm_M155 (pc_q := 42) (st_q := [.int 0]) rfl rfl rfl ?_
                exact pm_R_ret pm_M155 (r := some (.int 0)) rfl rfl (K 0 m h T (cl_F.refl (ck := ck) (A := [32, 38]) (n := 0) (s := 0) T.1) (rf_W.refl [] m) (sf_weak sf_k0 (by decide) (by decide)))
              · skip
                refine pm_R_lo pm_M152 (pc_q := 19) rfl rfl rfl ?_
                refine pm_R_lo pm_M152 (pc_q := 20) rfl rfl rfl ?_
                obtain ⟨s357, n358, fd359, fg360, fs361, h362, h363, h364, eE365, eE366, eE367, eE368, b369⟩ := (G.2.2.2.1 l353 hk355).2.2.2
                have kq370 := G.2.2.2.1 l353 hk355
                refine pm_R_cv pm_M152 (pc_q := 23) (a := l353) (ra := [.int a3]) (rest := []) (ls_q := [.ref l353, .int a3]) rfl rfl (Or.inl rfl) pm_M143 (T.im hk355 (by decide) (by decide) eE365) rfl (G.ge hk355 (by decide)) (T.al hk355 (by decide)) rfl rfl (Nat.le_of_ble_eq_true rfl) rfl rfl ?_
                refine pm_R_lo pm_M143 (pc_q := 1) rfl rfl rfl ?_
                refine pm_R_ifc pm_M143 (t := 16) (pc_q := 4) rfl rfl rfl (fun c371 => ?_) (fun c371 => ?_)
                · have B372 : sf_B (-2147483648) (-1) a3 := sf_ltL c371 (sf_any a3) sf_k0
                  refine pm_R_op pm_M143 (pc_q := 17) (st_q := [.int 0]) rfl rfl rfl ?_
                  refine pm_R_ret pm_M143 (r := some (.int 0)) rfl rfl ?_
                  show pm_R _ 152 23 [.ref 16, .int a2, .int a3, .int a4, .ref l353] [.int 0] _ _
                  refine pm_R_br pm_M152 (pc_q := 35) (st_q := []) rfl rfl ?_
                  refine pm_R_op pm_M152 (pc_q := 36) (st_q := [.int (-1)]) rfl rfl rfl ?_
                  refine pm_R_ret pm_M152 (r := some (.int (-1))) rfl rfl ?_
                  show pm_R _ 155 23 [.ref 16, .int a0, .int a1, .int a2, .int a3, .int a4, .ref l187, .null, pm_no, pm_no, pm_no] [.int (-1)] _ _
                  refine pm_R_lo pm_M155 (pc_q := 25) (ls_q := [.ref 16, .int a0, .int a1, .int a2, .int a3, .int a4, .ref l187, .null, .int (-1), pm_no, pm_no]) (st_q := []) rfl rfl rfl ?_
                  refine pm_R_lo pm_M155 (pc_q := 27) rfl rfl rfl ?_
                  refine pm_R_br pm_M155 (pc_q := 30) rfl rfl ?_
                  refine pm_R_lo pm_M155 (pc_q := 32) rfl rfl rfl ?_
                  refine pm_R_br pm_M155 (pc_q := 41) rfl rfl ?_
                  refine pm_R_op pm_M155 (pc_q := 42) (st_q := [.int 0]) rfl rfl rfl ?_
                  exact pm_R_ret pm_M155 (r := some (.int 0)) rfl rfl (K 0 m h T (cl_F.refl (ck := ck) (A := [32, 38]) (n := 0) (s := 0) T.1) (rf_W.refl [] m) (sf_weak sf_k0 (by decide) (by decide)))
                · have B373 : sf_B 0 2147483647 a3 := sf_leR (Int32.not_lt.mp c371) sf_k0 (sf_any a3)
                  refine pm_R_lo pm_M143 (pc_q := 5) rfl rfl rfl ?_
                  refine pm_R_lo pm_M143 (pc_q := 6) rfl rfl rfl ?_
                  refine pm_R_get pm_M143 (pc_q := 9) (v := .int (Int32.ofNat s357)) rfl rfl (T.im hk355 (by decide) (by decide) eE365) (G.ge hk355 (by decide)) (T.al hk355 (by decide)) rfl rfl ?_
                  refine pm_R_icmp pm_M143 (t := 16) (pc_q := 12) rfl rfl rfl (fun c374 => ?_) (fun c374 => ?_)
                  · have B375 : sf_B 1 2147483647 a3 := sf_leR c374 (sf_ofB1 h363 h362 (by decide)) B373
                    refine pm_R_op pm_M143 (pc_q := 17) (st_q := [.int 0]) rfl rfl rfl ?_
                    refine pm_R_ret pm_M143 (r := some (.int 0)) rfl rfl ?_
                    show pm_R _ 152 23 [.ref 16, .int a2, .int a3, .int a4, .ref l353] [.int 0] _ _
                    refine pm_R_br pm_M152 (pc_q := 35) (st_q := []) rfl rfl ?_
                    refine pm_R_op pm_M152 (pc_q := 36) (st_q := [.int (-1)]) rfl rfl rfl ?_
                    refine pm_R_ret pm_M152 (r := some (.int (-1))) rfl rfl ?_
                    show pm_R _ 155 23 [.ref 16, .int a0, .int a1, .int a2, .int a3, .int a4, .ref l187, .null, pm_no, pm_no, pm_no] [.int (-1)] _ _
                    refine pm_R_lo pm_M155 (pc_q := 25) (ls_q := [.ref 16, .int a0, .int a1, .int a2, .int a3, .int a4, .ref l187, .null, .int (-1), pm_no, pm_no]) (st_q := []) rfl rfl rfl ?_
                    refine pm_R_lo pm_M155 (pc_q := 27) rfl rfl rfl ?_
                    refine pm_R_br pm_M155 (pc_q := 30) rfl rfl ?_
                    refine pm_R_lo pm_M155 (pc_q := 32) rfl rfl rfl ?_
                    refine pm_R_br pm_M155 (pc_q := 41) rfl rfl ?_
                    refine pm_R_op pm_M155 (pc_q := 42) (st_q := [.int 0]) rfl rfl rfl ?_
                    exact pm_R_ret pm_M155 (r := some (.int 0)) rfl rfl (K 0 m h T (cl_F.refl (ck := ck) (A := [32, 38]) (n := 0) (s := 0) T.1) (rf_W.refl [] m) (sf_weak sf_k0 (by decide) (by decide)))
                  · have B376 : sf_B 0 5 a3 := sf_ltL (Int32.not_le.mp c374) B373 (sf_ofB1 h363 h362 (by decide))
                    refine pm_R_op pm_M143 (pc_q := 13) (st_q := [.int 1]) rfl rfl rfl ?_
                    refine pm_R_br pm_M143 (pc_q := 17) rfl rfl ?_
                    refine pm_R_ret pm_M143 (r := some (.int 1)) rfl rfl ?_
                    show pm_R _ 152 23 [.ref 16, .int a2, .int a3, .int a4, .ref l353] [.int 1] _ _
                    refine pm_R_br pm_M152 (pc_q := 26) (st_q := []) rfl rfl ?_
                    refine pm_R_lo pm_M152 (pc_q := 28) rfl rfl rfl ?_
                    refine pm_R_lo pm_M152 (pc_q := 29) rfl rfl rfl ?_
                    refine pm_R_cv pm_M152 (pc_q := 32) (a := l353) (ra := [.int a4]) (rest := []) (ls_q := [.ref l353, .int a4]) rfl rfl (Or.inl rfl) pm_M143 (T.im hk355 (by decide) (by decide) eE365) rfl (G.ge hk355 (by decide)) (T.al hk355 (by decide)) rfl rfl (Nat.le_of_ble_eq_true rfl) rfl rfl ?_
                    refine pm_R_lo pm_M143 (pc_q := 1) rfl rfl rfl ?_
                    refine pm_R_ifc pm_M143 (t := 16) (pc_q := 4) rfl rfl rfl (fun c377 => ?_) (fun c377 => ?_)
                    · have B378 : sf_B (-2147483648) (-1) a4 := sf_ltL c377 (sf_any a4) sf_k0
                      refine pm_R_op pm_M143 (pc_q := 17) (st_q := [.int 0]) rfl rfl rfl ?_
                      refine pm_R_ret pm_M143 (r := some (.int 0)) rfl rfl ?_
                      show pm_R _ 152 32 [.ref 16, .int a2, .int a3, .int a4, .ref l353] [.int 0] _ _
                      refine pm_R_br pm_M152 (pc_q := 35) (st_q := []) rfl rfl ?_
                      refine pm_R_op pm_M152 (pc_q := 36) (st_q := [.int (-1)]) rfl rfl rfl ?_
                      refine pm_R_ret pm_M152 (r := some (.int (-1))) rfl rfl ?_
                      show pm_R _ 155 23 [.ref 16, .int a0, .int a1, .int a2, .int a3, .int a4, .ref l187, .null, pm_no, pm_no, pm_no] [.int (-1)] _ _
                      refine pm_R_lo pm_M155 (pc_q := 25) (ls_q := [.ref 16, .int a0, .int a1, .int a2, .int a3, .int a4, .ref l187, .null, .int (-1), pm_no, pm_no]) (st_q := []) rfl rfl rfl ?_
                      refine pm_R_lo pm_M155 (pc_q := 27) rfl rfl rfl ?_
                      refine pm_R_br pm_M155 (pc_q := 30) rfl rfl ?_
                      refine pm_R_lo pm_M155 (pc_q := 32) rfl rfl rfl ?_
                      refine pm_R_br pm_M155 (pc_q := 41) rfl rfl ?_
                      refine pm_R_op pm_M155 (pc_q := 42) (st_q := [.int 0]) rfl rfl rfl ?_
                      exact pm_R_ret pm_M155 (r := some (.int 0)) rfl rfl (K 0 m h T (cl_F.refl (ck := ck) (A := [32, 38]) (n := 0) (s := 0) T.1) (rf_W.refl [] m) (sf_weak sf_k0 (by decide) (by decide)))
                    · have B379 : sf_B 0 2147483647 a4 := sf_leR (Int32.not_lt.mp c377) sf_k0 (sf_any a4)
                      refine pm_R_lo pm_M143 (pc_q := 5) rfl rfl rfl ?_
                      refine pm_R_lo pm_M143 (pc_q := 6) rfl rfl rfl ?_
                      refine pm_R_get pm_M143 (pc_q := 9) (v := .int (Int32.ofNat s357)) rfl rfl (T.im hk355 (by decide) (by decide) eE365) (G.ge hk355 (by decide)) (T.al hk355 (by decide)) rfl rfl ?_
                      refine pm_R_icmp pm_M143 (t := 16) (pc_q := 12) rfl rfl rfl (fun c380 => ?_) (fun c380 => ?_)
                      · have B381 : sf_B 1 2147483647 a4 := sf_leR c380 (sf_ofB1 h363 h362 (by decide)) B379
                        refine pm_R_op pm_M143 (pc_q := 17) (st_q := [.int 0]) rfl rfl rfl ?_
                        refine pm_R_ret pm_M143 (r := some (.int 0)) rfl rfl ?_
                        show pm_R _ 152 32 [.ref 16, .int a2, .int a3, .int a4, .ref l353] [.int 0] _ _
                        refine pm_R_br pm_M152 (pc_q := 35) (st_q := []) rfl rfl ?_
                        refine pm_R_op pm_M152 (pc_q := 36) (st_q := [.int (-1)]) rfl rfl rfl ?_
                        refine pm_R_ret pm_M152 (r := some (.int (-1))) rfl rfl ?_
                        show pm_R _ 155 23 [.ref 16, .int a0, .int a1, .int a2, .int a3, .int a4, .ref l187, .null, pm_no, pm_no, pm_no] [.int (-1)] _ _
                        refine pm_R_lo pm_M155 (pc_q := 25) (ls_q := [.ref 16, .int a0, .int a1, .int a2, .int a3, .int a4, .ref l187, .null, .int (-1), pm_no, pm_no]) (st_q := []) rfl rfl rfl ?_
                        refine pm_R_lo pm_M155 (pc_q := 27) rfl rfl rfl ?_
                        refine pm_R_br pm_M155 (pc_q := 30) rfl rfl ?_
                        refine pm_R_lo pm_M155 (pc_q := 32) rfl rfl rfl ?_
                        refine pm_R_br pm_M155 (pc_q := 41) rfl rfl ?_
                        refine pm_R_op pm_M155 (pc_q := 42) (st_q := [.int 0]) rfl rfl rfl ?_
                        exact pm_R_ret pm_M155 (r := some (.int 0)) rfl rfl (K 0 m h T (cl_F.refl (ck := ck) (A := [32, 38]) (n := 0) (s := 0) T.1) (rf_W.refl [] m) (sf_weak sf_k0 (by decide) (by decide)))
                      · have B382 : sf_B 0 5 a4 := sf_ltL (Int32.not_le.mp c380) B379 (sf_ofB1 h363 h362 (by decide))
                        refine pm_R_op pm_M143 (pc_q := 13) (st_q := [.int 1]) rfl rfl rfl ?_
                        refine pm_R_br pm_M143 (pc_q := 17) rfl rfl ?_
                        refine pm_R_ret pm_M143 (r := some (.int 1)) rfl rfl ?_
                        show pm_R _ 152 32 [.ref 16, .int a2, .int a3, .int a4, .ref l353] [.int 1] _ _
                        refine pm_R_br pm_M152 (pc_q := 37) (st_q := []) rfl rfl ?_
                        refine pm_R_lo pm_M152 (pc_q := 39) rfl rfl rfl ?_
                        refine pm_R_lo pm_M152 (pc_q := 40) rfl rfl rfl ?_
                        refine pm_R_lo pm_M152 (pc_q := 41) rfl rfl rfl ?_
                        refine pm_R_cv pm_M152 (pc_q := 44) (a := l353) (ra := [.int a4, .int a3]) (rest := []) (ls_q := [.ref l353, .int a3, .int a4, pm_no, pm_no]) rfl rfl (Or.inl rfl) pm_M153 (T.im hk355 (by decide) (by decide) eE365) rfl (G.ge hk355 (by decide)) (T.al hk355 (by decide)) rfl rfl (Nat.le_of_ble_eq_true rfl) rfl rfl ?_
                        refine cl_c153 (d := d + 1) G T hk355 B376 B382 (fun r383 X390 B384 => ?_)
                        show pm_R _ 152 44 [.ref 16, .int a2, .int a3, .int a4, .ref l353] [.int r383] _ _
                        refine pm_R_ret pm_M152 (r := some (.int r383)) rfl (pm_ret_i _) ?_
                        show pm_R _ 155 23 [.ref 16, .int a0, .int a1, .int a2, .int a3, .int a4, .ref l187, .null, pm_no, pm_no, pm_no] [.int r383] _ _
                        refine pm_R_lo pm_M155 (pc_q := 25) (ls_q := [.ref 16, .int a0, .int a1, .int a2, .int a3, .int a4, .ref l187, .null, .int r383, pm_no, pm_no]) (st_q := []) rfl rfl rfl ?_
                        refine pm_R_lo pm_M155 (pc_q := 27) rfl rfl rfl ?_
                        refine pm_R_br pm_M155 (pc_q := 30) rfl rfl ?_
                        refine pm_R_lo pm_M155 (pc_q := 32) rfl rfl rfl ?_
                        refine pm_R_br pm_M155 (pc_q := 41) rfl rfl ?_
                        refine pm_R_op pm_M155 (pc_q := 42) (st_q := [.int 0]) rfl rfl rfl ?_
                        exact pm_R_ret pm_M155 (r := some (.int 0)) rfl rfl (K 0 m h T (cl_F.refl (ck := ck) (A := [32, 38]) (n := 0) (s := 0) T.1) (rf_W.refl [] m) (sf_weak sf_k0 (by decide) (by decide)))
            · skip
              refine pm_R_op pm_M139 (pc_q := 18) (st_q := [.null]) rfl rfl rfl ?_
              refine pm_R_br pm_M139 (pc_q := 30) rfl rfl ?_
              refine pm_R_ret pm_M139 (r := some (.null)) rfl rfl ?_
              show pm_R _ 152 5 [.ref 16, .int a2, .int a3, .int a4, pm_no] [.null] _ _
              refine pm_R_lo pm_M152 (pc_q := 7) (ls_q := [.ref 16, .int a2, .int a3, .int a4, .null]) (st_q := []) rfl rfl rfl ?_
              refine pm_R_lo pm_M152 (pc_q := 9) rfl rfl rfl ?_
              refine pm_R_br pm_M152 (pc_q := 35) rfl rfl ?_
              refine pm_R_op pm_M152 (pc_q := 36) (st_q := [.int (-1)]) rfl rfl rfl ?_
              refine pm_R_ret pm_M152 (r := some (.int (-1))) rfl rfl ?_
              show pm_R _ 155 23 [.ref 16, .int a0, .int a1, .int a2, .int a3, .int a4, .ref l187, .null, pm_no, pm_no, pm_no] [.int (-1)] _ _
              refine pm_R_lo pm_M155 (pc_q := 25) (ls_q := [.ref 16, .int a0, .int a1, .int a2, .int a3, .int a4, .ref l187, .null, .int (-1), pm_no, pm_no]) (st_q := []) rfl rfl rfl ?_
              refine pm_R_lo pm_M155 (pc_q := 27) rfl rfl rfl ?_
              refine pm_R_br pm_M155 (pc_q := 30) rfl rfl ?_
              refine pm_R_lo pm_M155 (pc_q := 32) rfl rfl rfl ?_
              refine pm_R_br pm_M155 (pc_q := 41) rfl rfl ?_
              refine pm_R_op pm_M155 (pc_q := 42) (st_q := [.int 0]) rfl rfl rfl ?_
              exact pm_R_ret pm_M155 (r := some (.int 0)) rfl rfl (K 0 m h T (cl_F.refl (ck := ck) (A := [32, 38]) (n := 0) (s := 0) T.1) (rf_W.refl [] m) (sf_weak sf_k0 (by decide) (by decide)))
    · skip
      refine pm_R_op pm_M62 (pc_q := 18) (st_q := [.null]) rfl rfl rfl ?_
      refine pm_R_br pm_M62 (pc_q := 30) rfl rfl ?_
      refine pm_R_ret pm_M62 (r := some (.null)) rfl rfl ?_
      show pm_R _ 155 5 [.ref 16, .int a0, .int a1, .int a2, .int a3, .int a4, pm_no, pm_no, pm_no, pm_no, pm_no] [.null] _ _
      refine pm_R_lo pm_M155 (pc_q := 7) (ls_q := [.ref 16, .int a0, .int a1, .int a2, .int a3, .int a4, .null, pm_no, pm_no, pm_no, pm_no]) (st_q := []) rfl rfl rfl ?_
      refine pm_R_lo pm_M155 (pc_q := 8) rfl rfl rfl ?_
      refine pm_R_lo pm_M155 (pc_q := 9) rfl rfl rfl ?_
      refine pm_R_cv pm_M155 (pc_q := 12) (a := 16) (ra := [.int a1]) (rest := []) (ls_q := [.ref 16, .int a1]) rfl rfl (Or.inl rfl) pm_M66 T.e16 rfl (by decide) (T.lt (by decide)) rfl rfl (Nat.le_of_ble_eq_true rfl) rfl rfl ?_
      refine pm_R_lo pm_M66 (pc_q := 1) rfl rfl rfl ?_
      refine pm_R_ifc pm_M66 (t := 17) (pc_q := 4) rfl rfl rfl (fun c391 => ?_) (fun c391 => ?_)
      · have B392 : sf_B (-2147483648) (-1) a1 := sf_ltL c391 (sf_any a1) sf_k0
        refine pm_R_op pm_M66 (pc_q := 18) (st_q := [.null]) rfl rfl rfl ?_
        refine pm_R_br pm_M66 (pc_q := 30) rfl rfl ?_
        refine pm_R_ret pm_M66 (r := some (.null)) rfl rfl ?_
        show pm_R _ 155 12 [.ref 16, .int a0, .int a1, .int a2, .int a3, .int a4, .null, pm_no, pm_no, pm_no, pm_no] [.null] _ _
        refine pm_R_lo pm_M155 (pc_q := 14) (ls_q := [.ref 16, .int a0, .int a1, .int a2, .int a3, .int a4, .null, .null, pm_no, pm_no, pm_no]) (st_q := []) rfl rfl rfl ?_
        refine pm_R_lo pm_M155 (pc_q := 15) rfl rfl rfl ?_
        refine pm_R_lo pm_M155 (pc_q := 16) rfl rfl rfl ?_
        refine pm_R_lo pm_M155 (pc_q := 18) rfl rfl rfl ?_
        refine pm_R_lo pm_M155 (pc_q := 20) rfl rfl rfl ?_
        refine pm_R_cv pm_M155 (pc_q := 23) (a := 16) (ra := [.int a4, .int a3, .int a2]) (rest := []) (ls_q := [.ref 16, .int a2, .int a3, .int a4, pm_no]) rfl rfl (Or.inl rfl) pm_M152 T.e16 rfl (by decide) (T.lt (by decide)) rfl rfl (Nat.le_of_ble_eq_true rfl) rfl rfl ?_
        refine pm_R_lo pm_M152 (pc_q := 1) rfl rfl rfl ?_
        refine pm_R_lo pm_M152 (pc_q := 2) rfl rfl rfl ?_
        refine pm_R_cv pm_M152 (pc_q := 5) (a := 16) (ra := [.int a2]) (rest := []) (ls_q := [.ref 16, .int a2]) rfl rfl (Or.inl rfl) pm_M139 T.e16 rfl (by decide) (T.lt (by decide)) rfl rfl (Nat.le_of_ble_eq_true rfl) rfl rfl ?_
        refine pm_R_lo pm_M139 (pc_q := 1) rfl rfl rfl ?_
        refine pm_R_ifc pm_M139 (t := 17) (pc_q := 4) rfl rfl rfl (fun c393 => ?_) (fun c393 => ?_)
        · have B394 : sf_B (-2147483648) (-1) a2 := sf_ltL c393 (sf_any a2) sf_k0
          refine pm_R_op pm_M139 (pc_q := 18) (st_q := [.null]) rfl rfl rfl ?_
          refine pm_R_br pm_M139 (pc_q := 30) rfl rfl ?_
          refine pm_R_ret pm_M139 (r := some (.null)) rfl rfl ?_
          show pm_R _ 152 5 [.ref 16, .int a2, .int a3, .int a4, pm_no] [.null] _ _
          refine pm_R_lo pm_M152 (pc_q := 7) (ls_q := [.ref 16, .int a2, .int a3, .int a4, .null]) (st_q := []) rfl rfl rfl ?_
          refine pm_R_lo pm_M152 (pc_q := 9) rfl rfl rfl ?_
          refine pm_R_br pm_M152 (pc_q := 35) rfl rfl ?_
          refine pm_R_op pm_M152 (pc_q := 36) (st_q := [.int (-1)]) rfl rfl rfl ?_
          refine pm_R_ret pm_M152 (r := some (.int (-1))) rfl rfl ?_
          show pm_R _ 155 23 [.ref 16, .int a0, .int a1, .int a2, .int a3, .int a4, .null, .null, pm_no, pm_no, pm_no] [.int (-1)] _ _
          refine pm_R_lo pm_M155 (pc_q := 25) (ls_q := [.ref 16, .int a0, .int a1, .int a2, .int a3, .int a4, .null, .null, .int (-1), pm_no, pm_no]) (st_q := []) rfl rfl rfl ?_
          refine pm_R_lo pm_M155 (pc_q := 27) rfl rfl rfl ?_
          refine pm_R_br pm_M155 (pc_q := 41) rfl rfl ?_
          refine pm_R_op pm_M155 (pc_q := 42) (st_q := [.int 0]) rfl rfl rfl ?_
          exact pm_R_ret pm_M155 (r := some (.int 0)) rfl rfl (K 0 m h T (cl_F.refl (ck := ck) (A := [32, 38]) (n := 0) (s := 0) T.1) (rf_W.refl [] m) (sf_weak sf_k0 (by decide) (by decide)))
        · have B395 : sf_B 0 2147483647 a2 := sf_leR (Int32.not_lt.mp c393) sf_k0 (sf_any a2)
          refine pm_R_lo pm_M139 (pc_q := 5) rfl rfl rfl ?_
          refine pm_R_lo pm_M139 (pc_q := 6) rfl rfl rfl ?_
          refine pm_R_get pm_M139 (pc_q := 9) (v := .ref 17) rfl rfl T.e16 (by decide) (T.lt (by decide)) rfl rfl ?_
          refine pm_R_get pm_M139 (pc_q := 12) (v := .ref 23) rfl rfl T.e17 (by decide) (T.lt (by decide)) rfl rfl ?_
          refine pm_R_op pm_M139 (pc_q := 13) (st_q := [.int 2, .ref 23, .int a2]) rfl rfl rfl ?_
          obtain ⟨z396, ez397⟩ : ∃ y, f178 (Int32.toNatClampNeg 2) = y := ⟨_, rfl⟩
          have B398 : sf_B 0 2 z396 := ez397 ▸ (b180 2)
          refine pm_R_iald pm_M139 (pc_q := 14) (v := z396) rfl e179 (T.lt (by decide)) rfl ez397 rfl ?_
          refine pm_R_icmp pm_M139 (t := 21) (pc_q := 17) rfl rfl rfl (fun c399 => ?_) (fun c399 => ?_)
          · have B400 : sf_B 0 1 a2 := sf_ltL c399 B395 B398
            have B401 : sf_B 1 2 z396 := sf_ltR c399 B395 B398
            refine pm_R_lo pm_M139 (pc_q := 22) rfl rfl rfl ?_
            refine pm_R_get pm_M139 (pc_q := 25) (v := .ref 17) rfl rfl T.e16 (by decide) (T.lt (by decide)) rfl rfl ?_
            refine pm_R_get pm_M139 (pc_q := 28) (v := .ref 21) rfl rfl T.e17 (by decide) (T.lt (by decide)) rfl rfl ?_
            refine pm_R_lo pm_M139 (pc_q := 29) rfl rfl rfl ?_
            obtain ⟨f402, e403, b404⟩ := T.C 21 (by decide) (by decide)
            obtain ⟨l405, hx406⟩ := cl_there2 T e179 e403 ez397 c399 B400 (by decide)
            have hk407 := b404 _ _ hx406
            refine pm_R_aald pm_M139 (pc_q := 30) (v := .ref l405) rfl e403 (by decide) (by decide) (by decide) (T.lt (by decide)) (sf_in B400 (by decide) (by decide)) (by rw [hx406]; rfl) rfl ?_
            refine pm_R_ret pm_M139 (r := some (.ref l405)) rfl rfl ?_
            show pm_R _ 152 5 [.ref 16, .int a2, .int a3, .int a4, pm_no] [.ref l405] _ _
            refine pm_R_lo pm_M152 (pc_q := 7) (ls_q := [.ref 16, .int a2, .int a3, .int a4, .ref l405]) (st_q := []) rfl rfl rfl ?_
            refine pm_R_lo pm_M152 (pc_q := 9) rfl rfl rfl ?_
            refine pm_R_br pm_M152 (pc_q := 12) rfl rfl ?_
            refine pm_R_lo pm_M152 (pc_q := 13) rfl rfl rfl ?_
            refine pm_R_lo pm_M152 (pc_q := 14) rfl rfl rfl ?_
            refine pm_R_icmp pm_M152 (t := 35) (pc_q := 17) rfl rfl rfl (fun c408 => ?_) (fun c408 => ?_)
            · refine pm_R_op pm_M152 (pc_q := 36) (st_q := [.int (-1)]) rfl rfl rfl ?_
              refine pm_R_ret pm_M152 (r := some (.int (-1))) rfl rfl ?_
              show pm_R _ 155 23 [.ref 16, .int a0, .int a1, .int a2, .int a3, .int a4, .null, .null, pm_no, pm_no, pm_no] [.int (-1)] _ _
              refine pm_R_lo pm_M155 (pc_q := 25) (ls_q := [.ref 16, .int a0, .int a1, .int a2, .int a3, .int a4, .null, .null, .int (-1), pm_no, pm_no]) (st_q := []) rfl rfl rfl ?_
              refine pm_R_lo pm_M155 (pc_q := 27) rfl rfl rfl ?_
              refine pm_R_br pm_M155 (pc_q := 41) rfl rfl ?_
              refine pm_R_op pm_M155 (pc_q := 42) (st_q := [.int 0]) rfl rfl rfl ?_
              exact pm_R_ret pm_M155 (r := some (.int 0)) rfl rfl (K 0 m h T (cl_F.refl (ck := ck) (A := [32, 38]) (n := 0) (s := 0) T.1) (rf_W.refl [] m) (sf_weak sf_k0 (by decide) (by decide)))
            · skip
              refine pm_R_lo pm_M152 (pc_q := 19) rfl rfl rfl ?_
              refine pm_R_lo pm_M152 (pc_q := 20) rfl rfl rfl ?_
              obtain ⟨s409, n410, fd411, fg412, fs413, h414, h415, h416, eE417, eE418, eE419, eE420, b421⟩ := (G.2.2.2.1 l405 hk407).2.2.2
              have kq422 := G.2.2.2.1 l405 hk407
              refine pm_R_cv pm_M152 (pc_q := 23) (a := l405) (ra := [.int a3]) (rest := []) (ls_q := [.ref l405, .int a3]) rfl rfl (Or.inl rfl) pm_M143 (T.im hk407 (by decide) (by decide) eE417) rfl (G.ge hk407 (by decide)) (T.al hk407 (by decide)) rfl rfl (Nat.le_of_ble_eq_true rfl) rfl rfl ?_
              refine pm_R_lo pm_M143 (pc_q := 1) rfl rfl rfl ?_
              refine pm_R_ifc pm_M143 (t := 16) (pc_q := 4) rfl rfl rfl (fun c423 => ?_) (fun c423 => ?_)
              · have B424 : sf_B (-2147483648) (-1) a3 := sf_ltL c423 (sf_any a3) sf_k0
                refine pm_R_op pm_M143 (pc_q := 17) (st_q := [.int 0]) rfl rfl rfl ?_
                refine pm_R_ret pm_M143 (r := some (.int 0)) rfl rfl ?_
                show pm_R _ 152 23 [.ref 16, .int a2, .int a3, .int a4, .ref l405] [.int 0] _ _
                refine pm_R_br pm_M152 (pc_q := 35) (st_q := []) rfl rfl ?_
                refine pm_R_op pm_M152 (pc_q := 36) (st_q := [.int (-1)]) rfl rfl rfl ?_
                refine pm_R_ret pm_M152 (r := some (.int (-1))) rfl rfl ?_
                show pm_R _ 155 23 [.ref 16, .int a0, .int a1, .int a2, .int a3, .int a4, .null, .null, pm_no, pm_no, pm_no] [.int (-1)] _ _
                refine pm_R_lo pm_M155 (pc_q := 25) (ls_q := [.ref 16, .int a0, .int a1, .int a2, .int a3, .int a4, .null, .null, .int (-1), pm_no, pm_no]) (st_q := []) rfl rfl rfl ?_
                refine pm_R_lo pm_M155 (pc_q := 27) rfl rfl rfl ?_
                refine pm_R_br pm_M155 (pc_q := 41) rfl rfl ?_
                refine pm_R_op pm_M155 (pc_q := 42) (st_q := [.int 0]) rfl rfl rfl ?_
                exact pm_R_ret pm_M155 (r := some (.int 0)) rfl rfl (K 0 m h T (cl_F.refl (ck := ck) (A := [32, 38]) (n := 0) (s := 0) T.1) (rf_W.refl [] m) (sf_weak sf_k0 (by decide) (by decide)))
              · have B425 : sf_B 0 2147483647 a3 := sf_leR (Int32.not_lt.mp c423) sf_k0 (sf_any a3)
                refine pm_R_lo pm_M143 (pc_q := 5) rfl rfl rfl ?_
                refine pm_R_lo pm_M143 (pc_q := 6) rfl rfl rfl ?_
                refine pm_R_get pm_M143 (pc_q := 9) (v := .int (Int32.ofNat s409)) rfl rfl (T.im hk407 (by decide) (by decide) eE417) (G.ge hk407 (by decide)) (T.al hk407 (by decide)) rfl rfl ?_
                refine pm_R_icmp pm_M143 (t := 16) (pc_q := 12) rfl rfl rfl (fun c426 => ?_) (fun c426 => ?_)
                · have B427 : sf_B 1 2147483647 a3 := sf_leR c426 (sf_ofB1 h415 h414 (by decide)) B425
                  refine pm_R_op pm_M143 (pc_q := 17) (st_q := [.int 0]) rfl rfl rfl ?_
                  refine pm_R_ret pm_M143 (r := some (.int 0)) rfl rfl ?_
                  show pm_R _ 152 23 [.ref 16, .int a2, .int a3, .int a4, .ref l405] [.int 0] _ _
                  refine pm_R_br pm_M152 (pc_q := 35) (st_q := []) rfl rfl ?_
                  refine pm_R_op pm_M152 (pc_q := 36) (st_q := [.int (-1)]) rfl rfl rfl ?_
                  refine pm_R_ret pm_M152 (r := some (.int (-1))) rfl rfl ?_
                  show pm_R _ 155 23 [.ref 16, .int a0, .int a1, .int a2, .int a3, .int a4, .null, .null, pm_no, pm_no, pm_no] [.int (-1)] _ _
                  refine pm_R_lo pm_M155 (pc_q := 25) (ls_q := [.ref 16, .int a0, .int a1, .int a2, .int a3, .int a4, .null, .null, .int (-1), pm_no, pm_no]) (st_q := []) rfl rfl rfl ?_
                  refine pm_R_lo pm_M155 (pc_q := 27) rfl rfl rfl ?_
                  refine pm_R_br pm_M155 (pc_q := 41) rfl rfl ?_
                  refine pm_R_op pm_M155 (pc_q := 42) (st_q := [.int 0]) rfl rfl rfl ?_
                  exact pm_R_ret pm_M155 (r := some (.int 0)) rfl rfl (K 0 m h T (cl_F.refl (ck := ck) (A := [32, 38]) (n := 0) (s := 0) T.1) (rf_W.refl [] m) (sf_weak sf_k0 (by decide) (by decide)))
                · have B428 : sf_B 0 5 a3 := sf_ltL (Int32.not_le.mp c426) B425 (sf_ofB1 h415 h414 (by decide))
                  refine pm_R_op pm_M143 (pc_q := 13) (st_q := [.int 1]) rfl rfl rfl ?_
                  refine pm_R_br pm_M143 (pc_q := 17) rfl rfl ?_
                  refine pm_R_ret pm_M143 (r := some (.int 1)) rfl rfl ?_
                  show pm_R _ 152 23 [.ref 16, .int a2, .int a3, .int a4, .ref l405] [.int 1] _ _
                  refine pm_R_br pm_M152 (pc_q := 26) (st_q := []) rfl rfl ?_
                  refine pm_R_lo pm_M152 (pc_q := 28) rfl rfl rfl ?_
                  refine pm_R_lo pm_M152 (pc_q := 29) rfl rfl rfl ?_
                  refine pm_R_cv pm_M152 (pc_q := 32) (a := l405) (ra := [.int a4]) (rest := []) (ls_q := [.ref l405, .int a4]) rfl rfl (Or.inl rfl) pm_M143 (T.im hk407 (by decide) (by decide) eE417) rfl (G.ge hk407 (by decide)) (T.al hk407 (by decide)) rfl rfl (Nat.le_of_ble_eq_true rfl) rfl rfl ?_
                  refine pm_R_lo pm_M143 (pc_q := 1) rfl rfl rfl ?_
                  refine pm_R_ifc pm_M143 (t := 16) (pc_q := 4) rfl rfl rfl (fun c429 => ?_) (fun c429 => ?_)
                  · have B430 : sf_B (-2147483648) (-1) a4 := sf_ltL c429 (sf_any a4) sf_k0
                    refine pm_R_op pm_M143 (pc_q := 17) (st_q := [.int 0]) rfl rfl rfl ?_
                    refine pm_R_ret pm_M143 (r := some (.int 0)) rfl rfl ?_
                    show pm_R _ 152 32 [.ref 16, .int a2, .int a3, .int a4, .ref l405] [.int 0] _ _
                    refine pm_R_br pm_M152 (pc_q := 35) (st_q := []) rfl rfl ?_
                    refine pm_R_op pm_M152 (pc_q := 36) (st_q := [.int (-1)]) rfl rfl rfl ?_
                    refine pm_R_ret pm_M152 (r := some (.int (-1))) rfl rfl ?_
                    show pm_R _ 155 23 [.ref 16, .int a0, .int a1, .int a2, .int a3, .int a4, .null, .null, pm_no, pm_no, pm_no] [.int (-1)] _ _
                    refine pm_R_lo pm_M155 (pc_q := 25) (ls_q := [.ref 16, .int a0, .int a1, .int a2, .int a3, .int a4, .null, .null, .int (-1), pm_no, pm_no]) (st_q := []) rfl rfl rfl ?_
                    refine pm_R_lo pm_M155 (pc_q := 27) rfl rfl rfl ?_
                    refine pm_R_br pm_M155 (pc_q := 41) rfl rfl ?_
                    refine pm_R_op pm_M155 (pc_q := 42) (st_q := [.int 0]) rfl rfl rfl ?_
                    exact pm_R_ret pm_M155 (r := some (.int 0)) rfl rfl (K 0 m h T (cl_F.refl (ck := ck) (A := [32, 38]) (n := 0) (s := 0) T.1) (rf_W.refl [] m) (sf_weak sf_k0 (by decide) (by decide)))
                  · have B431 : sf_B 0 2147483647 a4 := sf_leR (Int32.not_lt.mp c429) sf_k0 (sf_any a4)
                    refine pm_R_lo pm_M143 (pc_q := 5) rfl rfl rfl ?_
                    refine pm_R_lo pm_M143 (pc_q := 6) rfl rfl rfl ?_
                    refine pm_R_get pm_M143 (pc_q := 9) (v := .int (Int32.ofNat s409)) rfl rfl (T.im hk407 (by decide) (by decide) eE417) (G.ge hk407 (by decide)) (T.al hk407 (by decide)) rfl rfl ?_
                    refine pm_R_icmp pm_M143 (t := 16) (pc_q := 12) rfl rfl rfl (fun c432 => ?_) (fun c432 => ?_)
                    · have B433 : sf_B 1 2147483647 a4 := sf_leR c432 (sf_ofB1 h415 h414 (by decide)) B431
                      refine pm_R_op pm_M143 (pc_q := 17) (st_q := [.int 0]) rfl rfl rfl ?_
                      refine pm_R_ret pm_M143 (r := some (.int 0)) rfl rfl ?_
                      show pm_R _ 152 32 [.ref 16, .int a2, .int a3, .int a4, .ref l405] [.int 0] _ _
                      refine pm_R_br pm_M152 (pc_q := 35) (st_q := []) rfl rfl ?_
                      refine pm_R_op pm_M152 (pc_q := 36) (st_q := [.int (-1)]) rfl rfl rfl ?_
                      refine pm_R_ret pm_M152 (r := some (.int (-1))) rfl rfl ?_
                      show pm_R _ 155 23 [.ref 16, .int a0, .int a1, .int a2, .int a3, .int a4, .null, .null, pm_no, pm_no, pm_no] [.int (-1)] _ _
                      refine pm_R_lo pm_M155 (pc_q := 25) (ls_q := [.ref 16, .int a0, .int a1, .int a2, .int a3, .int a4, .null, .null, .int (-1), pm_no, pm_no]) (st_q := []) rfl rfl rfl ?_
                      refine pm_R_lo pm_M155 (pc_q := 27) rfl rfl rfl ?_
                      refine pm_R_br pm_M155 (pc_q := 41) rfl rfl ?_
                      refine pm_R_op pm_M155 (pc_q := 42) (st_q := [.int 0]) rfl rfl rfl ?_
                      exact pm_R_ret pm_M155 (r := some (.int 0)) rfl rfl (K 0 m h T (cl_F.refl (ck := ck) (A := [32, 38]) (n := 0) (s := 0) T.1) (rf_W.refl [] m) (sf_weak sf_k0 (by decide) (by decide)))
                    · have B434 : sf_B 0 5 a4 := sf_ltL (Int32.not_le.mp c432) B431 (sf_ofB1 h415 h414 (by decide))
                      refine pm_R_op pm_M143 (pc_q := 13) (st_q := [.int 1]) rfl rfl rfl ?_
                      refine pm_R_br pm_M143 (pc_q := 17) rfl rfl ?_
                      refine pm_R_ret pm_M143 (r := some (.int 1)) rfl rfl ?_
                      show pm_R _ 152 32 [.ref 16, .int a2, .int a3, .int a4, .ref l405] [.int 1] _ _
                      refine pm_R_br pm_M152 (pc_q := 37) (st_q := []) rfl rfl ?_
                      refine pm_R_lo pm_M152 (pc_q := 39) rfl rfl rfl ?_
                      refine pm_R_lo pm_M152 (pc_q := 40) rfl rfl rfl ?_
                      refine pm_R_lo pm_M152 (pc_q := 41) rfl rfl rfl ?_
                      refine pm_R_cv pm_M152 (pc_q := 44) (a := l405) (ra := [.int a4, .int a3]) (rest := []) (ls_q := [.ref l405, .int a3, .int a4, pm_no, pm_no]) rfl rfl (Or.inl rfl) pm_M153 (T.im hk407 (by decide) (by decide) eE417) rfl (G.ge hk407 (by decide)) (T.al hk407 (by decide)) rfl rfl (Nat.le_of_ble_eq_true rfl) rfl rfl ?_
                      refine cl_c153 (d := d + 1) G T hk407 B428 B434 (fun r435 X442 B436 => ?_)
                      show pm_R _ 152 44 [.ref 16, .int a2, .int a3, .int a4, .ref l405] [.int r435] _ _
                      refine pm_R_ret pm_M152 (r := some (.int r435)) rfl (pm_ret_i _) ?_
                      show pm_R _ 155 23 [.ref 16, .int a0, .int a1, .int a2, .int a3, .int a4, .null, .null, pm_no, pm_no, pm_no] [.int r435] _ _
                      refine pm_R_lo pm_M155 (pc_q := 25) (ls_q := [.ref 16, .int a0, .int a1, .int a2, .int a3, .int a4, .null, .null, .int r435, pm_no, pm_no]) (st_q := []) rfl rfl rfl ?_
                      refine pm_R_lo pm_M155 (pc_q := 27) rfl rfl rfl ?_
                      refine pm_R_br pm_M155 (pc_q := 41) rfl rfl ?_
                      refine pm_R_op pm_M155 (pc_q := 42) (st_q := [.int 0]) rfl rfl rfl ?_
                      exact pm_R_ret pm_M155 (r := some (.int 0)) rfl rfl (K 0 m h T (cl_F.refl (ck := ck) (A := [32, 38]) (n := 0) (s := 0) T.1) (rf_W.refl [] m) (sf_weak sf_k0 (by decide) (by decide)))
          · skip
            refine pm_R_op pm_M139 (pc_q := 18) (st_q := [.null]) rfl rfl rfl ?_
            refine pm_R_br pm_M139 (pc_q := 30) rfl rfl ?_
            refine pm_R_ret pm_M139 (r := some (.null)) rfl rfl ?_
            show pm_R _ 152 5 [.ref 16, .int a2, .int a3, .int a4, pm_no] [.null] _ _
            refine pm_R_lo pm_M152 (pc_q := 7) (ls_q := [.ref 16, .int a2, .int a3, .int a4, .null]) (st_q := []) rfl rfl rfl ?_
            refine pm_R_lo pm_M152 (pc_q := 9) rfl rfl rfl ?_
            refine pm_R_br pm_M152 (pc_q := 35) rfl rfl ?_
            refine pm_R_op pm_M152 (pc_q := 36) (st_q := [.int (-1)]) rfl rfl rfl ?_
            refine pm_R_ret pm_M152 (r := some (.int (-1))) rfl rfl ?_
            show pm_R _ 155 23 [.ref 16, .int a0, .int a1, .int a2, .int a3, .int a4, .null, .null, pm_no, pm_no, pm_no] [.int (-1)] _ _
            refine pm_R_lo pm_M155 (pc_q := 25) (ls_q := [.ref 16, .int a0, .int a1, .int a2, .int a3, .int a4, .null, .null, .int (-1), pm_no, pm_no]) (st_q := []) rfl rfl rfl ?_
            refine pm_R_lo pm_M155 (pc_q := 27) rfl rfl rfl ?_
            refine pm_R_br pm_M155 (pc_q := 41) rfl rfl ?_
            refine pm_R_op pm_M155 (pc_q := 42) (st_q := [.int 0]) rfl rfl rfl ?_
            exact pm_R_ret pm_M155 (r := some (.int 0)) rfl rfl (K 0 m h T (cl_F.refl (ck := ck) (A := [32, 38]) (n := 0) (s := 0) T.1) (rf_W.refl [] m) (sf_weak sf_k0 (by decide) (by decide)))
      · have B443 : sf_B 0 2147483647 a1 := sf_leR (Int32.not_lt.mp c391) sf_k0 (sf_any a1)
        refine pm_R_lo pm_M66 (pc_q := 5) rfl rfl rfl ?_
        refine pm_R_lo pm_M66 (pc_q := 6) rfl rfl rfl ?_
        refine pm_R_get pm_M66 (pc_q := 9) (v := .ref 17) rfl rfl T.e16 (by decide) (T.lt (by decide)) rfl rfl ?_
        refine pm_R_get pm_M66 (pc_q := 12) (v := .ref 23) rfl rfl T.e17 (by decide) (T.lt (by decide)) rfl rfl ?_
        refine pm_R_op pm_M66 (pc_q := 13) (st_q := [.int 1, .ref 23, .int a1]) rfl rfl rfl ?_
        obtain ⟨z444, ez445⟩ : ∃ y, f178 (Int32.toNatClampNeg 1) = y := ⟨_, rfl⟩
        have B446 : sf_B 0 3 z444 := ez445 ▸ (b180 1)
        refine pm_R_iald pm_M66 (pc_q := 14) (v := z444) rfl e179 (T.lt (by decide)) rfl ez445 rfl ?_
        refine pm_R_icmp pm_M66 (t := 21) (pc_q := 17) rfl rfl rfl (fun c447 => ?_) (fun c447 => ?_)
        · have B448 : sf_B 0 2 a1 := sf_ltL c447 B443 B446
          have B449 : sf_B 1 3 z444 := sf_ltR c447 B443 B446
          refine pm_R_lo pm_M66 (pc_q := 22) rfl rfl rfl ?_
          refine pm_R_get pm_M66 (pc_q := 25) (v := .ref 17) rfl rfl T.e16 (by decide) (T.lt (by decide)) rfl rfl ?_
          refine pm_R_get pm_M66 (pc_q := 28) (v := .ref 20) rfl rfl T.e17 (by decide) (T.lt (by decide)) rfl rfl ?_
          refine pm_R_lo pm_M66 (pc_q := 29) rfl rfl rfl ?_
          obtain ⟨f450, e451, b452⟩ := T.C 20 (by decide) (by decide)
          obtain ⟨l453, hx454⟩ := cl_there1 T e179 e451 ez445 c447 B448 (by decide)
          have hk455 := b452 _ _ hx454
          refine pm_R_aald pm_M66 (pc_q := 30) (v := .ref l453) rfl e451 (by decide) (by decide) (by decide) (T.lt (by decide)) (sf_in B448 (by decide) (by decide)) (by rw [hx454]; rfl) rfl ?_
          refine pm_R_ret pm_M66 (r := some (.ref l453)) rfl rfl ?_
          show pm_R _ 155 12 [.ref 16, .int a0, .int a1, .int a2, .int a3, .int a4, .null, pm_no, pm_no, pm_no, pm_no] [.ref l453] _ _
          refine pm_R_lo pm_M155 (pc_q := 14) (ls_q := [.ref 16, .int a0, .int a1, .int a2, .int a3, .int a4, .null, .ref l453, pm_no, pm_no, pm_no]) (st_q := []) rfl rfl rfl ?_
          refine pm_R_lo pm_M155 (pc_q := 15) rfl rfl rfl ?_
          refine pm_R_lo pm_M155 (pc_q := 16) rfl rfl rfl ?_
          refine pm_R_lo pm_M155 (pc_q := 18) rfl rfl rfl ?_
          refine pm_R_lo pm_M155 (pc_q := 20) rfl rfl rfl ?_
          refine pm_R_cv pm_M155 (pc_q := 23) (a := 16) (ra := [.int a4, .int a3, .int a2]) (rest := []) (ls_q := [.ref 16, .int a2, .int a3, .int a4, pm_no]) rfl rfl (Or.inl rfl) pm_M152 T.e16 rfl (by decide) (T.lt (by decide)) rfl rfl (Nat.le_of_ble_eq_true rfl) rfl rfl ?_
          refine pm_R_lo pm_M152 (pc_q := 1) rfl rfl rfl ?_
          refine pm_R_lo pm_M152 (pc_q := 2) rfl rfl rfl ?_
          refine pm_R_cv pm_M152 (pc_q := 5) (a := 16) (ra := [.int a2]) (rest := []) (ls_q := [.ref 16, .int a2]) rfl rfl (Or.inl rfl) pm_M139 T.e16 rfl (by decide) (T.lt (by decide)) rfl rfl (Nat.le_of_ble_eq_true rfl) rfl rfl ?_
          refine pm_R_lo pm_M139 (pc_q := 1) rfl rfl rfl ?_
          refine pm_R_ifc pm_M139 (t := 17) (pc_q := 4) rfl rfl rfl (fun c456 => ?_) (fun c456 => ?_)
          · have B457 : sf_B (-2147483648) (-1) a2 := sf_ltL c456 (sf_any a2) sf_k0
            refine pm_R_op pm_M139 (pc_q := 18) (st_q := [.null]) rfl rfl rfl ?_
            refine pm_R_br pm_M139 (pc_q := 30) rfl rfl ?_
            refine pm_R_ret pm_M139 (r := some (.null)) rfl rfl ?_
            show pm_R _ 152 5 [.ref 16, .int a2, .int a3, .int a4, pm_no] [.null] _ _
            refine pm_R_lo pm_M152 (pc_q := 7) (ls_q := [.ref 16, .int a2, .int a3, .int a4, .null]) (st_q := []) rfl rfl rfl ?_
            refine pm_R_lo pm_M152 (pc_q := 9) rfl rfl rfl ?_
            refine pm_R_br pm_M152 (pc_q := 35) rfl rfl ?_
            refine pm_R_op pm_M152 (pc_q := 36) (st_q := [.int (-1)]) rfl rfl rfl ?_
            refine pm_R_ret pm_M152 (r := some (.int (-1))) rfl rfl ?_
            show pm_R _ 155 23 [.ref 16, .int a0, .int a1, .int a2, .int a3, .int a4, .null, .ref l453, pm_no, pm_no, pm_no] [.int (-1)] _ _
            refine pm_R_lo pm_M155 (pc_q := 25) (ls_q := [.ref 16, .int a0, .int a1, .int a2, .int a3, .int a4, .null, .ref l453, .int (-1), pm_no, pm_no]) (st_q := []) rfl rfl rfl ?_
            refine pm_R_lo pm_M155 (pc_q := 27) rfl rfl rfl ?_
            refine pm_R_br pm_M155 (pc_q := 41) rfl rfl ?_
            refine pm_R_op pm_M155 (pc_q := 42) (st_q := [.int 0]) rfl rfl rfl ?_
            exact pm_R_ret pm_M155 (r := some (.int 0)) rfl rfl (K 0 m h T (cl_F.refl (ck := ck) (A := [32, 38]) (n := 0) (s := 0) T.1) (rf_W.refl [] m) (sf_weak sf_k0 (by decide) (by decide)))
          · have B458 : sf_B 0 2147483647 a2 := sf_leR (Int32.not_lt.mp c456) sf_k0 (sf_any a2)
            refine pm_R_lo pm_M139 (pc_q := 5) rfl rfl rfl ?_
            refine pm_R_lo pm_M139 (pc_q := 6) rfl rfl rfl ?_
            refine pm_R_get pm_M139 (pc_q := 9) (v := .ref 17) rfl rfl T.e16 (by decide) (T.lt (by decide)) rfl rfl ?_
            refine pm_R_get pm_M139 (pc_q := 12) (v := .ref 23) rfl rfl T.e17 (by decide) (T.lt (by decide)) rfl rfl ?_
            refine pm_R_op pm_M139 (pc_q := 13) (st_q := [.int 2, .ref 23, .int a2]) rfl rfl rfl ?_
            obtain ⟨z459, ez460⟩ : ∃ y, f178 (Int32.toNatClampNeg 2) = y := ⟨_, rfl⟩
            have B461 : sf_B 0 2 z459 := ez460 ▸ (b180 2)
            refine pm_R_iald pm_M139 (pc_q := 14) (v := z459) rfl e179 (T.lt (by decide)) rfl ez460 rfl ?_
            refine pm_R_icmp pm_M139 (t := 21) (pc_q := 17) rfl rfl rfl (fun c462 => ?_) (fun c462 => ?_)
            · have B463 : sf_B 0 1 a2 := sf_ltL c462 B458 B461
              have B464 : sf_B 1 2 z459 := sf_ltR c462 B458 B461
              refine pm_R_lo pm_M139 (pc_q := 22) rfl rfl rfl ?_
              refine pm_R_get pm_M139 (pc_q := 25) (v := .ref 17) rfl rfl T.e16 (by decide) (T.lt (by decide)) rfl rfl ?_
              refine pm_R_get pm_M139 (pc_q := 28) (v := .ref 21) rfl rfl T.e17 (by decide) (T.lt (by decide)) rfl rfl ?_
              refine pm_R_lo pm_M139 (pc_q := 29) rfl rfl rfl ?_
              obtain ⟨f465, e466, b467⟩ := T.C 21 (by decide) (by decide)
              obtain ⟨l468, hx469⟩ := cl_there2 T e179 e466 ez460 c462 B463 (by decide)
              have hk470 := b467 _ _ hx469
              refine pm_R_aald pm_M139 (pc_q := 30) (v := .ref l468) rfl e466 (by decide) (by decide) (by decide) (T.lt (by decide)) (sf_in B463 (by decide) (by decide)) (by rw [hx469]; rfl) rfl ?_
              refine pm_R_ret pm_M139 (r := some (.ref l468)) rfl rfl ?_
              show pm_R _ 152 5 [.ref 16, .int a2, .int a3, .int a4, pm_no] [.ref l468] _ _
              refine pm_R_lo pm_M152 (pc_q := 7) (ls_q := [.ref 16, .int a2, .int a3, .int a4, .ref l468]) (st_q := []) rfl rfl rfl ?_
              refine pm_R_lo pm_M152 (pc_q := 9) rfl rfl rfl ?_
              refine pm_R_br pm_M152 (pc_q := 12) rfl rfl ?_
              refine pm_R_lo pm_M152 (pc_q := 13) rfl rfl rfl ?_
              refine pm_R_lo pm_M152 (pc_q := 14) rfl rfl rfl ?_
              refine pm_R_icmp pm_M152 (t := 35) (pc_q := 17) rfl rfl rfl (fun c471 => ?_) (fun c471 => ?_)
              · refine pm_R_op pm_M152 (pc_q := 36) (st_q := [.int (-1)]) rfl rfl rfl ?_
                refine pm_R_ret pm_M152 (r := some (.int (-1))) rfl rfl ?_
                show pm_R _ 155 23 [.ref 16, .int a0, .int a1, .int a2, .int a3, .int a4, .null, .ref l453, pm_no, pm_no, pm_no] [.int (-1)] _ _
                refine pm_R_lo pm_M155 (pc_q := 25) (ls_q := [.ref 16, .int a0, .int a1, .int a2, .int a3, .int a4, .null, .ref l453, .int (-1), pm_no, pm_no]) (st_q := []) rfl rfl rfl ?_
                refine pm_R_lo pm_M155 (pc_q := 27) rfl rfl rfl ?_
                refine pm_R_br pm_M155 (pc_q := 41) rfl rfl ?_
                refine pm_R_op pm_M155 (pc_q := 42) (st_q := [.int 0]) rfl rfl rfl ?_
                exact pm_R_ret pm_M155 (r := some (.int 0)) rfl rfl (K 0 m h T (cl_F.refl (ck := ck) (A := [32, 38]) (n := 0) (s := 0) T.1) (rf_W.refl [] m) (sf_weak sf_k0 (by decide) (by decide)))
              · skip
                refine pm_R_lo pm_M152 (pc_q := 19) rfl rfl rfl ?_
                refine pm_R_lo pm_M152 (pc_q := 20) rfl rfl rfl ?_
                obtain ⟨s472, n473, fd474, fg475, fs476, h477, h478, h479, eE480, eE481, eE482, eE483, b484⟩ := (G.2.2.2.1 l468 hk470).2.2.2
                have kq485 := G.2.2.2.1 l468 hk470
                refine pm_R_cv pm_M152 (pc_q := 23) (a := l468) (ra := [.int a3]) (rest := []) (ls_q := [.ref l468, .int a3]) rfl rfl (Or.inl rfl) pm_M143 (T.im hk470 (by decide) (by decide) eE480) rfl (G.ge hk470 (by decide)) (T.al hk470 (by decide)) rfl rfl (Nat.le_of_ble_eq_true rfl) rfl rfl ?_
                refine pm_R_lo pm_M143 (pc_q := 1) rfl rfl rfl ?_
                refine pm_R_ifc pm_M143 (t := 16) (pc_q := 4) rfl rfl rfl (fun c486 => ?_) (fun c486 => ?_)
                · have B487 : sf_B (-2147483648) (-1) a3 := sf_ltL c486 (sf_any a3) sf_k0
                  refine pm_R_op pm_M143 (pc_q := 17) (st_q := [.int 0]) rfl rfl rfl ?_
                  refine pm_R_ret pm_M143 (r := some (.int 0)) rfl rfl ?_
                  show pm_R _ 152 23 [.ref 16, .int a2, .int a3, .int a4, .ref l468] [.int 0] _ _
                  refine pm_R_br pm_M152 (pc_q := 35) (st_q := []) rfl rfl ?_
                  refine pm_R_op pm_M152 (pc_q := 36) (st_q := [.int (-1)]) rfl rfl rfl ?_
                  refine pm_R_ret pm_M152 (r := some (.int (-1))) rfl rfl ?_
                  show pm_R _ 155 23 [.ref 16, .int a0, .int a1, .int a2, .int a3, .int a4, .null, .ref l453, pm_no, pm_no, pm_no] [.int (-1)] _ _
                  refine pm_R_lo pm_M155 (pc_q := 25) (ls_q := [.ref 16, .int a0, .int a1, .int a2, .int a3, .int a4, .null, .ref l453, .int (-1), pm_no, pm_no]) (st_q := []) rfl rfl rfl ?_
                  refine pm_R_lo pm_M155 (pc_q := 27) rfl rfl rfl ?_
                  refine pm_R_br pm_M155 (pc_q := 41) rfl rfl ?_
                  refine pm_R_op pm_M155 (pc_q := 42) (st_q := [.int 0]) rfl rfl rfl ?_
                  exact pm_R_ret pm_M155 (r := some (.int 0)) rfl rfl (K 0 m h T (cl_F.refl (ck := ck) (A := [32, 38]) (n := 0) (s := 0) T.1) (rf_W.refl [] m) (sf_weak sf_k0 (by decide) (by decide)))
                · have B488 : sf_B 0 2147483647 a3 := sf_leR (Int32.not_lt.mp c486) sf_k0 (sf_any a3)
                  refine pm_R_lo pm_M143 (pc_q := 5) rfl rfl rfl ?_
                  refine pm_R_lo pm_M143 (pc_q := 6) rfl rfl rfl ?_
                  refine pm_R_get pm_M143 (pc_q := 9) (v := .int (Int32.ofNat s472)) rfl rfl (T.im hk470 (by decide) (by decide) eE480) (G.ge hk470 (by decide)) (T.al hk470 (by decide)) rfl rfl ?_
                  refine pm_R_icmp pm_M143 (t := 16) (pc_q := 12) rfl rfl rfl (fun c489 => ?_) (fun c489 => ?_)
                  · have B490 : sf_B 1 2147483647 a3 := sf_leR c489 (sf_ofB1 h478 h477 (by decide)) B488
                    refine pm_R_op pm_M143 (pc_q := 17) (st_q := [.int 0]) rfl rfl rfl ?_
                    refine pm_R_ret pm_M143 (r := some (.int 0)) rfl rfl ?_
                    show pm_R _ 152 23 [.ref 16, .int a2, .int a3, .int a4, .ref l468] [.int 0] _ _
                    refine pm_R_br pm_M152 (pc_q := 35) (st_q := []) rfl rfl ?_
                    refine pm_R_op pm_M152 (pc_q := 36) (st_q := [.int (-1)]) rfl rfl rfl ?_
                    refine pm_R_ret pm_M152 (r := some (.int (-1))) rfl rfl ?_
                    show pm_R _ 155 23 [.ref 16, .int a0, .int a1, .int a2, .int a3, .int a4, .null, .ref l453, pm_no, pm_no, pm_no] [.int (-1)] _ _
                    refine pm_R_lo pm_M155 (pc_q := 25) (ls_q := [.ref 16, .int a0, .int a1, .int a2, .int a3, .int a4, .null, .ref l453, .int (-1), pm_no, pm_no]) (st_q := []) rfl rfl rfl ?_
                    refine pm_R_lo pm_M155 (pc_q := 27) rfl rfl rfl ?_
                    refine pm_R_br pm_M155 (pc_q := 41) rfl rfl ?_
                    refine pm_R_op pm_M155 (pc_q := 42) (st_q := [.int 0]) rfl rfl rfl ?_
                    exact pm_R_ret pm_M155 (r := some (.int 0)) rfl rfl (K 0 m h T (cl_F.refl (ck := ck) (A := [32, 38]) (n := 0) (s := 0) T.1) (rf_W.refl [] m) (sf_weak sf_k0 (by decide) (by decide)))
                  · have B491 : sf_B 0 5 a3 := sf_ltL (Int32.not_le.mp c489) B488 (sf_ofB1 h478 h477 (by decide))
                    refine pm_R_op pm_M143 (pc_q := 13) (st_q := [.int 1]) rfl rfl rfl ?_
                    refine pm_R_br pm_M143 (pc_q := 17) rfl rfl ?_
                    refine pm_R_ret pm_M143 (r := some (.int 1)) rfl rfl ?_
                    show pm_R _ 152 23 [.ref 16, .int a2, .int a3, .int a4, .ref l468] [.int 1] _ _
                    refine pm_R_br pm_M152 (pc_q := 26) (st_q := []) rfl rfl ?_
                    refine pm_R_lo pm_M152 (pc_q := 28) rfl rfl rfl ?_
                    refine pm_R_lo pm_M152 (pc_q := 29) rfl rfl rfl ?_
                    refine pm_R_cv pm_M152 (pc_q := 32) (a := l468) (ra := [.int a4]) (rest := []) (ls_q := [.ref l468, .int a4]) rfl rfl (Or.inl rfl) pm_M143 (T.im hk470 (by decide) (by decide) eE480) rfl (G.ge hk470 (by decide)) (T.al hk470 (by decide)) rfl rfl (Nat.le_of_ble_eq_true rfl) rfl rfl ?_
                    refine pm_R_lo pm_M143 (pc_q := 1) rfl rfl rfl ?_
                    refine pm_R_ifc pm_M143 (t := 16) (pc_q := 4) rfl rfl rfl (fun c492 => ?_) (fun c492 => ?_)
                    · have B493 : sf_B (-2147483648) (-1) a4 := sf_ltL c492 (sf_any a4) sf_k0
                      refine pm_R_op pm_M143 (pc_q := 17) (st_q := [.int 0]) rfl rfl rfl ?_
                      refine pm_R_ret pm_M143 (r := some (.int 0)) rfl rfl ?_
                      show pm_R _ 152 32 [.ref 16, .int a2, .int a3, .int a4, .ref l468] [.int 0] _ _
                      refine pm_R_br pm_M152 (pc_q := 35) (st_q := []) rfl rfl ?_
                      refine pm_R_op pm_M152 (pc_q := 36) (st_q := [.int (-1)]) rfl rfl rfl ?_
                      refine pm_R_ret pm_M152 (r := some (.int (-1))) rfl rfl ?_
                      show pm_R _ 155 23 [.ref 16, .int a0, .int a1, .int a2, .int a3, .int a4, .null, .ref l453, pm_no, pm_no, pm_no] [.int (-1)] _ _
                      refine pm_R_lo pm_M155 (pc_q := 25) (ls_q := [.ref 16, .int a0, .int a1, .int a2, .int a3, .int a4, .null, .ref l453, .int (-1), pm_no, pm_no]) (st_q := []) rfl rfl rfl ?_
                      refine pm_R_lo pm_M155 (pc_q := 27) rfl rfl rfl ?_
                      refine pm_R_br pm_M155 (pc_q := 41) rfl rfl ?_
                      refine pm_R_op pm_M155 (pc_q := 42) (st_q := [.int 0]) rfl rfl rfl ?_
                      exact pm_R_ret pm_M155 (r := some (.int 0)) rfl rfl (K 0 m h T (cl_F.refl (ck := ck) (A := [32, 38]) (n := 0) (s := 0) T.1) (rf_W.refl [] m) (sf_weak sf_k0 (by decide) (by decide)))
                    · have B494 : sf_B 0 2147483647 a4 := sf_leR (Int32.not_lt.mp c492) sf_k0 (sf_any a4)
                      refine pm_R_lo pm_M143 (pc_q := 5) rfl rfl rfl ?_
                      refine pm_R_lo pm_M143 (pc_q := 6) rfl rfl rfl ?_
                      refine pm_R_get pm_M143 (pc_q := 9) (v := .int (Int32.ofNat s472)) rfl rfl (T.im hk470 (by decide) (by decide) eE480) (G.ge hk470 (by decide)) (T.al hk470 (by decide)) rfl rfl ?_
                      refine pm_R_icmp pm_M143 (t := 16) (pc_q := 12) rfl rfl rfl (fun c495 => ?_) (fun c495 => ?_)
                      · have B496 : sf_B 1 2147483647 a4 := sf_leR c495 (sf_ofB1 h478 h477 (by decide)) B494
                        refine pm_R_op pm_M143 (pc_q := 17) (st_q := [.int 0]) rfl rfl rfl ?_
                        refine pm_R_ret pm_M143 (r := some (.int 0)) rfl rfl ?_
                        show pm_R _ 152 32 [.ref 16, .int a2, .int a3, .int a4, .ref l468] [.int 0] _ _
                        refine pm_R_br pm_M152 (pc_q := 35) (st_q := []) rfl rfl ?_
                        refine pm_R_op pm_M152 (pc_q := 36) (st_q := [.int (-1)]) rfl rfl rfl ?_
                        refine pm_R_ret pm_M152 (r := some (.int (-1))) rfl rfl ?_
                        show pm_R _ 155 23 [.ref 16, .int a0, .int a1, .int a2, .int a3, .int a4, .null, .ref l453, pm_no, pm_no, pm_no] [.int (-1)] _ _
                        refine pm_R_lo pm_M155 (pc_q := 25) (ls_q := [.ref 16, .int a0, .int a1, .int a2, .int a3, .int a4, .null, .ref l453, .int (-1), pm_no, pm_no]) (st_q := []) rfl rfl rfl ?_
                        refine pm_R_lo pm_M155 (pc_q := 27) rfl rfl rfl ?_
                        refine pm_R_br pm_M155 (pc_q := 41) rfl rfl ?_
                        refine pm_R_op pm_M155 (pc_q := 42) (st_q := [.int 0]) rfl rfl rfl ?_
                        exact pm_R_ret pm_M155 (r := some (.int 0)) rfl rfl (K 0 m h T (cl_F.refl (ck := ck) (A := [32, 38]) (n := 0) (s := 0) T.1) (rf_W.refl [] m) (sf_weak sf_k0 (by decide) (by decide)))
                      · have B497 : sf_B 0 5 a4 := sf_ltL (Int32.not_le.mp c495) B494 (sf_ofB1 h478 h477 (by decide))
                        refine pm_R_op pm_M143 (pc_q := 13) (st_q := [.int 1]) rfl rfl rfl ?_
                        refine pm_R_br pm_M143 (pc_q := 17) rfl rfl ?_
                        refine pm_R_ret pm_M143 (r := some (.int 1)) rfl rfl ?_
                        show pm_R _ 152 32 [.ref 16, .int a2, .int a3, .int a4, .ref l468] [.int 1] _ _
                        refine pm_R_br pm_M152 (pc_q := 37) (st_q := []) rfl rfl ?_
                        refine pm_R_lo pm_M152 (pc_q := 39) rfl rfl rfl ?_
                        refine pm_R_lo pm_M152 (pc_q := 40) rfl rfl rfl ?_
                        refine pm_R_lo pm_M152 (pc_q := 41) rfl rfl rfl ?_
                        refine pm_R_cv pm_M152 (pc_q := 44) (a := l468) (ra := [.int a4, .int a3]) (rest := []) (ls_q := [.ref l468, .int a3, .int a4, pm_no, pm_no]) rfl rfl (Or.inl rfl) pm_M153 (T.im hk470 (by decide) (by decide) eE480) rfl (G.ge hk470 (by decide)) (T.al hk470 (by decide)) rfl rfl (Nat.le_of_ble_eq_true rfl) rfl rfl ?_
                        refine cl_c153 (d := d + 1) G T hk470 B491 B497 (fun r498 X505 B499 => ?_)
                        show pm_R _ 152 44 [.ref 16, .int a2, .int a3, .int a4, .ref l468] [.int r498] _ _
                        refine pm_R_ret pm_M152 (r := some (.int r498)) rfl (pm_ret_i _) ?_
                        show pm_R _ 155 23 [.ref 16, .int a0, .int a1, .int a2, .int a3, .int a4, .null, .ref l453, pm_no, pm_no, pm_no] [.int r498] _ _
                        refine pm_R_lo pm_M155 (pc_q := 25) (ls_q := [.ref 16, .int a0, .int a1, .int a2, .int a3, .int a4, .null, .ref l453, .int r498, pm_no, pm_no]) (st_q := []) rfl rfl rfl ?_
                        refine pm_R_lo pm_M155 (pc_q := 27) rfl rfl rfl ?_
                        refine pm_R_br pm_M155 (pc_q := 41) rfl rfl ?_
                        refine pm_R_op pm_M155 (pc_q := 42) (st_q := [.int 0]) rfl rfl rfl ?_
                        exact pm_R_ret pm_M155 (r := some (.int 0)) rfl rfl (K 0 m h T (cl_F.refl (ck := ck) (A := [32, 38]) (n := 0) (s := 0) T.1) (rf_W.refl [] m) (sf_weak sf_k0 (by decide) (by decide)))
            · skip
              refine pm_R_op pm_M139 (pc_q := 18) (st_q := [.null]) rfl rfl rfl ?_
              refine pm_R_br pm_M139 (pc_q := 30) rfl rfl ?_
              refine pm_R_ret pm_M139 (r := some (.null)) rfl rfl ?_
              show pm_R _ 152 5 [.ref 16, .int a2, .int a3, .int a4, pm_no] [.null] _ _
              refine pm_R_lo pm_M152 (pc_q := 7) (ls_q := [.ref 16, .int a2, .int a3, .int a4, .null]) (st_q := []) rfl rfl rfl ?_
              refine pm_R_lo pm_M152 (pc_q := 9) rfl rfl rfl ?_
              refine pm_R_br pm_M152 (pc_q := 35) rfl rfl ?_
              refine pm_R_op pm_M152 (pc_q := 36) (st_q := [.int (-1)]) rfl rfl rfl ?_
              refine pm_R_ret pm_M152 (r := some (.int (-1))) rfl rfl ?_
              show pm_R _ 155 23 [.ref 16, .int a0, .int a1, .int a2, .int a3, .int a4, .null, .ref l453, pm_no, pm_no, pm_no] [.int (-1)] _ _
              refine pm_R_lo pm_M155 (pc_q := 25) (ls_q := [.ref 16, .int a0, .int a1, .int a2, .int a3, .int a4, .null, .ref l453, .int (-1), pm_no, pm_no]) (st_q := []) rfl rfl rfl ?_
              refine pm_R_lo pm_M155 (pc_q := 27) rfl rfl rfl ?_
              refine pm_R_br pm_M155 (pc_q := 41) rfl rfl ?_
              refine pm_R_op pm_M155 (pc_q := 42) (st_q := [.int 0]) rfl rfl rfl ?_
              exact pm_R_ret pm_M155 (r := some (.int 0)) rfl rfl (K 0 m h T (cl_F.refl (ck := ck) (A := [32, 38]) (n := 0) (s := 0) T.1) (rf_W.refl [] m) (sf_weak sf_k0 (by decide) (by decide)))
        · skip
          refine pm_R_op pm_M66 (pc_q := 18) (st_q := [.null]) rfl rfl rfl ?_
          refine pm_R_br pm_M66 (pc_q := 30) rfl rfl ?_
          refine pm_R_ret pm_M66 (r := some (.null)) rfl rfl ?_
          show pm_R _ 155 12 [.ref 16, .int a0, .int a1, .int a2, .int a3, .int a4, .null, pm_no, pm_no, pm_no, pm_no] [.null] _ _
          refine pm_R_lo pm_M155 (pc_q := 14) (ls_q := [.ref 16, .int a0, .int a1, .int a2, .int a3, .int a4, .null, .null, pm_no, pm_no, pm_no]) (st_q := []) rfl rfl rfl ?_
          refine pm_R_lo pm_M155 (pc_q := 15) rfl rfl rfl ?_
          refine pm_R_lo pm_M155 (pc_q := 16) rfl rfl rfl ?_
          refine pm_R_lo pm_M155 (pc_q := 18) rfl rfl rfl ?_
          refine pm_R_lo pm_M155 (pc_q := 20) rfl rfl rfl ?_
          refine pm_R_cv pm_M155 (pc_q := 23) (a := 16) (ra := [.int a4, .int a3, .int a2]) (rest := []) (ls_q := [.ref 16, .int a2, .int a3, .int a4, pm_no]) rfl rfl (Or.inl rfl) pm_M152 T.e16 rfl (by decide) (T.lt (by decide)) rfl rfl (Nat.le_of_ble_eq_true rfl) rfl rfl ?_
          refine pm_R_lo pm_M152 (pc_q := 1) rfl rfl rfl ?_
          refine pm_R_lo pm_M152 (pc_q := 2) rfl rfl rfl ?_
          refine pm_R_cv pm_M152 (pc_q := 5) (a := 16) (ra := [.int a2]) (rest := []) (ls_q := [.ref 16, .int a2]) rfl rfl (Or.inl rfl) pm_M139 T.e16 rfl (by decide) (T.lt (by decide)) rfl rfl (Nat.le_of_ble_eq_true rfl) rfl rfl ?_
          refine pm_R_lo pm_M139 (pc_q := 1) rfl rfl rfl ?_
          refine pm_R_ifc pm_M139 (t := 17) (pc_q := 4) rfl rfl rfl (fun c506 => ?_) (fun c506 => ?_)
          · have B507 : sf_B (-2147483648) (-1) a2 := sf_ltL c506 (sf_any a2) sf_k0
            refine pm_R_op pm_M139 (pc_q := 18) (st_q := [.null]) rfl rfl rfl ?_
            refine pm_R_br pm_M139 (pc_q := 30) rfl rfl ?_
            refine pm_R_ret pm_M139 (r := some (.null)) rfl rfl ?_
            show pm_R _ 152 5 [.ref 16, .int a2, .int a3, .int a4, pm_no] [.null] _ _
            refine pm_R_lo pm_M152 (pc_q := 7) (ls_q := [.ref 16, .int a2, .int a3, .int a4, .null]) (st_q := []) rfl rfl rfl ?_
            refine pm_R_lo pm_M152 (pc_q := 9) rfl rfl rfl ?_
            refine pm_R_br pm_M152 (pc_q := 35) rfl rfl ?_
            refine pm_R_op pm_M152 (pc_q := 36) (st_q := [.int (-1)]) rfl rfl rfl ?_
            refine pm_R_ret pm_M152 (r := some (.int (-1))) rfl rfl ?_
            show pm_R _ 155 23 [.ref 16, .int a0, .int a1, .int a2, .int a3, .int a4, .null, .null, pm_no, pm_no, pm_no] [.int (-1)] _ _
            refine pm_R_lo pm_M155 (pc_q := 25) (ls_q := [.ref 16, .int a0, .int a1, .int a2, .int a3, .int a4, .null, .null, .int (-1), pm_no, pm_no]) (st_q := []) rfl rfl rfl ?_
            refine pm_R_lo pm_M155 (pc_q := 27) rfl rfl rfl ?_
            refine pm_R_br pm_M155 (pc_q := 41) rfl rfl ?_
            refine pm_R_op pm_M155 (pc_q := 42) (st_q := [.int 0]) rfl rfl rfl ?_
            exact pm_R_ret pm_M155 (r := some (.int 0)) rfl rfl (K 0 m h T (cl_F.refl (ck := ck) (A := [32, 38]) (n := 0) (s := 0) T.1) (rf_W.refl [] m) (sf_weak sf_k0 (by decide) (by decide)))
          · have B508 : sf_B 0 2147483647 a2 := sf_leR (Int32.not_lt.mp c506) sf_k0 (sf_any a2)
            refine pm_R_lo pm_M139 (pc_q := 5) rfl rfl rfl ?_
            refine pm_R_lo pm_M139 (pc_q := 6) rfl rfl rfl ?_
            refine pm_R_get pm_M139 (pc_q := 9) (v := .ref 17) rfl rfl T.e16 (by decide) (T.lt (by decide)) rfl rfl ?_
            refine pm_R_get pm_M139 (pc_q := 12) (v := .ref 23) rfl rfl T.e17 (by decide) (T.lt (by decide)) rfl rfl ?_
            refine pm_R_op pm_M139 (pc_q := 13) (st_q := [.int 2, .ref 23, .int a2]) rfl rfl rfl ?_
            obtain ⟨z509, ez510⟩ : ∃ y, f178 (Int32.toNatClampNeg 2) = y := ⟨_, rfl⟩
            have B511 : sf_B 0 2 z509 := ez510 ▸ (b180 2)
            refine pm_R_iald pm_M139 (pc_q := 14) (v := z509) rfl e179 (T.lt (by decide)) rfl ez510 rfl ?_
            refine pm_R_icmp pm_M139 (t := 21) (pc_q := 17) rfl rfl rfl (fun c512 => ?_) (fun c512 => ?_)
            · have B513 : sf_B 0 1 a2 := sf_ltL c512 B508 B511
              have B514 : sf_B 1 2 z509 := sf_ltR c512 B508 B511
              refine pm_R_lo pm_M139 (pc_q := 22) rfl rfl rfl ?_
              refine pm_R_get pm_M139 (pc_q := 25) (v := .ref 17) rfl rfl T.e16 (by decide) (T.lt (by decide)) rfl rfl ?_
              refine pm_R_get pm_M139 (pc_q := 28) (v := .ref 21) rfl rfl T.e17 (by decide) (T.lt (by decide)) rfl rfl ?_
              refine pm_R_lo pm_M139 (pc_q := 29) rfl rfl rfl ?_
              obtain ⟨f515, e516, b517⟩ := T.C 21 (by decide) (by decide)
              obtain ⟨l518, hx519⟩ := cl_there2 T e179 e516 ez510 c512 B513 (by decide)
              have hk520 := b517 _ _ hx519
              refine pm_R_aald pm_M139 (pc_q := 30) (v := .ref l518) rfl e516 (by decide) (by decide) (by decide) (T.lt (by decide)) (sf_in B513 (by decide) (by decide)) (by rw [hx519]; rfl) rfl ?_
              refine pm_R_ret pm_M139 (r := some (.ref l518)) rfl rfl ?_
              show pm_R _ 152 5 [.ref 16, .int a2, .int a3, .int a4, pm_no] [.ref l518] _ _
              refine pm_R_lo pm_M152 (pc_q := 7) (ls_q := [.ref 16, .int a2, .int a3, .int a4, .ref l518]) (st_q := []) rfl rfl rfl ?_
              refine pm_R_lo pm_M152 (pc_q := 9) rfl rfl rfl ?_
              refine pm_R_br pm_M152 (pc_q := 12) rfl rfl ?_
              refine pm_R_lo pm_M152 (pc_q := 13) rfl rfl rfl ?_
              refine pm_R_lo pm_M152 (pc_q := 14) rfl rfl rfl ?_
              refine pm_R_icmp pm_M152 (t := 35) (pc_q := 17) rfl rfl rfl (fun c521 => ?_) (fun c521 => ?_)
              · refine pm_R_op pm_M152 (pc_q := 36) (st_q := [.int (-1)]) rfl rfl rfl ?_
                refine pm_R_ret pm_M152 (r := some (.int (-1))) rfl rfl ?_
                show pm_R _ 155 23 [.ref 16, .int a0, .int a1, .int a2, .int a3, .int a4, .null, .null, pm_no, pm_no, pm_no] [.int (-1)] _ _
                refine pm_R_lo pm_M155 (pc_q := 25) (ls_q := [.ref 16, .int a0, .int a1, .int a2, .int a3, .int a4, .null, .null, .int (-1), pm_no, pm_no]) (st_q := []) rfl rfl rfl ?_
                refine pm_R_lo pm_M155 (pc_q := 27) rfl rfl rfl ?_
                refine pm_R_br pm_M155 (pc_q := 41) rfl rfl ?_
                refine pm_R_op pm_M155 (pc_q := 42) (st_q := [.int 0]) rfl rfl rfl ?_
                exact pm_R_ret pm_M155 (r := some (.int 0)) rfl rfl (K 0 m h T (cl_F.refl (ck := ck) (A := [32, 38]) (n := 0) (s := 0) T.1) (rf_W.refl [] m) (sf_weak sf_k0 (by decide) (by decide)))
              · skip
                refine pm_R_lo pm_M152 (pc_q := 19) rfl rfl rfl ?_
                refine pm_R_lo pm_M152 (pc_q := 20) rfl rfl rfl ?_
                obtain ⟨s522, n523, fd524, fg525, fs526, h527, h528, h529, eE530, eE531, eE532, eE533, b534⟩ := (G.2.2.2.1 l518 hk520).2.2.2
                have kq535 := G.2.2.2.1 l518 hk520
                refine pm_R_cv pm_M152 (pc_q := 23) (a := l518) (ra := [.int a3]) (rest := []) (ls_q := [.ref l518, .int a3]) rfl rfl (Or.inl rfl) pm_M143 (T.im hk520 (by decide) (by decide) eE530) rfl (G.ge hk520 (by decide)) (T.al hk520 (by decide)) rfl rfl (Nat.le_of_ble_eq_true rfl) rfl rfl ?_
                refine pm_R_lo pm_M143 (pc_q := 1) rfl rfl rfl ?_
                refine pm_R_ifc pm_M143 (t := 16) (pc_q := 4) rfl rfl rfl (fun c536 => ?_) (fun c536 => ?_)
                · have B537 : sf_B (-2147483648) (-1) a3 := sf_ltL c536 (sf_any a3) sf_k0
                  refine pm_R_op pm_M143 (pc_q := 17) (st_q := [.int 0]) rfl rfl rfl ?_
                  refine pm_R_ret pm_M143 (r := some (.int 0)) rfl rfl ?_
                  show pm_R _ 152 23 [.ref 16, .int a2, .int a3, .int a4, .ref l518] [.int 0] _ _
                  refine pm_R_br pm_M152 (pc_q := 35) (st_q := []) rfl rfl ?_
                  refine pm_R_op pm_M152 (pc_q := 36) (st_q := [.int (-1)]) rfl rfl rfl ?_
                  refine pm_R_ret pm_M152 (r := some (.int (-1))) rfl rfl ?_
                  show pm_R _ 155 23 [.ref 16, .int a0, .int a1, .int a2, .int a3, .int a4, .null, .null, pm_no, pm_no, pm_no] [.int (-1)] _ _
                  refine pm_R_lo pm_M155 (pc_q := 25) (ls_q := [.ref 16, .int a0, .int a1, .int a2, .int a3, .int a4, .null, .null, .int (-1), pm_no, pm_no]) (st_q := []) rfl rfl rfl ?_
                  refine pm_R_lo pm_M155 (pc_q := 27) rfl rfl rfl ?_
                  refine pm_R_br pm_M155 (pc_q := 41) rfl rfl ?_
                  refine pm_R_op pm_M155 (pc_q := 42) (st_q := [.int 0]) rfl rfl rfl ?_
                  exact pm_R_ret pm_M155 (r := some (.int 0)) rfl rfl (K 0 m h T (cl_F.refl (ck := ck) (A := [32, 38]) (n := 0) (s := 0) T.1) (rf_W.refl [] m) (sf_weak sf_k0 (by decide) (by decide)))
                · have B538 : sf_B 0 2147483647 a3 := sf_leR (Int32.not_lt.mp c536) sf_k0 (sf_any a3)
                  refine pm_R_lo pm_M143 (pc_q := 5) rfl rfl rfl ?_
                  refine pm_R_lo pm_M143 (pc_q := 6) rfl rfl rfl ?_
                  refine pm_R_get pm_M143 (pc_q := 9) (v := .int (Int32.ofNat s522)) rfl rfl (T.im hk520 (by decide) (by decide) eE530) (G.ge hk520 (by decide)) (T.al hk520 (by decide)) rfl rfl ?_
                  refine pm_R_icmp pm_M143 (t := 16) (pc_q := 12) rfl rfl rfl (fun c539 => ?_) (fun c539 => ?_)
                  · have B540 : sf_B 1 2147483647 a3 := sf_leR c539 (sf_ofB1 h528 h527 (by decide)) B538
                    refine pm_R_op pm_M143 (pc_q := 17) (st_q := [.int 0]) rfl rfl rfl ?_
                    refine pm_R_ret pm_M143 (r := some (.int 0)) rfl rfl ?_
                    show pm_R _ 152 23 [.ref 16, .int a2, .int a3, .int a4, .ref l518] [.int 0] _ _
                    refine pm_R_br pm_M152 (pc_q := 35) (st_q := []) rfl rfl ?_
                    refine pm_R_op pm_M152 (pc_q := 36) (st_q := [.int (-1)]) rfl rfl rfl ?_
                    refine pm_R_ret pm_M152 (r := some (.int (-1))) rfl rfl ?_
                    show pm_R _ 155 23 [.ref 16, .int a0, .int a1, .int a2, .int a3, .int a4, .null, .null, pm_no, pm_no, pm_no] [.int (-1)] _ _
                    refine pm_R_lo pm_M155 (pc_q := 25) (ls_q := [.ref 16, .int a0, .int a1, .int a2, .int a3, .int a4, .null, .null, .int (-1), pm_no, pm_no]) (st_q := []) rfl rfl rfl ?_
                    refine pm_R_lo pm_M155 (pc_q := 27) rfl rfl rfl ?_
                    refine pm_R_br pm_M155 (pc_q := 41) rfl rfl ?_
                    refine pm_R_op pm_M155 (pc_q := 42) (st_q := [.int 0]) rfl rfl rfl ?_
                    exact pm_R_ret pm_M155 (r := some (.int 0)) rfl rfl (K 0 m h T (cl_F.refl (ck := ck) (A := [32, 38]) (n := 0) (s := 0) T.1) (rf_W.refl [] m) (sf_weak sf_k0 (by decide) (by decide)))
                  · have B541 : sf_B 0 5 a3 := sf_ltL (Int32.not_le.mp c539) B538 (sf_ofB1 h528 h527 (by decide))
                    refine pm_R_op pm_M143 (pc_q := 13) (st_q := [.int 1]) rfl rfl rfl ?_
                    refine pm_R_br pm_M143 (pc_q := 17) rfl rfl ?_
                    refine pm_R_ret pm_M143 (r := some (.int 1)) rfl rfl ?_
                    show pm_R _ 152 23 [.ref 16, .int a2, .int a3, .int a4, .ref l518] [.int 1] _ _
                    refine pm_R_br pm_M152 (pc_q := 26) (st_q := []) rfl rfl ?_
                    refine pm_R_lo pm_M152 (pc_q := 28) rfl rfl rfl ?_
                    refine pm_R_lo pm_M152 (pc_q := 29) rfl rfl rfl ?_
                    refine pm_R_cv pm_M152 (pc_q := 32) (a := l518) (ra := [.int a4]) (rest := []) (ls_q := [.ref l518, .int a4]) rfl rfl (Or.inl rfl) pm_M143 (T.im hk520 (by decide) (by decide) eE530) rfl (G.ge hk520 (by decide)) (T.al hk520 (by decide)) rfl rfl (Nat.le_of_ble_eq_true rfl) rfl rfl ?_
                    refine pm_R_lo pm_M143 (pc_q := 1) rfl rfl rfl ?_
                    refine pm_R_ifc pm_M143 (t := 16) (pc_q := 4) rfl rfl rfl (fun c542 => ?_) (fun c542 => ?_)
                    · have B543 : sf_B (-2147483648) (-1) a4 := sf_ltL c542 (sf_any a4) sf_k0
                      refine pm_R_op pm_M143 (pc_q := 17) (st_q := [.int 0]) rfl rfl rfl ?_
                      refine pm_R_ret pm_M143 (r := some (.int 0)) rfl rfl ?_
                      show pm_R _ 152 32 [.ref 16, .int a2, .int a3, .int a4, .ref l518] [.int 0] _ _
                      refine pm_R_br pm_M152 (pc_q := 35) (st_q := []) rfl rfl ?_
                      refine pm_R_op pm_M152 (pc_q := 36) (st_q := [.int (-1)]) rfl rfl rfl ?_
                      refine pm_R_ret pm_M152 (r := some (.int (-1))) rfl rfl ?_
                      show pm_R _ 155 23 [.ref 16, .int a0, .int a1, .int a2, .int a3, .int a4, .null, .null, pm_no, pm_no, pm_no] [.int (-1)] _ _
                      refine pm_R_lo pm_M155 (pc_q := 25) (ls_q := [.ref 16, .int a0, .int a1, .int a2, .int a3, .int a4, .null, .null, .int (-1), pm_no, pm_no]) (st_q := []) rfl rfl rfl ?_
                      refine pm_R_lo pm_M155 (pc_q := 27) rfl rfl rfl ?_
                      refine pm_R_br pm_M155 (pc_q := 41) rfl rfl ?_
                      refine pm_R_op pm_M155 (pc_q := 42) (st_q := [.int 0]) rfl rfl rfl ?_
                      exact pm_R_ret pm_M155 (r := some (.int 0)) rfl rfl (K 0 m h T (cl_F.refl (ck := ck) (A := [32, 38]) (n := 0) (s := 0) T.1) (rf_W.refl [] m) (sf_weak sf_k0 (by decide) (by decide)))
                    · have B544 : sf_B 0 2147483647 a4 := sf_leR (Int32.not_lt.mp c542) sf_k0 (sf_any a4)
                      refine pm_R_lo pm_M143 (pc_q := 5) rfl rfl rfl ?_
                      refine pm_R_lo pm_M143 (pc_q := 6) rfl rfl rfl ?_
                      refine pm_R_get pm_M143 (pc_q := 9) (v := .int (Int32.ofNat s522)) rfl rfl (T.im hk520 (by decide) (by decide) eE530) (G.ge hk520 (by decide)) (T.al hk520 (by decide)) rfl rfl ?_
                      refine pm_R_icmp pm_M143 (t := 16) (pc_q := 12) rfl rfl rfl (fun c545 => ?_) (fun c545 => ?_)
                      · have B546 : sf_B 1 2147483647 a4 := sf_leR c545 (sf_ofB1 h528 h527 (by decide)) B544
                        refine pm_R_op pm_M143 (pc_q := 17) (st_q := [.int 0]) rfl rfl rfl ?_
                        refine pm_R_ret pm_M143 (r := some (.int 0)) rfl rfl ?_
                        show pm_R _ 152 32 [.ref 16, .int a2, .int a3, .int a4, .ref l518] [.int 0] _ _
                        refine pm_R_br pm_M152 (pc_q := 35) (st_q := []) rfl rfl ?_
                        refine pm_R_op pm_M152 (pc_q := 36) (st_q := [.int (-1)]) rfl rfl rfl ?_
                        refine pm_R_ret pm_M152 (r := some (.int (-1))) rfl rfl ?_
                        show pm_R _ 155 23 [.ref 16, .int a0, .int a1, .int a2, .int a3, .int a4, .null, .null, pm_no, pm_no, pm_no] [.int (-1)] _ _
                        refine pm_R_lo pm_M155 (pc_q := 25) (ls_q := [.ref 16, .int a0, .int a1, .int a2, .int a3, .int a4, .null, .null, .int (-1), pm_no, pm_no]) (st_q := []) rfl rfl rfl ?_
                        refine pm_R_lo pm_M155 (pc_q := 27) rfl rfl rfl ?_
                        refine pm_R_br pm_M155 (pc_q := 41) rfl rfl ?_
                        refine pm_R_op pm_M155 (pc_q := 42) (st_q := [.int 0]) rfl rfl rfl ?_
                        exact pm_R_ret pm_M155 (r := some (.int 0)) rfl rfl (K 0 m h T (cl_F.refl (ck := ck) (A := [32, 38]) (n := 0) (s := 0) T.1) (rf_W.refl [] m) (sf_weak sf_k0 (by decide) (by decide)))
                      · have B547 : sf_B 0 5 a4 := sf_ltL (Int32.not_le.mp c545) B544 (sf_ofB1 h528 h527 (by decide))
                        refine pm_R_op pm_M143 (pc_q := 13) (st_q := [.int 1]) rfl rfl rfl ?_
                        refine pm_R_br pm_M143 (pc_q := 17) rfl rfl ?_
                        refine pm_R_ret pm_M143 (r := some (.int 1)) rfl rfl ?_
                        show pm_R _ 152 32 [.ref 16, .int a2, .int a3, .int a4, .ref l518] [.int 1] _ _
                        refine pm_R_br pm_M152 (pc_q := 37) (st_q := []) rfl rfl ?_
                        refine pm_R_lo pm_M152 (pc_q := 39) rfl rfl rfl ?_
                        refine pm_R_lo pm_M152 (pc_q := 40) rfl rfl rfl ?_
                        refine pm_R_lo pm_M152 (pc_q := 41) rfl rfl rfl ?_
                        refine pm_R_cv pm_M152 (pc_q := 44) (a := l518) (ra := [.int a4, .int a3]) (rest := []) (ls_q := [.ref l518, .int a3, .int a4, pm_no, pm_no]) rfl rfl (Or.inl rfl) pm_M153 (T.im hk520 (by decide) (by decide) eE530) rfl (G.ge hk520 (by decide)) (T.al hk520 (by decide)) rfl rfl (Nat.le_of_ble_eq_true rfl) rfl rfl ?_
                        refine cl_c153 (d := d + 1) G T hk520 B541 B547 (fun r548 X555 B549 => ?_)
                        show pm_R _ 152 44 [.ref 16, .int a2, .int a3, .int a4, .ref l518] [.int r548] _ _
                        refine pm_R_ret pm_M152 (r := some (.int r548)) rfl (pm_ret_i _) ?_
                        show pm_R _ 155 23 [.ref 16, .int a0, .int a1, .int a2, .int a3, .int a4, .null, .null, pm_no, pm_no, pm_no] [.int r548] _ _
                        refine pm_R_lo pm_M155 (pc_q := 25) (ls_q := [.ref 16, .int a0, .int a1, .int a2, .int a3, .int a4, .null, .null, .int r548, pm_no, pm_no]) (st_q := []) rfl rfl rfl ?_
                        refine pm_R_lo pm_M155 (pc_q := 27) rfl rfl rfl ?_
                        refine pm_R_br pm_M155 (pc_q := 41) rfl rfl ?_
                        refine pm_R_op pm_M155 (pc_q := 42) (st_q := [.int 0]) rfl rfl rfl ?_
                        exact pm_R_ret pm_M155 (r := some (.int 0)) rfl rfl (K 0 m h T (cl_F.refl (ck := ck) (A := [32, 38]) (n := 0) (s := 0) T.1) (rf_W.refl [] m) (sf_weak sf_k0 (by decide) (by decide)))
            · skip
              refine pm_R_op pm_M139 (pc_q := 18) (st_q := [.null]) rfl rfl rfl ?_
              refine pm_R_br pm_M139 (pc_q := 30) rfl rfl ?_
              refine pm_R_ret pm_M139 (r := some (.null)) rfl rfl ?_
              show pm_R _ 152 5 [.ref 16, .int a2, .int a3, .int a4, pm_no] [.null] _ _
              refine pm_R_lo pm_M152 (pc_q := 7) (ls_q := [.ref 16, .int a2, .int a3, .int a4, .null]) (st_q := []) rfl rfl rfl ?_
              refine pm_R_lo pm_M152 (pc_q := 9) rfl rfl rfl ?_
              refine pm_R_br pm_M152 (pc_q := 35) rfl rfl ?_
              refine pm_R_op pm_M152 (pc_q := 36) (st_q := [.int (-1)]) rfl rfl rfl ?_
              refine pm_R_ret pm_M152 (r := some (.int (-1))) rfl rfl ?_
              show pm_R _ 155 23 [.ref 16, .int a0, .int a1, .int a2, .int a3, .int a4, .null, .null, pm_no, pm_no, pm_no] [.int (-1)] _ _
              refine pm_R_lo pm_M155 (pc_q := 25) (ls_q := [.ref 16, .int a0, .int a1, .int a2, .int a3, .int a4, .null, .null, .int (-1), pm_no, pm_no]) (st_q := []) rfl rfl rfl ?_
              refine pm_R_lo pm_M155 (pc_q := 27) rfl rfl rfl ?_
              refine pm_R_br pm_M155 (pc_q := 41) rfl rfl ?_
              refine pm_R_op pm_M155 (pc_q := 42) (st_q := [.int 0]) rfl rfl rfl ?_
              exact pm_R_ret pm_M155 (r := some (.int 0)) rfl rfl (K 0 m h T (cl_F.refl (ck := ck) (A := [32, 38]) (n := 0) (s := 0) T.1) (rf_W.refl [] m) (sf_weak sf_k0 (by decide) (by decide)))
