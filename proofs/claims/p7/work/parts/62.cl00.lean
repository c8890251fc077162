set_option maxRecDepth 100000 in
set_option maxHeartbeats 4000000 in
/-- SilentTable.brief -/
theorem cl_c121_x {d : Nat} {ck : cl_K} {E : Nat → pm_E} {m : Nat → Int32} {o : Nat → Option Nat} {h : pm_H} {Q : Option Value → pm_H → Prop} {a0 : Int32} {a1 : Int32} {a2 : Int32} {a3 : Int32} (G : cl_G ck E) (T : cl_T ck E m o h)  (K : ∀ (r : Int32) (m_q : Nat → Int32) (h_q : pm_H), cl_T ck E m_q o h_q → cl_F ck [32, 37, 38] 5 24466 h h_q → rf_W [] m m_q → (∀ f0 : Nat → Option Nat, h.2.2 37 = .inl (9, 2, .inr (.inr (.inr (.inr f0)))) → ∃ f1 : Nat → Option Nat, h_q.2.2 37 = .inl (9, 2, .inr (.inr (.inr (.inr f1)))) ∧ cl_p37 f1 + h_q.2.1 ≤ cl_p37 f0 + h.2.1) → Q (some (.int r)) h_q) (K2 : ∀ (r : Int32) (m_q : Nat → Int32) (ck_q : cl_K) (h_q : pm_H), (∀ b, b < h.1 → ck_q b = ck b) → cl_G ck_q E → cl_T ck_q E m_q o h_q → cl_F ck [32, 37, 38] 5 24466 h h_q → rf_W [] m m_q → (∀ f0 : Nat → Option Nat, h.2.2 37 = .inl (9, 2, .inr (.inr (.inr (.inr f0)))) → ∃ f1 : Nat → Option Nat, h_q.2.2 37 = .inl (9, 2, .inr (.inr (.inr (.inr f1)))) ∧ cl_p37 f1 + h_q.2.1 ≤ cl_p37 f0 + h.2.1) → Q (some (.int r)) h_q) : pm_R (d + 6) 121 0 [.ref 16, .int a0, .int a1, .int a2, .int a3] [] h Q := by
  obtain ⟨f1, e2, b3⟩ := T.C 37 (by decide) (by decide)
  refine pm_R_lo pm_M121 (pc_q := 1) rfl rfl rfl ?_
  refine pm_R_lo pm_M121 (pc_q := 2) rfl rfl rfl ?_
  refine pm_R_cv pm_M121 (pc_q := 5) (a := 16) (ra := [.int a0]) (rest := []) (ls_q := [.ref 16, .int a0]) rfl rfl (Or.inl rfl) pm_M62 T.e16 rfl (by decide) (T.lt (by decide)) rfl rfl (Nat.le_of_ble_eq_true rfl) rfl rfl ?_
  refine pm_R_lo pm_M62 (pc_q := 1) rfl rfl rfl ?_
  refine pm_R_ifc pm_M62 (t := 17) (pc_q := 4) rfl rfl rfl (fun c4 => ?_) (fun c4 => ?_)
  · have B5 : sf_B (-2147483648) (-1) a0 := sf_ltL c4 (sf_any a0) sf_k0
    refine pm_R_op pm_M62 (pc_q := 18) (st_q := [.null]) rfl rfl rfl ?_
    refine pm_R_br pm_M62 (pc_q := 30) rfl rfl ?_
    refine pm_R_ret pm_M62 (r := some (.null)) rfl rfl ?_
    show pm_R _ 121 5 [.ref 16, .int a0, .int a1, .int a2, .int a3] [.null] _ _
    refine pm_R_br pm_M121 (pc_q := 27) rfl rfl ?_
    refine pm_R_op pm_M121 (pc_q := 28) (st_q := [.int (-1)]) rfl rfl rfl ?_
    have px6 : cl_p37 f1 + h.2.1 ≤ cl_p37 f1 + h.2.1 := Nat.add_le_add_left ((cl_F.refl (ck := ck) (A := [32, 37, 38]) (n := 0) (s := 0) T.1).2.2.2.1) _
    exact pm_R_ret pm_M121 (r := some (.int (-1))) rfl rfl (K (-1) m h T ((cl_F.refl (ck := ck) (A := [32, 37, 38]) (n := 0) (s := 0) T.1).weak (by decide) (by decide)) (rf_W.refl [] m) (fun f0 ef => by rw [e2] at ef; cases ef; exact ⟨_, e2, px6⟩))
  · have B7 : sf_B 0 2147483647 a0 := sf_leR (Int32.not_lt.mp c4) sf_k0 (sf_any a0)
    refine pm_R_lo pm_M62 (pc_q := 5) rfl rfl rfl ?_
    refine pm_R_lo pm_M62 (pc_q := 6) rfl rfl rfl ?_
    refine pm_R_get pm_M62 (pc_q := 9) (v := .ref 17) rfl rfl T.e16 (by decide) (T.lt (by decide)) rfl rfl ?_
    refine pm_R_get pm_M62 (pc_q := 12) (v := .ref 23) rfl rfl T.e17 (by decide) (T.lt (by decide)) rfl rfl ?_
    refine pm_R_op pm_M62 (pc_q := 13) (st_q := [.int 0, .ref 23, .int a0]) rfl rfl rfl ?_
    obtain ⟨f11, e12, b13⟩ := T.C 23 (by decide) (by decide)
    obtain ⟨z8, ez9⟩ : ∃ y, f11 (Int32.toNatClampNeg 0) = y := ⟨_, rfl⟩
    have B10 : sf_B 0 2 z8 := ez9 ▸ (b13 0)
    refine pm_R_iald pm_M62 (pc_q := 14) (v := z8) rfl e12 (T.lt (by decide)) rfl ez9 rfl ?_
    refine pm_R_icmp pm_M62 (t := 21) (pc_q := 17) rfl rfl rfl (fun c14 => ?_) (fun c14 => ?_)
    · have B15 : sf_B 0 1 a0 := sf_ltL c14 B7 B10
      have B16 : sf_B 1 2 z8 := sf_ltR c14 B7 B10
      refine pm_R_lo pm_M62 (pc_q := 22) rfl rfl rfl ?_
      refine pm_R_get pm_M62 (pc_q := 25) (v := .ref 17) rfl rfl T.e16 (by decide) (T.lt (by decide)) rfl rfl ?_
      refine pm_R_get pm_M62 (pc_q := 28) (v := .ref 19) rfl rfl T.e17 (by decide) (T.lt (by decide)) rfl rfl ?_
      refine pm_R_lo pm_M62 (pc_q := 29) rfl rfl rfl ?_
      obtain ⟨f17, e18, b19⟩ := T.C 19 (by decide) (by decide)
      obtain ⟨l20, hx21⟩ := cl_there0 T e12 e18 ez9 c14 B15 (by decide)
      have hk22 := b19 _ _ hx21
      refine pm_R_aald pm_M62 (pc_q := 30) (v := .ref l20) rfl e18 (by decide) (by decide) (by decide) (T.lt (by decide)) (sf_in B15 (by decide) (by decide)) (by rw [hx21]; rfl) rfl ?_
      refine pm_R_ret pm_M62 (r := some (.ref l20)) rfl rfl ?_
      show pm_R _ 121 5 [.ref 16, .int a0, .int a1, .int a2, .int a3] [.ref l20] _ _
      refine pm_R_br pm_M121 (pc_q := 8) rfl rfl ?_
      refine pm_R_lo pm_M121 (pc_q := 9) rfl rfl rfl ?_
      refine pm_R_cs pm_M121 (pc_q := 12) (ra := [.int a1]) (rest := []) (ls_q := [.int a1]) rfl rfl (Or.inl rfl) pm_M82 rfl rfl (Nat.le_of_ble_eq_true rfl) rfl rfl ?_
      refine pm_R_lo pm_M82 (pc_q := 1) rfl rfl rfl ?_
      refine pm_R_ifc pm_M82 (t := 14) (pc_q := 4) rfl rfl rfl (fun c23 => ?_) (fun c23 => ?_)
      · have B24 : sf_B (-2147483648) (-1) a1 := sf_ltL c23 (sf_any a1) sf_k0
        refine pm_R_op pm_M82 (pc_q := 15) (st_q := [.int 0]) rfl rfl rfl ?_
        refine pm_R_ret pm_M82 (r := some (.int 0)) rfl rfl ?_
        show pm_R _ 121 12 [.ref 16, .int a0, .int a1, .int a2, .int a3] [.int 0] _ _
        refine pm_R_br pm_M121 (pc_q := 27) (st_q := []) rfl rfl ?_
        refine pm_R_op pm_M121 (pc_q := 28) (st_q := [.int (-1)]) rfl rfl rfl ?_
        have px25 : cl_p37 f1 + h.2.1 ≤ cl_p37 f1 + h.2.1 := Nat.add_le_add_left ((cl_F.refl (ck := ck) (A := [32, 37, 38]) (n := 0) (s := 0) T.1).2.2.2.1) _
        exact pm_R_ret pm_M121 (r := some (.int (-1))) rfl rfl (K (-1) m h T ((cl_F.refl (ck := ck) (A := [32, 37, 38]) (n := 0) (s := 0) T.1).weak (by decide) (by decide)) (rf_W.refl [] m) (fun f0 ef => by rw [e2] at ef; cases ef; exact ⟨_, e2, px25⟩))
      · have B26 : sf_B 0 2147483647 a1 := sf_leR (Int32.not_lt.mp c23) sf_k0 (sf_any a1)
        refine pm_R_lo pm_M82 (pc_q := 5) rfl rfl rfl ?_
        refine pm_R_op pm_M82 (pc_q := 7) (st_q := [.int 50, .int a1]) rfl rfl rfl ?_
        refine pm_R_icmp pm_M82 (t := 14) (pc_q := 10) rfl rfl rfl (fun c27 => ?_) (fun c27 => ?_)
        · have B28 : sf_B 50 2147483647 a1 := sf_leR c27 sf_k50 B26
          refine pm_R_op pm_M82 (pc_q := 15) (st_q := [.int 0]) rfl rfl rfl ?_
          refine pm_R_ret pm_M82 (r := some (.int 0)) rfl rfl ?_
          show pm_R _ 121 12 [.ref 16, .int a0, .int a1, .int a2, .int a3] [.int 0] _ _
          refine pm_R_br pm_M121 (pc_q := 27) (st_q := []) rfl rfl ?_
          refine pm_R_op pm_M121 (pc_q := 28) (st_q := [.int (-1)]) rfl rfl rfl ?_
          have px29 : cl_p37 f1 + h.2.1 ≤ cl_p37 f1 + h.2.1 := Nat.add_le_add_left ((cl_F.refl (ck := ck) (A := [32, 37, 38]) (n := 0) (s := 0) T.1).2.2.2.1) _
          exact pm_R_ret pm_M121 (r := some (.int (-1))) rfl rfl (K (-1) m h T ((cl_F.refl (ck := ck) (A := [32, 37, 38]) (n := 0) (s := 0) T.1).weak (by decide) (by decide)) (rf_W.refl [] m) (fun f0 ef => by rw [e2] at ef; cases ef; exact ⟨_, e2, px29⟩))
        · have B30 : sf_B 0 49 a1 := sf_ltL (Int32.not_le.mp c27) B26 sf_k50
          refine pm_R_op pm_M82 (pc_q := 11) (st_q := [.int 1]) rfl rfl rfl ?_
          refine pm_R_br pm_M82 (pc_q := 15) rfl rfl ?_
          refine pm_R_ret pm_M82 (r := some (.int 1)) rfl rfl ?_
          show pm_R _ 121 12 [.ref 16, .int a0, .int a1, .int a2, .int a3] [.int 1] _ _
          refine pm_R_br pm_M121 (pc_q := 15) (st_q := []) rfl rfl ?_
          refine pm_R_lo pm_M121 (pc_q := 16) rfl rfl rfl ?_
          refine pm_R_op pm_M121 (pc_q := 17) (st_q := [.int (-1), .int a2]) rfl rfl rfl ?_
          refine pm_R_icmp pm_M121 (t := 29) (pc_q := 20) rfl rfl rfl (fun c31 => ?_) (fun c31 => ?_)
          · have B32 : sf_B (-1) (-1) a2 := sf_eqL c31 sf_kn1
            refine pm_R_lo pm_M121 (pc_q := 30) rfl rfl rfl ?_
            refine pm_R_lo pm_M121 (pc_q := 31) rfl rfl rfl ?_
            refine pm_R_cv pm_M121 (pc_q := 34) (a := 16) (ra := [.int a0]) (rest := []) (ls_q := [.ref 16, .int a0]) rfl rfl (Or.inl rfl) pm_M122 T.e16 rfl (by decide) (T.lt (by decide)) rfl rfl (Nat.le_of_ble_eq_true rfl) rfl rfl ?_
            have px33 : cl_p37 f1 + h.2.1 ≤ cl_p37 f1 + h.2.1 := Nat.add_le_add_left ((cl_F.refl (ck := ck) (A := [32, 37, 38]) (n := 0) (s := 0) T.1).2.2.2.1) _
            have F46 := (cl_F.refl (ck := ck) (A := [32, 37, 38]) (n := 0) (s := 0) T.1)
            refine cl_c122x (d := d + 4) G T (sf_in B15 (by decide) (by decide)) e18 hx21 hk22 e2 (fun c34 ck h35 lt36 G T37 F38 kc39 nn40 lf41 low42 px47 => ?_)
            obtain ⟨f43, e44, p45⟩ := px47
            have px48 : cl_p37 f43 + h35.2.1 ≤ cl_p37 f1 + h.2.1 := Nat.le_trans p45 px33
            have F49 := F46.ck (fun b hb => (lt36 b hb).symm) F46.2.1
            have F50 := F38.ck (fun b hb => (lt36 b hb).symm) (Nat.le_refl _)
            have gr51 := fun (b : Nat) (hb : b < h.1) => (lt36 b (Nat.lt_of_lt_of_le hb F46.2.1))
            have hk52 := (lt36 _ (T.al hk22 (by decide))).trans hk22
            have F53 := F49.trans (N := 5) (S := 24466) F50 (by decide) (by decide) (by decide)
            have e54 := (low42 19 (by decide) (by decide)).trans e18
            show pm_R _ 121 34 [.ref 16, .int a0, .int a1, .int a2, .int a3] [.ref c34] _ _
            refine pm_R_lo pm_M121 (pc_q := 35) rfl rfl rfl ?_
            refine pm_R_lo pm_M121 (pc_q := 36) rfl rfl rfl ?_
            refine pm_R_lo pm_M121 (pc_q := 37) rfl rfl rfl ?_
            refine pm_R_get pm_M121 (pc_q := 40) (v := .ref 31) rfl rfl T37.e16 (by decide) (T37.lt (by decide)) rfl rfl ?_
            refine pm_R_lo pm_M121 (pc_q := 41) rfl rfl rfl ?_
            refine pm_R_get pm_M121 (pc_q := 44) (v := .ref 38) rfl rfl T37.e16 (by decide) (T37.lt (by decide)) rfl rfl ?_
            obtain ⟨lo55, fi56, av57, ah58, an59, kl60, B61, B62, eS63⟩ := id nn40
            have nn64 : cl_NN ck h35 c34 := ⟨lo55, fi56, av57, ah58, an59, kl60, B61, B62, eS63⟩
            refine pm_R_cv pm_M121 (pc_q := 47) (a := c34) (ra := [.ref 38, .ref 31, .int a2, .int a1]) (rest := []) (ls_q := [.ref c34, .int a1, .int a2, .ref 31, .ref 38, pm_no, pm_no, pm_no]) rfl rfl (Or.inl rfl) pm_M125 eS63 rfl (G.ge kc39 (by decide)) (T37.al kc39 (by decide)) rfl rfl (Nat.le_of_ble_eq_true rfl) rfl rfl ?_
            refine cl_c125 (d := d + 0) G T37 kc39 B30 (sf_weak B32 (by decide) (by decide)) nn64 (fun r65 m67 h68 T69 F70 W71 X72 B66 => ?_)
            have F73 := F53.trans (N := 5) (S := 24466) F70 (by decide) (by decide) (by decide)
            have W74 : rf_W [] m m67 := (rf_W.refl [] m).trans W71 (by decide)
            show pm_R _ 121 47 [.ref 16, .int a0, .int a1, .int a2, .int a3] [.int r65] _ _
            have nn75 := X72 _ kc39 nn64
            refine pm_R_lo pm_M121 (pc_q := 49) rfl rfl rfl ?_
            refine pm_R_cs pm_M121 (pc_q := 52) (ra := [.int a3, .int r65]) (rest := []) (ls_q := [.int r65, .int a3, pm_no]) rfl rfl (Or.inl rfl) pm_M133 rfl rfl (Nat.le_of_ble_eq_true rfl) rfl rfl ?_
            refine pm_R_lo pm_M133 (pc_q := 1) rfl rfl rfl ?_
            refine pm_R_op pm_M133 (pc_q := 2) (st_q := [.int (-1), .int r65]) rfl rfl rfl ?_
            refine pm_R_icmp pm_M133 (t := 9) (pc_q := 5) rfl rfl rfl (fun c76 => ?_) (fun c76 => ?_)
            · have B77 : sf_B (-1) (-1) r65 := sf_eqL c76 sf_kn1
              refine pm_R_op pm_M133 (pc_q := 10) (st_q := [.int (-1)]) rfl rfl rfl ?_
              refine pm_R_ret pm_M133 (r := some (.int (-1))) rfl rfl ?_
              show pm_R _ 121 52 [.ref 16, .int a0, .int a1, .int a2, .int a3] [.int (-1)] _ _
              have e78 := (F70.cell G (by decide) (by decide) e44)
              have px79 : cl_p37 f43 + h68.2.1 ≤ cl_p37 f1 + h.2.1 := by have := px48; have := F70.2.2.2.1; omega
              exact pm_R_ret pm_M121 (r := some (.int (-1))) rfl rfl (K2 (-1) m67 ck h68 gr51 G T69 (F73.ck gr51 (Nat.le_refl _)) W74 (fun f0 ef => by rw [e2] at ef; cases ef; exact ⟨_, e78, px79⟩))
            · have B80 : sf_B 0 11109 r65 := sf_neL0 c76 sf_kn1 B66
              refine pm_R_lo pm_M133 (pc_q := 6) rfl rfl rfl ?_
              refine pm_R_ifc pm_M133 (t := 11) (pc_q := 9) rfl rfl rfl (fun c81 => ?_) (fun c81 => ?_)
              · have B82 : sf_B 0 2147483647 a3 := sf_leR c81 sf_k0 (sf_any a3)
                refine pm_R_lo pm_M133 (pc_q := 12) rfl rfl rfl ?_
                refine pm_R_cs pm_M133 (pc_q := 15) (ra := [.int r65]) (rest := []) (ls_q := [.int r65, pm_no]) rfl rfl (Or.inl rfl) pm_M134 rfl rfl (Nat.le_of_ble_eq_true rfl) rfl rfl ?_
                refine cl_c134 (d := d + 4) G T69 B80 (fun r83 B84 => ?_)
                show pm_R _ 133 15 [.int r65, .int a3, pm_no] [.int r83] _ _
                refine pm_R_lo pm_M133 (pc_q := 16) (ls_q := [.int r65, .int a3, .int r83]) (st_q := []) rfl rfl rfl ?_
                refine pm_R_lo pm_M133 (pc_q := 17) rfl rfl rfl ?_
                refine pm_R_ifc pm_M133 (t := 22) (pc_q := 20) rfl rfl rfl (fun c90 => ?_) (fun c90 => ?_)
                · have B91 : sf_B 1 2147483647 a3 := sf_neL0 c90 sf_k0 B82
                  refine pm_R_lo pm_M133 (pc_q := 23) rfl rfl rfl ?_
                  refine pm_R_lo pm_M133 (pc_q := 24) rfl rfl rfl ?_
                  refine pm_R_icmp pm_M133 (t := 38) (pc_q := 27) rfl rfl rfl (fun c92 => ?_) (fun c92 => ?_)
                  · have B93 : sf_B 2 2147483647 a3 := sf_ltR c92 B84 B91
                    refine pm_R_op pm_M133 (pc_q := 39) (st_q := [.int (-1)]) rfl rfl rfl ?_
                    refine pm_R_ret pm_M133 (r := some (.int (-1))) rfl rfl ?_
                    show pm_R _ 121 52 [.ref 16, .int a0, .int a1, .int a2, .int a3] [.int (-1)] _ _
                    have e94 := (F70.cell G (by decide) (by decide) e44)
                    have px95 : cl_p37 f43 + h68.2.1 ≤ cl_p37 f1 + h.2.1 := by have := px48; have := F70.2.2.2.1; omega
                    exact pm_R_ret pm_M121 (r := some (.int (-1))) rfl rfl (K2 (-1) m67 ck h68 gr51 G T69 (F73.ck gr51 (Nat.le_refl _)) W74 (fun f0 ef => by rw [e2] at ef; cases ef; exact ⟨_, e94, px95⟩))
                  · have B96 : sf_B 1 4 a3 := sf_leL (Int32.not_lt.mp c92) B91 B84
                    refine pm_R_lo pm_M133 (pc_q := 28) rfl rfl rfl ?_
                    refine pm_R_lo pm_M133 (pc_q := 29) rfl rfl rfl ?_
                    refine pm_R_lo pm_M133 (pc_q := 30) rfl rfl rfl ?_
                    refine pm_R_op pm_M133 (pc_q := 31) (st_q := [.int 1, .int a3, .int r83, .int r65]) rfl rfl rfl ?_
                    refine sf_R_isub pm_M133 (pc_q := 32) rfl rfl B96 sf_k1 (by decide) (by decide) (fun z97 e98 B99 => ?_)
                    refine pm_R_cs pm_M133 (pc_q := 35) (ra := [.int z97, .int r83, .int r65]) (rest := []) (ls_q := [.int r65, .int r83, .int z97]) rfl rfl (Or.inl rfl) pm_M132 rfl rfl (Nat.le_of_ble_eq_true rfl) rfl rfl ?_
                    refine pm_R_lo pm_M132 (pc_q := 1) rfl rfl rfl ?_
                    refine pm_R_stat pm_M132 (pc_q := 4) rfl rfl rfl ?_
                    refine pm_R_lo pm_M132 (pc_q := 5) rfl rfl rfl ?_
                    obtain ⟨z100, ez101⟩ : ∃ y, pm_sv6.getD (Int32.toNatClampNeg r83) 0 = y := ⟨_, rfl⟩
                    have B102 : sf_B 0 1110 z100 := ez101 ▸ cl_tab (l := pm_sv6) (a := 0) (b := 1110) B84 (by decide) (by decide)
                    refine pm_R_iald pm_M132 (pc_q := 6) (v := z100) rfl ((T69.old (by decide)).trans G.tb6) (T69.lt (by decide)) (sf_in B84 (by decide) (by decide)) ez101 rfl ?_
                    refine sf_R_isub pm_M132 (pc_q := 7) rfl rfl B80 B102 (by decide) (by decide) (fun z103 e104 B105 => ?_)
                    refine pm_R_stat pm_M132 (pc_q := 10) rfl rfl rfl ?_
                    refine pm_R_lo pm_M132 (pc_q := 11) rfl rfl rfl ?_
                    refine pm_R_op pm_M132 (pc_q := 12) (st_q := [.int 1, .int r83, .ref 5, .int z103]) rfl rfl rfl ?_
                    refine sf_R_isub pm_M132 (pc_q := 13) rfl rfl B84 sf_k1 (by decide) (by decide) (fun z106 e107 B108 => ?_)
                    refine pm_R_lo pm_M132 (pc_q := 14) rfl rfl rfl ?_
                    refine sf_R_isub pm_M132 (pc_q := 15) rfl rfl B108 B99 (by decide) (by decide) (fun z109 e110 B111 => ?_)
                    have B115 : sf_B 0 3 z109 := ⟨(cl_aux22 _ _ _ _ _ e107 e98 e110 (Int32.le_iff_toInt_le.mp (Int32.not_lt.mp c92))), B111.2⟩
                    obtain ⟨z112, ez113⟩ : ∃ y, pm_sv5.getD (Int32.toNatClampNeg z109) 0 = y := ⟨_, rfl⟩
                    have B114 : sf_B 1 1000 z112 := ez113 ▸ cl_tab (l := pm_sv5) (a := 1) (b := 1000) B115 (by decide) (by decide)
                    refine pm_R_iald pm_M132 (pc_q := 16) (v := z112) rfl ((T69.old (by decide)).trans G.tb5) (T69.lt (by decide)) (sf_in B115 (by decide) (by decide)) ez113 rfl ?_
                    refine sf_R_idivA pm_M132 (pc_q := 17) rfl rfl (sf_neq1 B114 sf_k0 (by decide)) (fun z116 => ?_)
                    refine pm_R_op pm_M132 (pc_q := 19) (st_q := [.int 10, .int z116]) rfl rfl rfl ?_
                    refine sf_R_iremA pm_M132 (pc_q := 20) rfl rfl (sf_neq1 sf_k10 sf_k0 (by decide)) (fun z119 => ?_)
                    refine pm_R_ret pm_M132 (r := some (.int z119)) rfl (pm_ret_i _) ?_
                    show pm_R _ 133 35 [.int r65, .int a3, .int r83] [.int z119] _ _
                    refine pm_R_br pm_M133 (pc_q := 39) rfl rfl ?_
                    refine pm_R_ret pm_M133 (r := some (.int z119)) rfl (pm_ret_i _) ?_
                    show pm_R _ 121 52 [.ref 16, .int a0, .int a1, .int a2, .int a3] [.int z119] _ _
                    have e122 := (F70.cell G (by decide) (by decide) e44)
                    have px123 : cl_p37 f43 + h68.2.1 ≤ cl_p37 f1 + h.2.1 := by have := px48; have := F70.2.2.2.1; omega
                    exact pm_R_ret pm_M121 (r := some (.int z119)) rfl (pm_ret_i _) (K2 z119 m67 ck h68 gr51 G T69 (F73.ck gr51 (Nat.le_refl _)) W74 (fun f0 ef => by rw [e2] at ef; cases ef; exact ⟨_, e122, px123⟩))
                · have B124 : sf_B 0 0 a3 := sf_eqL (Classical.not_not.mp c90) sf_k0
                  refine pm_R_lo pm_M133 (pc_q := 21) rfl rfl rfl ?_
                  refine pm_R_ret pm_M133 (r := some (.int r83)) rfl (pm_ret_i _) ?_
                  show pm_R _ 121 52 [.ref 16, .int a0, .int a1, .int a2, .int a3] [.int r83] _ _
                  have e125 := (F70.cell G (by decide) (by decide) e44)
                  have px126 : cl_p37 f43 + h68.2.1 ≤ cl_p37 f1 + h.2.1 := by have := px48; have := F70.2.2.2.1; omega
                  exact pm_R_ret pm_M121 (r := some (.int r83)) rfl (pm_ret_i _) (K2 r83 m67 ck h68 gr51 G T69 (F73.ck gr51 (Nat.le_refl _)) W74 (fun f0 ef => by rw [e2] at ef; cases ef; exact ⟨_, e125, px126⟩))
              · have B127 : sf_B (-2147483648) (-1) a3 := sf_ltL (Int32.not_le.mp c81) (sf_any a3) sf_k0
                refine pm_R_op pm_M133 (pc_q := 10) (st_q := [.int (-1)]) rfl rfl rfl ?_
                refine pm_R_ret pm_M133 (r := some (.int (-1))) rfl rfl ?_
                show pm_R _ 121 52 [.ref 16, .int a0, .int a1, .int a2, .int a3] [.int (-1)] _ _
                have e128 := (F70.cell G (by decide) (by decide) e44)
                have px129 : cl_p37 f43 + h68.2.1 ≤ cl_p37 f1 + h.2.1 := by have := px48; have := F70.2.2.2.1; omega
                exact pm_R_ret pm_M121 (r := some (.int (-1))) rfl rfl (K2 (-1) m67 ck h68 gr51 G T69 (F73.ck gr51 (Nat.le_refl _)) W74 (fun f0 ef => by rw [e2] at ef; cases ef; exact ⟨_, e128, px129⟩))
          · skip
            refine pm_R_lo pm_M121 (pc_q := 21) rfl rfl rfl ?_
            refine pm_R_cs pm_M121 (pc_q := 24) (ra := [.int a2]) (rest := []) (ls_q := [.int a2]) rfl rfl (Or.inl rfl) pm_M110 rfl rfl (Nat.le_of_ble_eq_true rfl) rfl rfl ?_
            refine pm_R_lo pm_M110 (pc_q := 1) rfl rfl rfl ?_
            refine pm_R_ifc pm_M110 (t := 14) (pc_q := 4) rfl rfl rfl (fun c130 => ?_) (fun c130 => ?_)
            · have B131 : sf_B (-2147483648) (-1) a2 := sf_ltL c130 (sf_any a2) sf_k0
              refine pm_R_op pm_M110 (pc_q := 15) (st_q := [.int 0]) rfl rfl rfl ?_
              refine pm_R_ret pm_M110 (r := some (.int 0)) rfl rfl ?_
              show pm_R _ 121 24 [.ref 16, .int a0, .int a1, .int a2, .int a3] [.int 0] _ _
              refine pm_R_br pm_M121 (pc_q := 27) (st_q := []) rfl rfl ?_
              refine pm_R_op pm_M121 (pc_q := 28) (st_q := [.int (-1)]) rfl rfl rfl ?_
              have px132 : cl_p37 f1 + h.2.1 ≤ cl_p37 f1 + h.2.1 := Nat.add_le_add_left ((cl_F.refl (ck := ck) (A := [32, 37, 38]) (n := 0) (s := 0) T.1).2.2.2.1) _
              exact pm_R_ret pm_M121 (r := some (.int (-1))) rfl rfl (K (-1) m h T ((cl_F.refl (ck := ck) (A := [32, 37, 38]) (n := 0) (s := 0) T.1).weak (by decide) (by decide)) (rf_W.refl [] m) (fun f0 ef => by rw [e2] at ef; cases ef; exact ⟨_, e2, px132⟩))
            · have B133 : sf_B 0 2147483647 a2 := sf_leR (Int32.not_lt.mp c130) sf_k0 (sf_any a2)
              refine pm_R_lo pm_M110 (pc_q := 5) rfl rfl rfl ?_
              refine pm_R_op pm_M110 (pc_q := 7) (st_q := [.int 9, .int a2]) rfl rfl rfl ?_
              refine pm_R_icmp pm_M110 (t := 14) (pc_q := 10) rfl rfl rfl (fun c134 => ?_) (fun c134 => ?_)
              · have B135 : sf_B 10 2147483647 a2 := sf_ltR c134 sf_k9 B133
                refine pm_R_op pm_M110 (pc_q := 15) (st_q := [.int 0]) rfl rfl rfl ?_
                refine pm_R_ret pm_M110 (r := some (.int 0)) rfl rfl ?_
                show pm_R _ 121 24 [.ref 16, .int a0, .int a1, .int a2, .int a3] [.int 0] _ _
                refine pm_R_br pm_M121 (pc_q := 27) (st_q := []) rfl rfl ?_
                refine pm_R_op pm_M121 (pc_q := 28) (st_q := [.int (-1)]) rfl rfl rfl ?_
                have px136 : cl_p37 f1 + h.2.1 ≤ cl_p37 f1 + h.2.1 := Nat.add_le_add_left ((cl_F.refl (ck := ck) (A := [32, 37, 38]) (n := 0) (s := 0) T.1).2.2.2.1) _
                exact pm_R_ret pm_M121 (r := some (.int (-1))) rfl rfl (K (-1) m h T ((cl_F.refl (ck := ck) (A := [32, 37, 38]) (n := 0) (s := 0) T.1).weak (by decide) (by decide)) (rf_W.refl [] m) (fun f0 ef => by rw [e2] at ef; cases ef; exact ⟨_, e2, px136⟩))
              · have B137 : sf_B 0 9 a2 := sf_leL (Int32.not_lt.mp c134) B133 sf_k9
                refine pm_R_op pm_M110 (pc_q := 11) (st_q := [.int 1]) rfl rfl rfl ?_
                refine pm_R_br pm_M110 (pc_q := 15) rfl rfl ?_
                refine pm_R_ret pm_M110 (r := some (.int 1)) rfl rfl ?_
                show pm_R _ 121 24 [.ref 16, .int a0, .int a1, .int a2, .int a3] [.int 1] _ _
                refine pm_R_br pm_M121 (pc_q := 29) (st_q := []) rfl rfl ?_
                refine pm_R_lo pm_M121 (pc_q := 30) rfl rfl rfl ?_
                refine pm_R_lo pm_M121 (pc_q := 31) rfl rfl rfl ?_
                refine pm_R_cv pm_M121 (pc_q := 34) (a := 16) (ra := [.int a0]) (rest := []) (ls_q := [.ref 16, .int a0]) rfl rfl (Or.inl rfl) pm_M122 T.e16 rfl (by decide) (T.lt (by decide)) rfl rfl (Nat.le_of_ble_eq_true rfl) rfl rfl ?_
                have px138 : cl_p37 f1 + h.2.1 ≤ cl_p37 f1 + h.2.1 := Nat.add_le_add_left ((cl_F.refl (ck := ck) (A := [32, 37, 38]) (n := 0) (s := 0) T.1).2.2.2.1) _
                have F151 := (cl_F.refl (ck := ck) (A := [32, 37, 38]) (n := 0) (s := 0) T.1)
                refine cl_c122x (d := d + 4) G T (sf_in B15 (by decide) (by decide)) e18 hx21 hk22 e2 (fun c139 ck h140 lt141 G T142 F143 kc144 nn145 lf146 low147 px152 => ?_)
                obtain ⟨f148, e149, p150⟩ := px152
                have px153 : cl_p37 f148 + h140.2.1 ≤ cl_p37 f1 + h.2.1 := Nat.le_trans p150 px138
                have F154 := F151.ck (fun b hb => (lt141 b hb).symm) F151.2.1
                have F155 := F143.ck (fun b hb => (lt141 b hb).symm) (Nat.le_refl _)
                have gr156 := fun (b : Nat) (hb : b < h.1) => (lt141 b (Nat.lt_of_lt_of_le hb F151.2.1))
                have hk157 := (lt141 _ (T.al hk22 (by decide))).trans hk22
                have F158 := F154.trans (N := 5) (S := 24466) F155 (by decide) (by decide) (by decide)
                have e159 := (low147 19 (by decide) (by decide)).trans e18
                show pm_R _ 121 34 [.ref 16, .int a0, .int a1, .int a2, .int a3] [.ref c139] _ _
                refine pm_R_lo pm_M121 (pc_q := 35) rfl rfl rfl ?_
                refine pm_R_lo pm_M121 (pc_q := 36) rfl rfl rfl ?_
                refine pm_R_lo pm_M121 (pc_q := 37) rfl rfl rfl ?_
                refine pm_R_get pm_M121 (pc_q := 40) (v := .ref 31) rfl rfl T142.e16 (by decide) (T142.lt (by decide)) rfl rfl ?_
                refine pm_R_lo pm_M121 (pc_q := 41) rfl rfl rfl ?_
                refine pm_R_get pm_M121 (pc_q := 44) (v := .ref 38) rfl rfl T142.e16 (by decide) (T142.lt (by decide)) rfl rfl ?_
                obtain ⟨lo160, fi161, av162, ah163, an164, kl165, B166, B167, eS168⟩ := id nn145
                have nn169 : cl_NN ck h140 c139 := ⟨lo160, fi161, av162, ah163, an164, kl165, B166, B167, eS168⟩
                refine pm_R_cv pm_M121 (pc_q := 47) (a := c139) (ra := [.ref 38, .ref 31, .int a2, .int a1]) (rest := []) (ls_q := [.ref c139, .int a1, .int a2, .ref 31, .ref 38, pm_no, pm_no, pm_no]) rfl rfl (Or.inl rfl) pm_M125 eS168 rfl (G.ge kc144 (by decide)) (T142.al kc144 (by decide)) rfl rfl (Nat.le_of_ble_eq_true rfl) rfl rfl ?_
                refine cl_c125 (d := d + 0) G T142 kc144 B30 (sf_weak B137 (by decide) (by decide)) nn169 (fun r170 m172 h173 T174 F175 W176 X177 B171 => ?_)
                have F178 := F158.trans (N := 5) (S := 24466) F175 (by decide) (by decide) (by decide)
                have W179 : rf_W [] m m172 := (rf_W.refl [] m).trans W176 (by decide)
                show pm_R _ 121 47 [.ref 16, .int a0, .int a1, .int a2, .int a3] [.int r170] _ _
                have nn180 := X177 _ kc144 nn169
                refine pm_R_lo pm_M121 (pc_q := 49) rfl rfl rfl ?_
                refine pm_R_cs pm_M121 (pc_q := 52) (ra := [.int a3, .int r170]) (rest := []) (ls_q := [.int r170, .int a3, pm_no]) rfl rfl (Or.inl rfl) pm_M133 rfl rfl (Nat.le_of_ble_eq_true rfl) rfl rfl ?_
                refine pm_R_lo pm_M133 (pc_q := 1) rfl rfl rfl ?_
                refine pm_R_op pm_M133 (pc_q := 2) (st_q := [.int (-1), .int r170]) rfl rfl rfl ?_
                refine pm_R_icmp pm_M133 (t := 9) (pc_q := 5) rfl rfl rfl (fun c181 => ?_) (fun c181 => ?_)
                · have B182 : sf_B (-1) (-1) r170 := sf_eqL c181 sf_kn1
                  refine pm_R_op pm_M133 (pc_q := 10) (st_q := [.int (-1)]) rfl rfl rfl ?_
                  refine pm_R_ret pm_M133 (r := some (.int (-1))) rfl rfl ?_
                  show pm_R _ 121 52 [.ref 16, .int a0, .int a1, .int a2, .int a3] [.int (-1)] _ _
                  have e183 := (F175.cell G (by decide) (by decide) e149)
                  have px184 : cl_p37 f148 + h173.2.1 ≤ cl_p37 f1 + h.2.1 := by have := px153; have := F175.2.2.2.1; omega
                  exact pm_R_ret pm_M121 (r := some (.int (-1))) rfl rfl (K2 (-1) m172 ck h173 gr156 G T174 (F178.ck gr156 (Nat.le_refl _)) W179 (fun f0 ef => by rw [e2] at ef; cases ef; exact ⟨_, e183, px184⟩))
                · have B185 : sf_B 0 11109 r170 := sf_neL0 c181 sf_kn1 B171
                  refine pm_R_lo pm_M133 (pc_q := 6) rfl rfl rfl ?_
                  refine pm_R_ifc pm_M133 (t := 11) (pc_q := 9) rfl rfl rfl (fun c186 => ?_) (fun c186 => ?_)
                  · have B187 : sf_B 0 2147483647 a3 := sf_leR c186 sf_k0 (sf_any a3)
                    refine pm_R_lo pm_M133 (pc_q := 12) rfl rfl rfl ?_
                    refine pm_R_cs pm_M133 (pc_q := 15) (ra := [.int r170]) (rest := []) (ls_q := [.int r170, pm_no]) rfl rfl (Or.inl rfl) pm_M134 rfl rfl (Nat.le_of_ble_eq_true rfl) rfl rfl ?_
                    refine cl_c134 (d := d + 4) G T174 B185 (fun r188 B189 => ?_)
                    show pm_R _ 133 15 [.int r170, .int a3, pm_no] [.int r188] _ _
                    refine pm_R_lo pm_M133 (pc_q := 16) (ls_q := [.int r170, .int a3, .int r188]) (st_q := []) rfl rfl rfl ?_
                    refine pm_R_lo pm_M133 (pc_q := 17) rfl rfl rfl ?_
                    refine pm_R_ifc pm_M133 (t := 22) (pc_q := 20) rfl rfl rfl (fun c195 => ?_) (fun c195 => ?_)
                    · have B196 : sf_B 1 2147483647 a3 := sf_neL0 c195 sf_k0 B187
                      refine pm_R_lo pm_M133 (pc_q := 23) rfl rfl rfl ?_
                      refine pm_R_lo pm_M133 (pc_q := 24) rfl rfl rfl ?_
                      refine pm_R_icmp pm_M133 (t := 38) (pc_q := 27) rfl rfl rfl (fun c197 => ?_) (fun c197 => ?_)
                      · have B198 : sf_B 2 2147483647 a3 := sf_ltR c197 B189 B196
                        refine pm_R_op pm_M133 (pc_q := 39) (st_q := [.int (-1)]) rfl rfl rfl ?_
                        refine pm_R_ret pm_M133 (r := some (.int (-1))) rfl rfl ?_
                        show pm_R _ 121 52 [.ref 16, .int a0, .int a1, .int a2, .int a3] [.int (-1)] _ _
                        have e199 := (F175.cell G (by decide) (by decide) e149)
                        have px200 : cl_p37 f148 + h173.2.1 ≤ cl_p37 f1 + h.2.1 := by have := px153; have := F175.2.2.2.1; omega
                        exact pm_R_ret pm_M121 (r := some (.int (-1))) rfl rfl (K2 (-1) m172 ck h173 gr156 G T174 (F178.ck gr156 (Nat.le_refl _)) W179 (fun f0 ef => by rw [e2] at ef; cases ef; exact ⟨_, e199, px200⟩))
                      · have B201 : sf_B 1 4 a3 := sf_leL (Int32.not_lt.mp c197) B196 B189
                        refine pm_R_lo pm_M133 (pc_q := 28) rfl rfl rfl ?_
                        refine pm_R_lo pm_M133 (pc_q := 29) rfl rfl rfl ?_
                        refine pm_R_lo pm_M133 (pc_q := 30) rfl rfl rfl ?_
                        refine pm_R_op pm_M133 (pc_q := 31) (st_q := [.int 1, .int a3, .int r188, .int r170]) rfl rfl rfl ?_
                        refine sf_R_isub pm_M133 (pc_q := 32) rfl rfl B201 sf_k1 (by decide) (by decide) (fun z202 e203 B204 => ?_)
                        refine pm_R_cs pm_M133 (pc_q := 35) (ra := [.int z202, .int r188, .int r170]) (rest := []) (ls_q := [.int r170, .int r188, .int z202]) rfl rfl (Or.inl rfl) pm_M132 rfl rfl (Nat.le_of_ble_eq_true rfl) rfl rfl ?_
                        refine pm_R_lo pm_M132 (pc_q := 1) rfl rfl rfl ?_
                        refine pm_R_stat pm_M132 (pc_q := 4) rfl rfl rfl ?_
                        refine pm_R_lo pm_M132 (pc_q := 5) rfl rfl rfl ?_
                        obtain ⟨z205, ez206⟩ : ∃ y, pm_sv6.getD (Int32.toNatClampNeg r188) 0 = y := ⟨_, rfl⟩
                        have B207 : sf_B 0 1110 z205 := ez206 ▸ cl_tab (l := pm_sv6) (a := 0) (b := 1110) B189 (by decide) (by decide)
                        refine pm_R_iald pm_M132 (pc_q := 6) (v := z205) rfl ((T174.old (by decide)).trans G.tb6) (T174.lt (by decide)) (sf_in B189 (by decide) (by decide)) ez206 rfl ?_
                        refine sf_R_isub pm_M132 (pc_q := 7) rfl rfl B185 B207 (by decide) (by decide) (fun z208 e209 B210 => ?_)
                        refine pm_R_stat pm_M132 (pc_q := 10) rfl rfl rfl ?_
                        refine pm_R_lo pm_M132 (pc_q := 11) rfl rfl rfl ?_
                        refine pm_R_op pm_M132 (pc_q := 12) (st_q := [.int 1, .int r188, .ref 5, .int z208]) rfl rfl rfl ?_
                        refine sf_R_isub pm_M132 (pc_q := 13) rfl rfl B189 sf_k1 (by decide) (by decide) (fun z211 e212 B213 => ?_)
                        refine pm_R_lo pm_M132 (pc_q := 14) rfl rfl rfl ?_
                        refine sf_R_isub pm_M132 (pc_q := 15) rfl rfl B213 B204 (by decide) (by decide) (fun z214 e215 B216 => ?_)
                        have B220 : sf_B 0 3 z214 := ⟨(cl_aux22 _ _ _ _ _ e212 e203 e215 (Int32.le_iff_toInt_le.mp (Int32.not_lt.mp c197))), B216.2⟩
                        obtain ⟨z217, ez218⟩ : ∃ y, pm_sv5.getD (Int32.toNatClampNeg z214) 0 = y := ⟨_, rfl⟩
                        have B219 : sf_B 1 1000 z217 := ez218 ▸ cl_tab (l := pm_sv5) (a := 1) (b := 1000) B220 (by decide) (by decide)
                        refine pm_R_iald pm_M132 (pc_q := 16) (v := z217) rfl ((T174.old (by decide)).trans G.tb5) (T174.lt (by decide)) (sf_in B220 (by decide) (by decide)) ez218 rfl ?_
                        refine sf_R_idivA pm_M132 (pc_q := 17) rfl rfl (sf_neq1 B219 sf_k0 (by decide)) (fun z221 => ?_)
                        refine pm_R_op pm_M132 (pc_q := 19) (st_q := [.int 10, .int z221]) rfl rfl rfl ?_
                        refine sf_R_iremA pm_M132 (pc_q := 20) rfl rfl (sf_neq1 sf_k10 sf_k0 (by decide)) (fun z224 => ?_)
                        refine pm_R_ret pm_M132 (r := some (.int z224)) rfl (pm_ret_i _) ?_
                        show pm_R _ 133 35 [.int r170, .int a3, .int r188] [.int z224] _ _
                        refine pm_R_br pm_M133 (pc_q := 39) rfl rfl ?_
                        refine pm_R_ret pm_M133 (r := some (.int z224)) rfl (pm_ret_i _) ?_
                        show pm_R _ 121 52 [.ref 16, .int a0, .int a1, .int a2, .int a3] [.int z224] _ _
                        have e227 := (F175.cell G (by decide) (by decide) e149)
                        have px228 : cl_p37 f148 + h173.2.1 ≤ cl_p37 f1 + h.2.1 := by have := px153; have := F175.2.2.2.1; omega
                        exact pm_R_ret pm_M121 (r := some (.int z224)) rfl (pm_ret_i _) (K2 z224 m172 ck h173 gr156 G T174 (F178.ck gr156 (Nat.le_refl _)) W179 (fun f0 ef => by rw [e2] at ef; cases ef; exact ⟨_, e227, px228⟩))
                    · have B229 : sf_B 0 0 a3 := sf_eqL (Classical.not_not.mp c195) sf_k0
                      refine pm_R_lo pm_M133 (pc_q := 21) rfl rfl rfl ?_
                      refine pm_R_ret pm_M133 (r := some (.int r188)) rfl (pm_ret_i _) ?_
                      show pm_R _ 121 52 [.ref 16, .int a0, .int a1, .int a2, .int a3] [.int r188] _ _
                      have e230 := (F175.cell G (by decide) (by decide) e149)
                      have px231 : cl_p37 f148 + h173.2.1 ≤ cl_p37 f1 + h.2.1 := by have := px153; have := F175.2.2.2.1; omega
                      exact pm_R_ret pm_M121 (r := some (.int r188)) rfl (pm_ret_i _) (K2 r188 m172 ck h173 gr156 G T174 (F178.ck gr156 (Nat.le_refl _)) W179 (fun f0 ef => by rw [e2] at ef; cases ef; exact ⟨_, e230, px231⟩))
                  · have B232 : sf_B (-2147483648) (-1) a3 := sf_ltL (Int32.not_le.mp c186) (sf_any a3) sf_k0
                    refine pm_R_op pm_M133 (pc_q := 10) (st_q := [.int (-1)]) rfl rfl rfl ?_
                    refine pm_R_ret pm_M133 (r := some (.int (-1))) rfl rfl ?_
                    show pm_R _ 121 52 [.ref 16, .int a0, .int a1, .int a2, .int a3] [.int (-1)] _ _
                    have e233 := (F175.cell G (by decide) (by decide) e149)
                    have px234 : cl_p37 f148 + h173.2.1 ≤ cl_p37 f1 + h.2.1 := by have := px153; have := F175.2.2.2.1; omega
                    exact pm_R_ret pm_M121 (r := some (.int (-1))) rfl rfl (K2 (-1) m172 ck h173 gr156 G T174 (F178.ck gr156 (Nat.le_refl _)) W179 (fun f0 ef => by rw [e2] at ef; cases ef; exact ⟨_, e233, px234⟩))
    · skip
      refine pm_R_op pm_M62 (pc_q := 18) (st_q := [.null]) rfl rfl rfl ?_
      refine pm_R_br pm_M62 (pc_q := 30) rfl rfl ?_
      refine pm_R_ret pm_M62 (r := some (.null)) rfl rfl ?_
      show pm_R _ 121 5 [.ref 16, .int a0, .int a1, .int a2, .int a3] [.null] _ _
      refine pm_R_br pm_M121 (pc_q := 27) rfl rfl ?_
      refine pm_R_op pm_M121 (pc_q := 28) (st_q := [.int (-1)]) rfl rfl rfl ?_
      have px235 : cl_p37 f1 + h.2.1 ≤ cl_p37 f1 + h.2.1 := Nat.add_le_add_left ((cl_F.refl (ck := ck) (A := [32, 37, 38]) (n := 0) (s := 0) T.1).2.2.2.1) _
      exact pm_R_ret pm_M121 (r := some (.int (-1))) rfl rfl (K (-1) m h T ((cl_F.refl (ck := ck) (A := [32, 37, 38]) (n := 0) (s := 0) T.1).weak (by decide) (by decide)) (rf_W.refl [] m) (fun f0 ef => by rw [e2] at ef; cases ef; exact ⟨_, e2, px235⟩))

set_option maxRecDepth 100000 in
set_option maxHeartbeats 4000000 in
/-- SilentTable.apart -/
theorem cl_c135_x {d : Nat} {ck : cl_K} {E : Nat → pm_E} {m : Nat → Int32} {o : Nat → Option Nat} {h : pm_H} {Q : Option Value → pm_H → Prop} {a0 : Int32} {a1 : Int32} {a2 : Int32} (G : cl_G ck E) (T : cl_T ck E m o h)  (K : ∀ (r : Int32) (m_q : Nat → Int32) (h_q : pm_H), cl_T ck E m_q o h_q → cl_F ck [37] 10 48932 h h_q → rf_W [] m m_q → (∀ f0 : Nat → Option Nat, h.2.2 37 = .inl (9, 2, .inr (.inr (.inr (.inr f0)))) → ∃ f1 : Nat → Option Nat, h_q.2.2 37 = .inl (9, 2, .inr (.inr (.inr (.inr f1)))) ∧ cl_p37 f1 + h_q.2.1 ≤ cl_p37 f0 + h.2.1) → Q (some (.int r)) h_q) (K2 : ∀ (r : Int32) (m_q : Nat → Int32) (ck_q : cl_K) (h_q : pm_H), (∀ b, b < h.1 → ck_q b = ck b) → cl_G ck_q E → cl_T ck_q E m_q o h_q → cl_F ck [37] 10 48932 h h_q → rf_W [] m m_q → (∀ f0 : Nat → Option Nat, h.2.2 37 = .inl (9, 2, .inr (.inr (.inr (.inr f0)))) → ∃ f1 : Nat → Option Nat, h_q.2.2 37 = .inl (9, 2, .inr (.inr (.inr (.inr f1)))) ∧ cl_p37 f1 + h_q.2.1 ≤ cl_p37 f0 + h.2.1) → Q (some (.int r)) h_q) : pm_R (d + 6) 135 0 [.ref 16, .int a0, .int a1, .int a2] [] h Q := by
  obtain ⟨f1, e2, b3⟩ := T.C 37 (by decide) (by decide)
  refine pm_R_lo pm_M135 (pc_q := 1) rfl rfl rfl ?_
  refine pm_R_lo pm_M135 (pc_q := 2) rfl rfl rfl ?_
  refine pm_R_cv pm_M135 (pc_q := 5) (a := 16) (ra := [.int a0]) (rest := []) (ls_q := [.ref 16, .int a0]) rfl rfl (Or.inl rfl) pm_M62 T.e16 rfl (by decide) (T.lt (by decide)) rfl rfl (Nat.le_of_ble_eq_true rfl) rfl rfl ?_
  refine pm_R_lo pm_M62 (pc_q := 1) rfl rfl rfl ?_
  refine pm_R_ifc pm_M62 (t := 17) (pc_q := 4) rfl rfl rfl (fun c4 => ?_) (fun c4 => ?_)
  · have B5 : sf_B (-2147483648) (-1) a0 := sf_ltL c4 (sf_any a0) sf_k0
    refine pm_R_op pm_M62 (pc_q := 18) (st_q := [.null]) rfl rfl rfl ?_
    refine pm_R_br pm_M62 (pc_q := 30) rfl rfl ?_
    refine pm_R_ret pm_M62 (r := some (.null)) rfl rfl ?_
    show pm_R _ 135 5 [.ref 16, .int a0, .int a1, .int a2] [.null] _ _
    refine pm_R_br pm_M135 (pc_q := 16) rfl rfl ?_
    refine pm_R_op pm_M135 (pc_q := 17) (st_q := [.int (-1)]) rfl rfl rfl ?_
    have px6 : cl_p37 f1 + h.2.1 ≤ cl_p37 f1 + h.2.1 := Nat.add_le_add_left ((cl_F.refl (ck := ck) (A := [37]) (n := 0) (s := 0) T.1).2.2.2.1) _
    exact pm_R_ret pm_M135 (r := some (.int (-1))) rfl rfl (K (-1) m h T ((cl_F.refl (ck := ck) (A := [37]) (n := 0) (s := 0) T.1).weak (by decide) (by decide)) (rf_W.refl [] m) (fun f0 ef => by rw [e2] at ef; cases ef; exact ⟨_, e2, px6⟩))
  · have B7 : sf_B 0 2147483647 a0 := sf_leR (Int32.not_lt.mp c4) sf_k0 (sf_any a0)
    refine pm_R_lo pm_M62 (pc_q := 5) rfl rfl rfl ?_
    refine pm_R_lo pm_M62 (pc_q := 6) rfl rfl rfl ?_
    refine pm_R_get pm_M62 (pc_q := 9) (v := .ref 17) rfl rfl T.e16 (by decide) (T.lt (by decide)) rfl rfl ?_
    refine pm_R_get pm_M62 (pc_q := 12) (v := .ref 23) rfl rfl T.e17 (by decide) (T.lt (by decide)) rfl rfl ?_
    refine pm_R_op pm_M62 (pc_q := 13) (st_q := [.int 0, .ref 23, .int a0]) rfl rfl rfl ?_
    obtain ⟨f11, e12, b13⟩ := T.C 23 (by decide) (by decide)
    obtain ⟨z8, ez9⟩ : ∃ y, f11 (Int32.toNatClampNeg 0) = y := ⟨_, rfl⟩
    have B10 : sf_B 0 2 z8 := ez9 ▸ (b13 0)
    refine pm_R_iald pm_M62 (pc_q := 14) (v := z8) rfl e12 (T.lt (by decide)) rfl ez9 rfl ?_
    refine pm_R_icmp pm_M62 (t := 21) (pc_q := 17) rfl rfl rfl (fun c14 => ?_) (fun c14 => ?_)
    · have B15 : sf_B 0 1 a0 := sf_ltL c14 B7 B10
      have B16 : sf_B 1 2 z8 := sf_ltR c14 B7 B10
      refine pm_R_lo pm_M62 (pc_q := 22) rfl rfl rfl ?_
      refine pm_R_get pm_M62 (pc_q := 25) (v := .ref 17) rfl rfl T.e16 (by decide) (T.lt (by decide)) rfl rfl ?_
      refine pm_R_get pm_M62 (pc_q := 28) (v := .ref 19) rfl rfl T.e17 (by decide) (T.lt (by decide)) rfl rfl ?_
      refine pm_R_lo pm_M62 (pc_q := 29) rfl rfl rfl ?_
      obtain ⟨f17, e18, b19⟩ := T.C 19 (by decide) (by decide)
      obtain ⟨l20, hx21⟩ := cl_there0 T e12 e18 ez9 c14 B15 (by decide)
      have hk22 := b19 _ _ hx21
      refine pm_R_aald pm_M62 (pc_q := 30) (v := .ref l20) rfl e18 (by decide) (by decide) (by decide) (T.lt (by decide)) (sf_in B15 (by decide) (by decide)) (by rw [hx21]; rfl) rfl ?_
      refine pm_R_ret pm_M62 (r := some (.ref l20)) rfl rfl ?_
      show pm_R _ 135 5 [.ref 16, .int a0, .int a1, .int a2] [.ref l20] _ _
      refine pm_R_br pm_M135 (pc_q := 8) rfl rfl ?_
      refine pm_R_lo pm_M135 (pc_q := 9) rfl rfl rfl ?_
      refine pm_R_lo pm_M135 (pc_q := 10) rfl rfl rfl ?_
      refine pm_R_cv pm_M135 (pc_q := 13) (a := 16) (ra := [.int a1]) (rest := []) (ls_q := [.ref 16, .int a1]) rfl rfl (Or.inl rfl) pm_M62 T.e16 rfl (by decide) (T.lt (by decide)) rfl rfl (Nat.le_of_ble_eq_true rfl) rfl rfl ?_
      refine pm_R_lo pm_M62 (pc_q := 1) rfl rfl rfl ?_
      refine pm_R_ifc pm_M62 (t := 17) (pc_q := 4) rfl rfl rfl (fun c23 => ?_) (fun c23 => ?_)
      · have B24 : sf_B (-2147483648) (-1) a1 := sf_ltL c23 (sf_any a1) sf_k0
        refine pm_R_op pm_M62 (pc_q := 18) (st_q := [.null]) rfl rfl rfl ?_
        refine pm_R_br pm_M62 (pc_q := 30) rfl rfl ?_
        refine pm_R_ret pm_M62 (r := some (.null)) rfl rfl ?_
        show pm_R _ 135 13 [.ref 16, .int a0, .int a1, .int a2] [.null] _ _
        refine pm_R_br pm_M135 (pc_q := 16) rfl rfl ?_
        refine pm_R_op pm_M135 (pc_q := 17) (st_q := [.int (-1)]) rfl rfl rfl ?_
        have px25 : cl_p37 f1 + h.2.1 ≤ cl_p37 f1 + h.2.1 := Nat.add_le_add_left ((cl_F.refl (ck := ck) (A := [37]) (n := 0) (s := 0) T.1).2.2.2.1) _
        exact pm_R_ret pm_M135 (r := some (.int (-1))) rfl rfl (K (-1) m h T ((cl_F.refl (ck := ck) (A := [37]) (n := 0) (s := 0) T.1).weak (by decide) (by decide)) (rf_W.refl [] m) (fun f0 ef => by rw [e2] at ef; cases ef; exact ⟨_, e2, px25⟩))
      · have B26 : sf_B 0 2147483647 a1 := sf_leR (Int32.not_lt.mp c23) sf_k0 (sf_any a1)
        refine pm_R_lo pm_M62 (pc_q := 5) rfl rfl rfl ?_
        refine pm_R_lo pm_M62 (pc_q := 6) rfl rfl rfl ?_
        refine pm_R_get pm_M62 (pc_q := 9) (v := .ref 17) rfl rfl T.e16 (by decide) (T.lt (by decide)) rfl rfl ?_
        refine pm_R_get pm_M62 (pc_q := 12) (v := .ref 23) rfl rfl T.e17 (by decide) (T.lt (by decide)) rfl rfl ?_
        refine pm_R_op pm_M62 (pc_q := 13) (st_q := [.int 0, .ref 23, .int a1]) rfl rfl rfl ?_
        refine pm_R_iald pm_M62 (pc_q := 14) (v := z8) rfl e12 (T.lt (by decide)) rfl ez9 rfl ?_
        refine pm_R_icmp pm_M62 (t := 21) (pc_q := 17) rfl rfl rfl (fun c30 => ?_) (fun c30 => ?_)
        · have B31 : sf_B 0 1 a1 := sf_ltL c30 B26 B16
          refine pm_R_lo pm_M62 (pc_q := 22) rfl rfl rfl ?_
          refine pm_R_get pm_M62 (pc_q := 25) (v := .ref 17) rfl rfl T.e16 (by decide) (T.lt (by decide)) rfl rfl ?_
          refine pm_R_get pm_M62 (pc_q := 28) (v := .ref 19) rfl rfl T.e17 (by decide) (T.lt (by decide)) rfl rfl ?_
          refine pm_R_lo pm_M62 (pc_q := 29) rfl rfl rfl ?_
          obtain ⟨l32, hx33⟩ := cl_there0 T e12 e18 ez9 c30 B31 (by decide)
          have hk34 := b19 _ _ hx33
          refine pm_R_aald pm_M62 (pc_q := 30) (v := .ref l32) rfl e18 (by decide) (by decide) (by decide) (T.lt (by decide)) (sf_in B31 (by decide) (by decide)) (by rw [hx33]; rfl) rfl ?_
          refine pm_R_ret pm_M62 (r := some (.ref l32)) rfl rfl ?_
          show pm_R _ 135 13 [.ref 16, .int a0, .int a1, .int a2] [.ref l32] _ _
          refine pm_R_br pm_M135 (pc_q := 18) rfl rfl ?_
          refine pm_R_lo pm_M135 (pc_q := 19) rfl rfl rfl ?_
          refine pm_R_lo pm_M135 (pc_q := 20) rfl rfl rfl ?_
          refine pm_R_cv pm_M135 (pc_q := 23) (a := 16) (ra := [.int a0]) (rest := []) (ls_q := [.ref 16, .int a0]) rfl rfl (Or.inl rfl) pm_M122 T.e16 rfl (by decide) (T.lt (by decide)) rfl rfl (Nat.le_of_ble_eq_true rfl) rfl rfl ?_
          have px35 : cl_p37 f1 + h.2.1 ≤ cl_p37 f1 + h.2.1 := Nat.add_le_add_left ((cl_F.refl (ck := ck) (A := [37]) (n := 0) (s := 0) T.1).2.2.2.1) _
          have F48 := (cl_F.refl (ck := ck) (A := [37]) (n := 0) (s := 0) T.1)
          refine cl_c122x (d := d + 4) G T (sf_in B15 (by decide) (by decide)) e18 hx21 hk22 e2 (fun c36 ck h37 lt38 G T39 F40 kc41 nn42 lf43 low44 px49 => ?_)
          obtain ⟨f45, e46, p47⟩ := px49
          have px50 : cl_p37 f45 + h37.2.1 ≤ cl_p37 f1 + h.2.1 := Nat.le_trans p47 px35
          have F51 := F48.ck (fun b hb => (lt38 b hb).symm) F48.2.1
          have F52 := F40.ck (fun b hb => (lt38 b hb).symm) (Nat.le_refl _)
          have gr53 := fun (b : Nat) (hb : b < h.1) => (lt38 b (Nat.lt_of_lt_of_le hb F48.2.1))
          have hk54 := (lt38 _ (T.al hk22 (by decide))).trans hk22
          have hk55 := (lt38 _ (T.al hk34 (by decide))).trans hk34
          have F56 := F51.trans (N := 5) (S := 24466) F52 (by decide) (by decide) (by decide)
          have e57 := (low44 19 (by decide) (by decide)).trans e18
          show pm_R _ 135 23 [.ref 16, .int a0, .int a1, .int a2] [.ref c36] _ _
          refine pm_R_lo pm_M135 (pc_q := 24) rfl rfl rfl ?_
          refine pm_R_lo pm_M135 (pc_q := 25) rfl rfl rfl ?_
          refine pm_R_cv pm_M135 (pc_q := 28) (a := 16) (ra := [.int a1]) (rest := [.ref c36]) (ls_q := [.ref 16, .int a1]) rfl rfl (Or.inl rfl) pm_M122 T39.e16 rfl (by decide) (T39.lt (by decide)) rfl rfl (Nat.le_of_ble_eq_true rfl) rfl rfl ?_
          have px58 : cl_p37 f45 + h37.2.1 ≤ cl_p37 f1 + h.2.1 := by have := px50; omega
          have F71 := F56
          refine cl_c122x (d := d + 4) G T39 (sf_in B31 (by decide) (by decide)) e57 hx33 hk55 e46 (fun c59 ck h60 lt61 G T62 F63 kc64 nn65 lf66 low67 px72 => ?_)
          obtain ⟨f68, e69, p70⟩ := px72
          have px73 : cl_p37 f68 + h60.2.1 ≤ cl_p37 f1 + h.2.1 := Nat.le_trans p70 px58
          have F74 := F71.ck (fun b hb => (lt61 b hb).symm) F71.2.1
          have F75 := F63.ck (fun b hb => (lt61 b hb).symm) (Nat.le_refl _)
          have gr76 := fun (b : Nat) (hb : b < h.1) => (lt61 b (Nat.lt_of_lt_of_le hb F71.2.1)).trans (gr53 b hb)
          have hk77 := (lt61 _ (T39.al kc41 (by decide))).trans kc41
          have nn78 := lf66 _ kc41 nn42
          have hk79 := (lt61 _ (T39.al hk54 (by decide))).trans hk54
          have hk80 := (lt61 _ (T39.al hk55 (by decide))).trans hk55
          have F81 := F74.trans (N := 10) (S := 48932) F75 (by decide) (by decide) (by decide)
          have e82 := (low67 19 (by decide) (by decide)).trans e57
          show pm_R _ 135 28 [.ref 16, .int a0, .int a1, .int a2] [.ref c59, .ref c36] _ _
          obtain ⟨lo83, fi84, av85, ah86, an87, kl88, B89, B90, eS91⟩ := id nn78
          have nn92 : cl_NN ck h60 c36 := ⟨lo83, fi84, av85, ah86, an87, kl88, B89, B90, eS91⟩
          refine pm_R_cv pm_M135 (pc_q := 31) (a := c36) (ra := [.ref c59]) (rest := []) (ls_q := [.ref c36, .ref c59, pm_no, pm_no, pm_no]) rfl rfl (Or.inl rfl) pm_M136 eS91 rfl (G.ge hk77 (by decide)) (T62.al hk77 (by decide)) rfl rfl (Nat.le_of_ble_eq_true rfl) rfl rfl ?_
          refine cl_c136 (d := d + 0) G T62 hk77 kc64 nn92 nn65 (fun r93 m95 h96 T97 F98 W99 X100 B94 => ?_)
          have F101 := F81.trans (N := 10) (S := 48932) F98 (by decide) (by decide) (by decide)
          have W102 : rf_W [] m m95 := (rf_W.refl [] m).trans W99 (by decide)
          show pm_R _ 135 31 [.ref 16, .int a0, .int a1, .int a2] [.int r93] _ _
          have nn103 := X100 _ hk77 nn92
          have nn104 := X100 _ kc64 nn65
          refine pm_R_lo pm_M135 (pc_q := 32) rfl rfl rfl ?_
          refine pm_R_cs pm_M135 (pc_q := 35) (ra := [.int a2, .int r93]) (rest := []) (ls_q := [.int r93, .int a2, pm_no]) rfl rfl (Or.inl rfl) pm_M133 rfl rfl (Nat.le_of_ble_eq_true rfl) rfl rfl ?_
          refine pm_R_lo pm_M133 (pc_q := 1) rfl rfl rfl ?_
          refine pm_R_op pm_M133 (pc_q := 2) (st_q := [.int (-1), .int r93]) rfl rfl rfl ?_
          refine pm_R_icmp pm_M133 (t := 9) (pc_q := 5) rfl rfl rfl (fun c105 => ?_) (fun c105 => ?_)
          · have B106 : sf_B (-1) (-1) r93 := sf_eqL c105 sf_kn1
            refine pm_R_op pm_M133 (pc_q := 10) (st_q := [.int (-1)]) rfl rfl rfl ?_
            refine pm_R_ret pm_M133 (r := some (.int (-1))) rfl rfl ?_
            show pm_R _ 135 35 [.ref 16, .int a0, .int a1, .int a2] [.int (-1)] _ _
            have e107 := (F98.cell G (by decide) (by decide) e69)
            have px108 : cl_p37 f68 + h96.2.1 ≤ cl_p37 f1 + h.2.1 := by have := px73; have := F98.2.2.2.1; omega
            exact pm_R_ret pm_M135 (r := some (.int (-1))) rfl rfl (K2 (-1) m95 ck h96 gr76 G T97 (F101.ck gr76 (Nat.le_refl _)) W102 (fun f0 ef => by rw [e2] at ef; cases ef; exact ⟨_, e107, px108⟩))
          · have B109 : sf_B 0 1109 r93 := sf_neL0 c105 sf_kn1 B94
            refine pm_R_lo pm_M133 (pc_q := 6) rfl rfl rfl ?_
            refine pm_R_ifc pm_M133 (t := 11) (pc_q := 9) rfl rfl rfl (fun c110 => ?_) (fun c110 => ?_)
            · have B111 : sf_B 0 2147483647 a2 := sf_leR c110 sf_k0 (sf_any a2)
              refine pm_R_lo pm_M133 (pc_q := 12) rfl rfl rfl ?_
              refine pm_R_cs pm_M133 (pc_q := 15) (ra := [.int r93]) (rest := []) (ls_q := [.int r93, pm_no]) rfl rfl (Or.inl rfl) pm_M134 rfl rfl (Nat.le_of_ble_eq_true rfl) rfl rfl ?_
              refine cl_c134 (d := d + 4) G T97 (sf_weak B109 (by decide) (by decide)) (fun r112 B113 => ?_)
              show pm_R _ 133 15 [.int r93, .int a2, pm_no] [.int r112] _ _
              refine pm_R_lo pm_M133 (pc_q := 16) (ls_q := [.int r93, .int a2, .int r112]) (st_q := []) rfl rfl rfl ?_
              refine pm_R_lo pm_M133 (pc_q := 17) rfl rfl rfl ?_
              refine pm_R_ifc pm_M133 (t := 22) (pc_q := 20) rfl rfl rfl (fun c119 => ?_) (fun c119 => ?_)
              · have B120 : sf_B 1 2147483647 a2 := sf_neL0 c119 sf_k0 B111
                refine pm_R_lo pm_M133 (pc_q := 23) rfl rfl rfl ?_
                refine pm_R_lo pm_M133 (pc_q := 24) rfl rfl rfl ?_
                refine pm_R_icmp pm_M133 (t := 38) (pc_q := 27) rfl rfl rfl (fun c121 => ?_) (fun c121 => ?_)
                · have B122 : sf_B 2 2147483647 a2 := sf_ltR c121 B113 B120
                  refine pm_R_op pm_M133 (pc_q := 39) (st_q := [.int (-1)]) rfl rfl rfl ?_
                  refine pm_R_ret pm_M133 (r := some (.int (-1))) rfl rfl ?_
                  show pm_R _ 135 35 [.ref 16, .int a0, .int a1, .int a2] [.int (-1)] _ _
                  have e123 := (F98.cell G (by decide) (by decide) e69)
                  have px124 : cl_p37 f68 + h96.2.1 ≤ cl_p37 f1 + h.2.1 := by have := px73; have := F98.2.2.2.1; omega
                  exact pm_R_ret pm_M135 (r := some (.int (-1))) rfl rfl (K2 (-1) m95 ck h96 gr76 G T97 (F101.ck gr76 (Nat.le_refl _)) W102 (fun f0 ef => by rw [e2] at ef; cases ef; exact ⟨_, e123, px124⟩))
                · have B125 : sf_B 1 4 a2 := sf_leL (Int32.not_lt.mp c121) B120 B113
                  refine pm_R_lo pm_M133 (pc_q := 28) rfl rfl rfl ?_
                  refine pm_R_lo pm_M133 (pc_q := 29) rfl rfl rfl ?_
                  refine pm_R_lo pm_M133 (pc_q := 30) rfl rfl rfl ?_
                  refine pm_R_op pm_M133 (pc_q := 31) (st_q := [.int 1, .int a2, .int r112, .int r93]) rfl rfl rfl ?_
                  refine sf_R_isub pm_M133 (pc_q := 32) rfl rfl B125 sf_k1 (by decide) (by decide) (fun z126 e127 B128 => ?_)
                  refine pm_R_cs pm_M133 (pc_q := 35) (ra := [.int z126, .int r112, .int r93]) (rest := []) (ls_q := [.int r93, .int r112, .int z126]) rfl rfl (Or.inl rfl) pm_M132 rfl rfl (Nat.le_of_ble_eq_true rfl) rfl rfl ?_
                  refine pm_R_lo pm_M132 (pc_q := 1) rfl rfl rfl ?_
                  refine pm_R_stat pm_M132 (pc_q := 4) rfl rfl rfl ?_
                  refine pm_R_lo pm_M132 (pc_q := 5) rfl rfl rfl ?_
                  obtain ⟨z129, ez130⟩ : ∃ y, pm_sv6.getD (Int32.toNatClampNeg r112) 0 = y := ⟨_, rfl⟩
                  have B131 : sf_B 0 1110 z129 := ez130 ▸ cl_tab (l := pm_sv6) (a := 0) (b := 1110) B113 (by decide) (by decide)
                  refine pm_R_iald pm_M132 (pc_q := 6) (v := z129) rfl ((T97.old (by decide)).trans G.tb6) (T97.lt (by decide)) (sf_in B113 (by decide) (by decide)) ez130 rfl ?_
                  refine sf_R_isub pm_M132 (pc_q := 7) rfl rfl B109 B131 (by decide) (by decide) (fun z132 e133 B134 => ?_)
                  refine pm_R_stat pm_M132 (pc_q := 10) rfl rfl rfl ?_
                  refine pm_R_lo pm_M132 (pc_q := 11) rfl rfl rfl ?_
                  refine pm_R_op pm_M132 (pc_q := 12) (st_q := [.int 1, .int r112, .ref 5, .int z132]) rfl rfl rfl ?_
                  refine sf_R_isub pm_M132 (pc_q := 13) rfl rfl B113 sf_k1 (by decide) (by decide) (fun z135 e136 B137 => ?_)
                  refine pm_R_lo pm_M132 (pc_q := 14) rfl rfl rfl ?_
                  refine sf_R_isub pm_M132 (pc_q := 15) rfl rfl B137 B128 (by decide) (by decide) (fun z138 e139 B140 => ?_)
                  have B144 : sf_B 0 3 z138 := ⟨(cl_aux22 _ _ _ _ _ e136 e127 e139 (Int32.le_iff_toInt_le.mp (Int32.not_lt.mp c121))), B140.2⟩
                  obtain ⟨z141, ez142⟩ : ∃ y, pm_sv5.getD (Int32.toNatClampNeg z138) 0 = y := ⟨_, rfl⟩
                  have B143 : sf_B 1 1000 z141 := ez142 ▸ cl_tab (l := pm_sv5) (a := 1) (b := 1000) B144 (by decide) (by decide)
                  refine pm_R_iald pm_M132 (pc_q := 16) (v := z141) rfl ((T97.old (by decide)).trans G.tb5) (T97.lt (by decide)) (sf_in B144 (by decide) (by decide)) ez142 rfl ?_
                  refine sf_R_idivA pm_M132 (pc_q := 17) rfl rfl (sf_neq1 B143 sf_k0 (by decide)) (fun z145 => ?_)
                  refine pm_R_op pm_M132 (pc_q := 19) (st_q := [.int 10, .int z145]) rfl rfl rfl ?_
                  refine sf_R_iremA pm_M132 (pc_q := 20) rfl rfl (sf_neq1 sf_k10 sf_k0 (by decide)) (fun z148 => ?_)
                  refine pm_R_ret pm_M132 (r := some (.int z148)) rfl (pm_ret_i _) ?_
                  show pm_R _ 133 35 [.int r93, .int a2, .int r112] [.int z148] _ _
                  refine pm_R_br pm_M133 (pc_q := 39) rfl rfl ?_
                  refine pm_R_ret pm_M133 (r := some (.int z148)) rfl (pm_ret_i _) ?_
                  show pm_R _ 135 35 [.ref 16, .int a0, .int a1, .int a2] [.int z148] _ _
                  have e151 := (F98.cell G (by decide) (by decide) e69)
                  have px152 : cl_p37 f68 + h96.2.1 ≤ cl_p37 f1 + h.2.1 := by have := px73; have := F98.2.2.2.1; omega
                  exact pm_R_ret pm_M135 (r := some (.int z148)) rfl (pm_ret_i _) (K2 z148 m95 ck h96 gr76 G T97 (F101.ck gr76 (Nat.le_refl _)) W102 (fun f0 ef => by rw [e2] at ef; cases ef; exact ⟨_, e151, px152⟩))
              · have B153 : sf_B 0 0 a2 := sf_eqL (Classical.not_not.mp c119) sf_k0
                refine pm_R_lo pm_M133 (pc_q := 21) rfl rfl rfl ?_
                refine pm_R_ret pm_M133 (r := some (.int r112)) rfl (pm_ret_i _) ?_
                show pm_R _ 135 35 [.ref 16, .int a0, .int a1, .int a2] [.int r112] _ _
                have e154 := (F98.cell G (by decide) (by decide) e69)
                have px155 : cl_p37 f68 + h96.2.1 ≤ cl_p37 f1 + h.2.1 := by have := px73; have := F98.2.2.2.1; omega
                exact pm_R_ret pm_M135 (r := some (.int r112)) rfl (pm_ret_i _) (K2 r112 m95 ck h96 gr76 G T97 (F101.ck gr76 (Nat.le_refl _)) W102 (fun f0 ef => by rw [e2] at ef; cases ef; exact ⟨_, e154, px155⟩))
            · have B156 : sf_B (-2147483648) (-1) a2 := sf_ltL (Int32.not_le.mp c110) (sf_any a2) sf_k0
              refine pm_R_op pm_M133 (pc_q := 10) (st_q := [.int (-1)]) rfl rfl rfl ?_
              refine pm_R_ret pm_M133 (r := some (.int (-1))) rfl rfl ?_
              show pm_R _ 135 35 [.ref 16, .int a0, .int a1, .int a2] [.int (-1)] _ _
              have e157 := (F98.cell G (by decide) (by decide) e69)
              have px158 : cl_p37 f68 + h96.2.1 ≤ cl_p37 f1 + h.2.1 := by have := px73; have := F98.2.2.2.1; omega
              exact pm_R_ret pm_M135 (r := some (.int (-1))) rfl rfl (K2 (-1) m95 ck h96 gr76 G T97 (F101.ck gr76 (Nat.le_refl _)) W102 (fun f0 ef => by rw [e2] at ef; cases ef; exact ⟨_, e157, px158⟩))
        · have B159 : sf_B 1 2147483647 a1 := sf_leR (Int32.not_lt.mp c30) B16 B26
          refine pm_R_op pm_M62 (pc_q := 18) (st_q := [.null]) rfl rfl rfl ?_
          refine pm_R_br pm_M62 (pc_q := 30) rfl rfl ?_
          refine pm_R_ret pm_M62 (r := some (.null)) rfl rfl ?_
          show pm_R _ 135 13 [.ref 16, .int a0, .int a1, .int a2] [.null] _ _
          refine pm_R_br pm_M135 (pc_q := 16) rfl rfl ?_
          refine pm_R_op pm_M135 (pc_q := 17) (st_q := [.int (-1)]) rfl rfl rfl ?_
          have px160 : cl_p37 f1 + h.2.1 ≤ cl_p37 f1 + h.2.1 := Nat.add_le_add_left ((cl_F.refl (ck := ck) (A := [37]) (n := 0) (s := 0) T.1).2.2.2.1) _
          exact pm_R_ret pm_M135 (r := some (.int (-1))) rfl rfl (K (-1) m h T ((cl_F.refl (ck := ck) (A := [37]) (n := 0) (s := 0) T.1).weak (by decide) (by decide)) (rf_W.refl [] m) (fun f0 ef => by rw [e2] at ef; cases ef; exact ⟨_, e2, px160⟩))
    · skip
      refine pm_R_op pm_M62 (pc_q := 18) (st_q := [.null]) rfl rfl rfl ?_
      refine pm_R_br pm_M62 (pc_q := 30) rfl rfl ?_
      refine pm_R_ret pm_M62 (r := some (.null)) rfl rfl ?_
      show pm_R _ 135 5 [.ref 16, .int a0, .int a1, .int a2] [.null] _ _
      refine pm_R_br pm_M135 (pc_q := 16) rfl rfl ?_
      refine pm_R_op pm_M135 (pc_q := 17) (st_q := [.int (-1)]) rfl rfl rfl ?_
      have px161 : cl_p37 f1 + h.2.1 ≤ cl_p37 f1 + h.2.1 := Nat.add_le_add_left ((cl_F.refl (ck := ck) (A := [37]) (n := 0) (s := 0) T.1).2.2.2.1) _
      exact pm_R_ret pm_M135 (r := some (.int (-1))) rfl rfl (K (-1) m h T ((cl_F.refl (ck := ck) (A := [37]) (n := 0) (s := 0) T.1).weak (by decide) (by decide)) (rf_W.refl [] m) (fun f0 ef => by rw [e2] at ef; cases ef; exact ⟨_, e2, px161⟩))

set_option maxRecDepth 100000 in
set_option maxHeartbeats 4000000 in
/-- SilentTable.all -/
theorem cl_c137_x {d : Nat} {ck : cl_K} {E : Nat → pm_E} {m : Nat → Int32} {o : Nat → Option Nat} {h : pm_H} {Q : Option Value → pm_H → Prop} {a0 : Int32} {a1 : Int32} {a2 : Int32} (G : cl_G ck E) (T : cl_T ck E m o h)  (K : ∀ (r : Int64) (m_q : Nat → Int32) (h_q : pm_H), cl_T ck E m_q o h_q → cl_F ck [37] 5 24466 h h_q → rf_W [] m m_q → (∀ f0 : Nat → Option Nat, h.2.2 37 = .inl (9, 2, .inr (.inr (.inr (.inr f0)))) → ∃ f1 : Nat → Option Nat, h_q.2.2 37 = .inl (9, 2, .inr (.inr (.inr (.inr f1)))) ∧ cl_p37 f1 + h_q.2.1 ≤ cl_p37 f0 + h.2.1) → Q (some (.long r)) h_q) (K2 : ∀ (r : Int64) (m_q : Nat → Int32) (ck_q : cl_K) (h_q : pm_H), (∀ b, b < h.1 → ck_q b = ck b) → cl_G ck_q E → cl_T ck_q E m_q o h_q → cl_F ck [37] 5 24466 h h_q → rf_W [] m m_q → (∀ f0 : Nat → Option Nat, h.2.2 37 = .inl (9, 2, .inr (.inr (.inr (.inr f0)))) → ∃ f1 : Nat → Option Nat, h_q.2.2 37 = .inl (9, 2, .inr (.inr (.inr (.inr f1)))) ∧ cl_p37 f1 + h_q.2.1 ≤ cl_p37 f0 + h.2.1) → Q (some (.long r)) h_q) : pm_R (d + 5) 137 0 [.ref 16, .int a0, .int a1, .int a2, pm_no] [] h Q := by
  obtain ⟨f1, e2, b3⟩ := T.C 37 (by decide) (by decide)
  refine pm_R_lo pm_M137 (pc_q := 1) rfl rfl rfl ?_
  refine pm_R_lo pm_M137 (pc_q := 2) rfl rfl rfl ?_
  refine pm_R_cv pm_M137 (pc_q := 5) (a := 16) (ra := [.int a0]) (rest := []) (ls_q := [.ref 16, .int a0]) rfl rfl (Or.inl rfl) pm_M62 T.e16 rfl (by decide) (T.lt (by decide)) rfl rfl (Nat.le_of_ble_eq_true rfl) rfl rfl ?_
  refine pm_R_lo pm_M62 (pc_q := 1) rfl rfl rfl ?_
  refine pm_R_ifc pm_M62 (t := 17) (pc_q := 4) rfl rfl rfl (fun c4 => ?_) (fun c4 => ?_)
  · have B5 : sf_B (-2147483648) (-1) a0 := sf_ltL c4 (sf_any a0) sf_k0
    refine pm_R_op pm_M62 (pc_q := 18) (st_q := [.null]) rfl rfl rfl ?_
    refine pm_R_br pm_M62 (pc_q := 30) rfl rfl ?_
    refine pm_R_ret pm_M62 (r := some (.null)) rfl rfl ?_
    show pm_R _ 137 5 [.ref 16, .int a0, .int a1, .int a2, pm_no] [.null] _ _
    refine pm_R_br pm_M137 (pc_q := 27) rfl rfl ?_
    refine pm_R_ldc2 pm_M137 (pc_q := 30) rfl rfl rfl ?_
    have px6 : cl_p37 f1 + h.2.1 ≤ cl_p37 f1 + h.2.1 := Nat.add_le_add_left ((cl_F.refl (ck := ck) (A := [37]) (n := 0) (s := 0) T.1).2.2.2.1) _
    exact pm_R_ret pm_M137 (r := some (.long (-1))) rfl rfl (K (-1) m h T ((cl_F.refl (ck := ck) (A := [37]) (n := 0) (s := 0) T.1).weak (by decide) (by decide)) (rf_W.refl [] m) (fun f0 ef => by rw [e2] at ef; cases ef; exact ⟨_, e2, px6⟩))
  · have B7 : sf_B 0 2147483647 a0 := sf_leR (Int32.not_lt.mp c4) sf_k0 (sf_any a0)
    refine pm_R_lo pm_M62 (pc_q := 5) rfl rfl rfl ?_
    refine pm_R_lo pm_M62 (pc_q := 6) rfl rfl rfl ?_
    refine pm_R_get pm_M62 (pc_q := 9) (v := .ref 17) rfl rfl T.e16 (by decide) (T.lt (by decide)) rfl rfl ?_
    refine pm_R_get pm_M62 (pc_q := 12) (v := .ref 23) rfl rfl T.e17 (by decide) (T.lt (by decide)) rfl rfl ?_
    refine pm_R_op pm_M62 (pc_q := 13) (st_q := [.int 0, .ref 23, .int a0]) rfl rfl rfl ?_
    obtain ⟨f11, e12, b13⟩ := T.C 23 (by decide) (by decide)
    obtain ⟨z8, ez9⟩ : ∃ y, f11 (Int32.toNatClampNeg 0) = y := ⟨_, rfl⟩
    have B10 : sf_B 0 2 z8 := ez9 ▸ (b13 0)
    refine pm_R_iald pm_M62 (pc_q := 14) (v := z8) rfl e12 (T.lt (by decide)) rfl ez9 rfl ?_
    refine pm_R_icmp pm_M62 (t := 21) (pc_q := 17) rfl rfl rfl (fun c14 => ?_) (fun c14 => ?_)
    · have B15 : sf_B 0 1 a0 := sf_ltL c14 B7 B10
      have B16 : sf_B 1 2 z8 := sf_ltR c14 B7 B10
      refine pm_R_lo pm_M62 (pc_q := 22) rfl rfl rfl ?_
      refine pm_R_get pm_M62 (pc_q := 25) (v := .ref 17) rfl rfl T.e16 (by decide) (T.lt (by decide)) rfl rfl ?_
      refine pm_R_get pm_M62 (pc_q := 28) (v := .ref 19) rfl rfl T.e17 (by decide) (T.lt (by decide)) rfl rfl ?_
      refine pm_R_lo pm_M62 (pc_q := 29) rfl rfl rfl ?_
      obtain ⟨f17, e18, b19⟩ := T.C 19 (by decide) (by decide)
      obtain ⟨l20, hx21⟩ := cl_there0 T e12 e18 ez9 c14 B15 (by decide)
      have hk22 := b19 _ _ hx21
      refine pm_R_aald pm_M62 (pc_q := 30) (v := .ref l20) rfl e18 (by decide) (by decide) (by decide) (T.lt (by decide)) (sf_in B15 (by decide) (by decide)) (by rw [hx21]; rfl) rfl ?_
      refine pm_R_ret pm_M62 (r := some (.ref l20)) rfl rfl ?_
      show pm_R _ 137 5 [.ref 16, .int a0, .int a1, .int a2, pm_no] [.ref l20] _ _
      refine pm_R_br pm_M137 (pc_q := 8) rfl rfl ?_
      refine pm_R_lo pm_M137 (pc_q := 9) rfl rfl rfl ?_
      refine pm_R_op pm_M137 (pc_q := 10) (st_q := [.int 1, .int a1]) rfl rfl rfl ?_
      refine pm_R_icmp pm_M137 (t := 27) (pc_q := 13) rfl rfl rfl (fun c23 => ?_) (fun c23 => ?_)
      · have B24 : sf_B (-2147483648) 0 a1 := sf_ltL c23 (sf_any a1) sf_k1
        refine pm_R_ldc2 pm_M137 (pc_q := 30) rfl rfl rfl ?_
        have px25 : cl_p37 f1 + h.2.1 ≤ cl_p37 f1 + h.2.1 := Nat.add_le_add_left ((cl_F.refl (ck := ck) (A := [37]) (n := 0) (s := 0) T.1).2.2.2.1) _
        exact pm_R_ret pm_M137 (r := some (.long (-1))) rfl rfl (K (-1) m h T ((cl_F.refl (ck := ck) (A := [37]) (n := 0) (s := 0) T.1).weak (by decide) (by decide)) (rf_W.refl [] m) (fun f0 ef => by rw [e2] at ef; cases ef; exact ⟨_, e2, px25⟩))
      · have B26 : sf_B 1 2147483647 a1 := sf_leR (Int32.not_lt.mp c23) sf_k1 (sf_any a1)
        refine pm_R_lo pm_M137 (pc_q := 14) rfl rfl rfl ?_
        refine pm_R_op pm_M137 (pc_q := 15) (st_q := [.int 4, .int a1]) rfl rfl rfl ?_
        refine pm_R_icmp pm_M137 (t := 27) (pc_q := 18) rfl rfl rfl (fun c27 => ?_) (fun c27 => ?_)
        · have B28 : sf_B 5 2147483647 a1 := sf_ltR c27 sf_k4 B26
          refine pm_R_ldc2 pm_M137 (pc_q := 30) rfl rfl rfl ?_
          have px29 : cl_p37 f1 + h.2.1 ≤ cl_p37 f1 + h.2.1 := Nat.add_le_add_left ((cl_F.refl (ck := ck) (A := [37]) (n := 0) (s := 0) T.1).2.2.2.1) _
          exact pm_R_ret pm_M137 (r := some (.long (-1))) rfl rfl (K (-1) m h T ((cl_F.refl (ck := ck) (A := [37]) (n := 0) (s := 0) T.1).weak (by decide) (by decide)) (rf_W.refl [] m) (fun f0 ef => by rw [e2] at ef; cases ef; exact ⟨_, e2, px29⟩))
        · have B30 : sf_B 1 4 a1 := sf_leL (Int32.not_lt.mp c27) B26 sf_k4
          refine pm_R_lo pm_M137 (pc_q := 19) rfl rfl rfl ?_
          refine pm_R_ifc pm_M137 (t := 27) (pc_q := 22) rfl rfl rfl (fun c31 => ?_) (fun c31 => ?_)
          · have B32 : sf_B (-2147483648) (-1) a2 := sf_ltL c31 (sf_any a2) sf_k0
            refine pm_R_ldc2 pm_M137 (pc_q := 30) rfl rfl rfl ?_
            have px33 : cl_p37 f1 + h.2.1 ≤ cl_p37 f1 + h.2.1 := Nat.add_le_add_left ((cl_F.refl (ck := ck) (A := [37]) (n := 0) (s := 0) T.1).2.2.2.1) _
            exact pm_R_ret pm_M137 (r := some (.long (-1))) rfl rfl (K (-1) m h T ((cl_F.refl (ck := ck) (A := [37]) (n := 0) (s := 0) T.1).weak (by decide) (by decide)) (rf_W.refl [] m) (fun f0 ef => by rw [e2] at ef; cases ef; exact ⟨_, e2, px33⟩))
          · have B34 : sf_B 0 2147483647 a2 := sf_leR (Int32.not_lt.mp c31) sf_k0 (sf_any a2)
            refine pm_R_lo pm_M137 (pc_q := 23) rfl rfl rfl ?_
            refine pm_R_op pm_M137 (pc_q := 24) (st_q := [.int 2, .int a2]) rfl rfl rfl ?_
            refine pm_R_icmp pm_M137 (t := 31) (pc_q := 27) rfl rfl rfl (fun c35 => ?_) (fun c35 => ?_)
            · have B36 : sf_B 0 2 a2 := sf_leL c35 B34 sf_k2
              refine pm_R_lo pm_M137 (pc_q := 32) rfl rfl rfl ?_
              refine pm_R_lo pm_M137 (pc_q := 33) rfl rfl rfl ?_
              refine pm_R_cv pm_M137 (pc_q := 36) (a := 16) (ra := [.int a0]) (rest := []) (ls_q := [.ref 16, .int a0]) rfl rfl (Or.inl rfl) pm_M122 T.e16 rfl (by decide) (T.lt (by decide)) rfl rfl (Nat.le_of_ble_eq_true rfl) rfl rfl ?_
              have px37 : cl_p37 f1 + h.2.1 ≤ cl_p37 f1 + h.2.1 := Nat.add_le_add_left ((cl_F.refl (ck := ck) (A := [37]) (n := 0) (s := 0) T.1).2.2.2.1) _
              have F50 := (cl_F.refl (ck := ck) (A := [37]) (n := 0) (s := 0) T.1)
              refine cl_c122x (d := d + 3) G T (sf_in B15 (by decide) (by decide)) e18 hx21 hk22 e2 (fun c38 ck h39 lt40 G T41 F42 kc43 nn44 lf45 low46 px51 => ?_)
              obtain ⟨f47, e48, p49⟩ := px51
              have px52 : cl_p37 f47 + h39.2.1 ≤ cl_p37 f1 + h.2.1 := Nat.le_trans p49 px37
              have F53 := F50.ck (fun b hb => (lt40 b hb).symm) F50.2.1
              have F54 := F42.ck (fun b hb => (lt40 b hb).symm) (Nat.le_refl _)
              have gr55 := fun (b : Nat) (hb : b < h.1) => (lt40 b (Nat.lt_of_lt_of_le hb F50.2.1))
              have hk56 := (lt40 _ (T.al hk22 (by decide))).trans hk22
              have F57 := F53.trans (N := 5) (S := 24466) F54 (by decide) (by decide) (by decide)
              have e58 := (low46 19 (by decide) (by decide)).trans e18
              show pm_R _ 137 36 [.ref 16, .int a0, .int a1, .int a2, pm_no] [.ref c38] _ _
              refine pm_R_lo pm_M137 (pc_q := 38) (ls_q := [.ref 16, .int a0, .int a1, .int a2, .ref c38]) (st_q := []) rfl rfl rfl ?_
              refine pm_R_lo pm_M137 (pc_q := 40) rfl rfl rfl ?_
              refine pm_R_lo pm_M137 (pc_q := 41) rfl rfl rfl ?_
              obtain ⟨lo59, fi60, av61, ah62, an63, kl64, B65, B66, eS67⟩ := id nn44
              have nn68 : cl_NN ck h39 c38 := ⟨lo59, fi60, av61, ah62, an63, kl64, B65, B66, eS67⟩
              refine pm_R_cv pm_M137 (pc_q := 44) (a := c38) (ra := [.int a1]) (rest := []) (ls_q := [.ref c38, .int a1, pm_no]) rfl rfl (Or.inl rfl) pm_M126 eS67 rfl (G.ge kc43 (by decide)) (T41.al kc43 (by decide)) rfl rfl (Nat.le_of_ble_eq_true rfl) rfl rfl ?_
              refine cl_c126 (d := d + 0) G T41 kc43 B30 nn68 (fun m71 h72 T73 F74 W75 X76 => ?_)
              have F77 := F57.trans (N := 5) (S := 24466) F74 (by decide) (by decide) (by decide)
              have W78 : rf_W [] m m71 := (rf_W.refl [] m).trans W75 (by decide)
              show pm_R _ 137 44 [.ref 16, .int a0, .int a1, .int a2, .ref c38] [] _ _
              have nn79 := X76 _ kc43 nn68
              refine pm_R_lo pm_M137 (pc_q := 46) rfl rfl rfl ?_
              obtain ⟨lo80, fi81, av82, ah83, an84, kl85, B86, B87, eS88⟩ := id nn79
              have nn89 : cl_NN ck h72 c38 := ⟨lo80, fi81, av82, ah83, an84, kl85, B86, B87, eS88⟩
              refine pm_R_get pm_M137 (pc_q := 49) (v := .ref (c38 + 1)) rfl rfl eS88 (G.ge kc43 (by decide)) (T73.al kc43 (by decide)) rfl rfl ?_
              refine pm_R_lo pm_M137 (pc_q := 50) rfl rfl rfl ?_
              refine pm_R_op pm_M137 (pc_q := 51) (st_q := [.int 3, .int a1, .ref (c38 + 1)]) rfl rfl rfl ?_
              refine sf_R_imul pm_M137 (pc_q := 52) rfl rfl B30 sf_k3 (by decide) (by decide) (by decide) (fun z90 e91 B92 => ?_)
              refine pm_R_lo pm_M137 (pc_q := 53) rfl rfl rfl ?_
              refine sf_R_iadd pm_M137 (pc_q := 54) rfl rfl B92 B36 (by decide) (by decide) (fun z93 e94 B95 => ?_)
              obtain ⟨f99, e100⟩ := T73.D.2.2.2.2.1 _ (G.s25 kc43).1
              obtain ⟨z96, ez97⟩ : ∃ y, f99 (Int32.toNatClampNeg z93) = y := ⟨_, rfl⟩
              refine pm_R_iald pm_M137 (pc_q := 55) (v := z96) rfl e100 (T73.al (G.s25 kc43).1 (by decide)) (sf_in B95 (by decide) (by decide)) ez97 rfl ?_
              refine sf_R_lany pm_M137 (pc_q := 56) (st := []) rfl rfl rfl (fun z101 => ?_)
              have e102 := (F74.cell G (by decide) (by decide) e48)
              have px103 : cl_p37 f47 + h72.2.1 ≤ cl_p37 f1 + h.2.1 := by have := px52; have := F74.2.2.2.1; omega
              exact pm_R_ret pm_M137 (r := some (.long z101)) rfl rfl (K2 z101 m71 ck h72 gr55 G T73 (F77.ck gr55 (Nat.le_refl _)) W78 (fun f0 ef => by rw [e2] at ef; cases ef; exact ⟨_, e102, px103⟩))
            · have B104 : sf_B 3 2147483647 a2 := sf_ltR (Int32.not_le.mp c35) sf_k2 B34
              refine pm_R_ldc2 pm_M137 (pc_q := 30) rfl rfl rfl ?_
              have px105 : cl_p37 f1 + h.2.1 ≤ cl_p37 f1 + h.2.1 := Nat.add_le_add_left ((cl_F.refl (ck := ck) (A := [37]) (n := 0) (s := 0) T.1).2.2.2.1) _
              exact pm_R_ret pm_M137 (r := some (.long (-1))) rfl rfl (K (-1) m h T ((cl_F.refl (ck := ck) (A := [37]) (n := 0) (s := 0) T.1).weak (by decide) (by decide)) (rf_W.refl [] m) (fun f0 ef => by rw [e2] at ef; cases ef; exact ⟨_, e2, px105⟩))
    · skip
      refine pm_R_op pm_M62 (pc_q := 18) (st_q := [.null]) rfl rfl rfl ?_
      refine pm_R_br pm_M62 (pc_q := 30) rfl rfl ?_
      refine pm_R_ret pm_M62 (r := some (.null)) rfl rfl ?_
      show pm_R _ 137 5 [.ref 16, .int a0, .int a1, .int a2, pm_no] [.null] _ _
      refine pm_R_br pm_M137 (pc_q := 27) rfl rfl ?_
      refine pm_R_ldc2 pm_M137 (pc_q := 30) rfl rfl rfl ?_
      have px106 : cl_p37 f1 + h.2.1 ≤ cl_p37 f1 + h.2.1 := Nat.add_le_add_left ((cl_F.refl (ck := ck) (A := [37]) (n := 0) (s := 0) T.1).2.2.2.1) _
      exact pm_R_ret pm_M137 (r := some (.long (-1))) rfl rfl (K (-1) m h T ((cl_F.refl (ck := ck) (A := [37]) (n := 0) (s := 0) T.1).weak (by decide) (by decide)) (rf_W.refl [] m) (fun f0 ef => by rw [e2] at ef; cases ef; exact ⟨_, e2, px106⟩))

set_option maxRecDepth 100000 in
set_option maxHeartbeats 4000000 in
/-- SilentTable.asks -/
theorem cl_c156_x {d : Nat} {ck : cl_K} {E : Nat → pm_E} {m : Nat → Int32} {o : Nat → Option Nat} {h : pm_H} {Q : Option Value → pm_H → Prop} {a0 : Int32} {a1 : Int32} {a2 : Int32} {a3 : Int32} {a4 : Int32} {a5 : Int32} (G : cl_G ck E) (T : cl_T ck E m o h)  (K : ∀ (r : Int32) (m_q : Nat → Int32) (h_q : pm_H), cl_T ck E m_q o h_q → cl_F ck [32, 37, 38] 5 24466 h h_q → rf_W [] m m_q → (∀ f0 : Nat → Option Nat, h.2.2 37 = .inl (9, 2, .inr (.inr (.inr (.inr f0)))) → ∃ f1 : Nat → Option Nat, h_q.2.2 37 = .inl (9, 2, .inr (.inr (.inr (.inr f1)))) ∧ cl_p37 f1 + h_q.2.1 ≤ cl_p37 f0 + h.2.1) → Q (some (.int r)) h_q) (K2 : ∀ (r : Int32) (m_q : Nat → Int32) (ck_q : cl_K) (h_q : pm_H), (∀ b, b < h.1 → ck_q b = ck b) → cl_G ck_q E → cl_T ck_q E m_q o h_q → cl_F ck [32, 37, 38] 5 24466 h h_q → rf_W [] m m_q → (∀ f0 : Nat → Option Nat, h.2.2 37 = .inl (9, 2, .inr (.inr (.inr (.inr f0)))) → ∃ f1 : Nat → Option Nat, h_q.2.2 37 = .inl (9, 2, .inr (.inr (.inr (.inr f1)))) ∧ cl_p37 f1 + h_q.2.1 ≤ cl_p37 f0 + h.2.1) → Q (some (.int r)) h_q) : pm_R (d + 6) 156 0 [.ref 16, .int a0, .int a1, .int a2, .int a3, .int a4, .int a5, pm_no] [] h Q := by
  obtain ⟨f1, e2, b3⟩ := T.C 37 (by decide) (by decide)
  refine pm_R_lo pm_M156 (pc_q := 1) rfl rfl rfl ?_
  refine pm_R_lo pm_M156 (pc_q := 2) rfl rfl rfl ?_
  refine pm_R_lo pm_M156 (pc_q := 4) rfl rfl rfl ?_
  refine pm_R_lo pm_M156 (pc_q := 6) rfl rfl rfl ?_
  refine pm_R_cv pm_M156 (pc_q := 9) (a := 16) (ra := [.int a4, .int a3, .int a2]) (rest := []) (ls_q := [.ref 16, .int a2, .int a3, .int a4, pm_no]) rfl rfl (Or.inl rfl) pm_M152 T.e16 rfl (by decide) (T.lt (by decide)) rfl rfl (Nat.le_of_ble_eq_true rfl) rfl rfl ?_
  refine pm_R_lo pm_M152 (pc_q := 1) rfl rfl rfl ?_
  refine pm_R_lo pm_M152 (pc_q := 2) rfl rfl rfl ?_
  refine pm_R_cv pm_M152 (pc_q := 5) (a := 16) (ra := [.int a2]) (rest := []) (ls_q := [.ref 16, .int a2]) rfl rfl (Or.inl rfl) pm_M139 T.e16 rfl (by decide) (T.lt (by decide)) rfl rfl (Nat.le_of_ble_eq_true rfl) rfl rfl ?_
  refine pm_R_lo pm_M139 (pc_q := 1) rfl rfl rfl ?_
  refine pm_R_ifc pm_M139 (t := 17) (pc_q := 4) rfl rfl rfl (fun c4 => ?_) (fun c4 => ?_)
  · have B5 : sf_B (-2147483648) (-1) a2 := sf_ltL c4 (sf_any a2) sf_k0
    refine pm_R_op pm_M139 (pc_q := 18) (st_q := [.null]) rfl rfl rfl ?_
    refine pm_R_br pm_M139 (pc_q := 30) rfl rfl ?_
    refine pm_R_ret pm_M139 (r := some (.null)) rfl rfl ?_
    show pm_R _ 152 5 [.ref 16, .int a2, .int a3, .int a4, pm_no] [.null] _ _
    refine pm_R_lo pm_M152 (pc_q := 7) (ls_q := [.ref 16, .int a2, .int a3, .int a4, .null]) (st_q := []) rfl rfl rfl ?_
    refine pm_R_lo pm_M152 (pc_q := 9) rfl rfl rfl ?_
    refine pm_R_br pm_M152 (pc_q := 35) rfl rfl ?_
    refine pm_R_op pm_M152 (pc_q := 36) (st_q := [.int (-1)]) rfl rfl rfl ?_
    refine pm_R_ret pm_M152 (r := some (.int (-1))) rfl rfl ?_
    show pm_R _ 156 9 [.ref 16, .int a0, .int a1, .int a2, .int a3, .int a4, .int a5, pm_no] [.int (-1)] _ _
    refine pm_R_lo pm_M156 (pc_q := 11) (ls_q := [.ref 16, .int a0, .int a1, .int a2, .int a3, .int a4, .int a5, .int (-1)]) (st_q := []) rfl rfl rfl ?_
    refine pm_R_lo pm_M156 (pc_q := 12) rfl rfl rfl ?_
    refine pm_R_lo pm_M156 (pc_q := 13) rfl rfl rfl ?_
    refine pm_R_cv pm_M156 (pc_q := 16) (a := 16) (ra := [.int a0]) (rest := []) (ls_q := [.ref 16, .int a0]) rfl rfl (Or.inl rfl) pm_M62 T.e16 rfl (by decide) (T.lt (by decide)) rfl rfl (Nat.le_of_ble_eq_true rfl) rfl rfl ?_
    refine pm_R_lo pm_M62 (pc_q := 1) rfl rfl rfl ?_
    refine pm_R_ifc pm_M62 (t := 17) (pc_q := 4) rfl rfl rfl (fun c6 => ?_) (fun c6 => ?_)
    · have B7 : sf_B (-2147483648) (-1) a0 := sf_ltL c6 (sf_any a0) sf_k0
      refine pm_R_op pm_M62 (pc_q := 18) (st_q := [.null]) rfl rfl rfl ?_
      refine pm_R_br pm_M62 (pc_q := 30) rfl rfl ?_
      refine pm_R_ret pm_M62 (r := some (.null)) rfl rfl ?_
      show pm_R _ 156 16 [.ref 16, .int a0, .int a1, .int a2, .int a3, .int a4, .int a5, .int (-1)] [.null] _ _
      refine pm_R_br pm_M156 (pc_q := 32) rfl rfl ?_
      refine pm_R_op pm_M156 (pc_q := 33) (st_q := [.int (-1)]) rfl rfl rfl ?_
      have px8 : cl_p37 f1 + h.2.1 ≤ cl_p37 f1 + h.2.1 := Nat.add_le_add_left ((cl_F.refl (ck := ck) (A := [32, 37, 38]) (n := 0) (s := 0) T.1).2.2.2.1) _
      exact pm_R_ret pm_M156 (r := some (.int (-1))) rfl rfl (K (-1) m h T ((cl_F.refl (ck := ck) (A := [32, 37, 38]) (n := 0) (s := 0) T.1).weak (by decide) (by decide)) (rf_W.refl [] m) (fun f0 ef => by rw [e2] at ef; cases ef; exact ⟨_, e2, px8⟩))
    · have B9 : sf_B 0 2147483647 a0 := sf_leR (Int32.not_lt.mp c6) sf_k0 (sf_any a0)
      refine pm_R_lo pm_M62 (pc_q := 5) rfl rfl rfl ?_
      refine pm_R_lo pm_M62 (pc_q := 6) rfl rfl rfl ?_
      refine pm_R_get pm_M62 (pc_q := 9) (v := .ref 17) rfl rfl T.e16 (by decide) (T.lt (by decide)) rfl rfl ?_
      refine pm_R_get pm_M62 (pc_q := 12) (v := .ref 23) rfl rfl T.e17 (by decide) (T.lt (by decide)) rfl rfl ?_
      refine pm_R_op pm_M62 (pc_q := 13) (st_q := [.int 0, .ref 23, .int a0]) rfl rfl rfl ?_
      obtain ⟨f13, e14, b15⟩ := T.C 23 (by decide) (by decide)
      obtain ⟨z10, ez11⟩ : ∃ y, f13 (Int32.toNatClampNeg 0) = y := ⟨_, rfl⟩
      have B12 : sf_B 0 2 z10 := ez11 ▸ (b15 0)
      refine pm_R_iald pm_M62 (pc_q := 14) (v := z10) rfl e14 (T.lt (by decide)) rfl ez11 rfl ?_
      refine pm_R_icmp pm_M62 (t := 21) (pc_q := 17) rfl rfl rfl (fun c16 => ?_) (fun c16 => ?_)
      · have B17 : sf_B 0 1 a0 := sf_ltL c16 B9 B12
        have B18 : sf_B 1 2 z10 := sf_ltR c16 B9 B12
        refine pm_R_lo pm_M62 (pc_q := 22) rfl rfl rfl ?_
        refine pm_R_get pm_M62 (pc_q := 25) (v := .ref 17) rfl rfl T.e16 (by decide) (T.lt (by decide)) rfl rfl ?_
        refine pm_R_get pm_M62 (pc_q := 28) (v := .ref 19) rfl rfl T.e17 (by decide) (T.lt (by decide)) rfl rfl ?_
        refine pm_R_lo pm_M62 (pc_q := 29) rfl rfl rfl ?_
        obtain ⟨f19, e20, b21⟩ := T.C 19 (by decide) (by decide)
        obtain ⟨l22, hx23⟩ := cl_there0 T e14 e20 ez11 c16 B17 (by decide)
        have hk24 := b21 _ _ hx23
        refine pm_R_aald pm_M62 (pc_q := 30) (v := .ref l22) rfl e20 (by decide) (by decide) (by decide) (T.lt (by decide)) (sf_in B17 (by decide) (by decide)) (by rw [hx23]; rfl) rfl ?_
        refine pm_R_ret pm_M62 (r := some (.ref l22)) rfl rfl ?_
        show pm_R _ 156 16 [.ref 16, .int a0, .int a1, .int a2, .int a3, .int a4, .int a5, .int (-1)] [.ref l22] _ _
        refine pm_R_br pm_M156 (pc_q := 19) rfl rfl ?_
        refine pm_R_lo pm_M156 (pc_q := 20) rfl rfl rfl ?_
        refine pm_R_cs pm_M156 (pc_q := 23) (ra := [.int a1]) (rest := []) (ls_q := [.int a1]) rfl rfl (Or.inl rfl) pm_M82 rfl rfl (Nat.le_of_ble_eq_true rfl) rfl rfl ?_
        refine pm_R_lo pm_M82 (pc_q := 1) rfl rfl rfl ?_
        refine pm_R_ifc pm_M82 (t := 14) (pc_q := 4) rfl rfl rfl (fun c25 => ?_) (fun c25 => ?_)
        · have B26 : sf_B (-2147483648) (-1) a1 := sf_ltL c25 (sf_any a1) sf_k0
          refine pm_R_op pm_M82 (pc_q := 15) (st_q := [.int 0]) rfl rfl rfl ?_
          refine pm_R_ret pm_M82 (r := some (.int 0)) rfl rfl ?_
          show pm_R _ 156 23 [.ref 16, .int a0, .int a1, .int a2, .int a3, .int a4, .int a5, .int (-1)] [.int 0] _ _
          refine pm_R_br pm_M156 (pc_q := 32) (st_q := []) rfl rfl ?_
          refine pm_R_op pm_M156 (pc_q := 33) (st_q := [.int (-1)]) rfl rfl rfl ?_
          have px27 : cl_p37 f1 + h.2.1 ≤ cl_p37 f1 + h.2.1 := Nat.add_le_add_left ((cl_F.refl (ck := ck) (A := [32, 37, 38]) (n := 0) (s := 0) T.1).2.2.2.1) _
          exact pm_R_ret pm_M156 (r := some (.int (-1))) rfl rfl (K (-1) m h T ((cl_F.refl (ck := ck) (A := [32, 37, 38]) (n := 0) (s := 0) T.1).weak (by decide) (by decide)) (rf_W.refl [] m) (fun f0 ef => by rw [e2] at ef; cases ef; exact ⟨_, e2, px27⟩))
        · have B28 : sf_B 0 2147483647 a1 := sf_leR (Int32.not_lt.mp c25) sf_k0 (sf_any a1)
          refine pm_R_lo pm_M82 (pc_q := 5) rfl rfl rfl ?_
          refine pm_R_op pm_M82 (pc_q := 7) (st_q := [.int 50, .int a1]) rfl rfl rfl ?_
          refine pm_R_icmp pm_M82 (t := 14) (pc_q := 10) rfl rfl rfl (fun c29 => ?_) (fun c29 => ?_)
          · have B30 : sf_B 50 2147483647 a1 := sf_leR c29 sf_k50 B28
            refine pm_R_op pm_M82 (pc_q := 15) (st_q := [.int 0]) rfl rfl rfl ?_
            refine pm_R_ret pm_M82 (r := some (.int 0)) rfl rfl ?_
            show pm_R _ 156 23 [.ref 16, .int a0, .int a1, .int a2, .int a3, .int a4, .int a5, .int (-1)] [.int 0] _ _
            refine pm_R_br pm_M156 (pc_q := 32) (st_q := []) rfl rfl ?_
            refine pm_R_op pm_M156 (pc_q := 33) (st_q := [.int (-1)]) rfl rfl rfl ?_
            have px31 : cl_p37 f1 + h.2.1 ≤ cl_p37 f1 + h.2.1 := Nat.add_le_add_left ((cl_F.refl (ck := ck) (A := [32, 37, 38]) (n := 0) (s := 0) T.1).2.2.2.1) _
            exact pm_R_ret pm_M156 (r := some (.int (-1))) rfl rfl (K (-1) m h T ((cl_F.refl (ck := ck) (A := [32, 37, 38]) (n := 0) (s := 0) T.1).weak (by decide) (by decide)) (rf_W.refl [] m) (fun f0 ef => by rw [e2] at ef; cases ef; exact ⟨_, e2, px31⟩))
          · have B32 : sf_B 0 49 a1 := sf_ltL (Int32.not_le.mp c29) B28 sf_k50
            refine pm_R_op pm_M82 (pc_q := 11) (st_q := [.int 1]) rfl rfl rfl ?_
            refine pm_R_br pm_M82 (pc_q := 15) rfl rfl ?_
            refine pm_R_ret pm_M82 (r := some (.int 1)) rfl rfl ?_
            show pm_R _ 156 23 [.ref 16, .int a0, .int a1, .int a2, .int a3, .int a4, .int a5, .int (-1)] [.int 1] _ _
            refine pm_R_br pm_M156 (pc_q := 26) (st_q := []) rfl rfl ?_
            refine pm_R_lo pm_M156 (pc_q := 28) rfl rfl rfl ?_
            refine pm_R_op pm_M156 (pc_q := 29) (st_q := [.int (-1), .int (-1)]) rfl rfl rfl ?_
            refine pm_R_br pm_M156 (pc_q := 32) (st_q := []) rfl rfl ?_
            refine pm_R_op pm_M156 (pc_q := 33) (st_q := [.int (-1)]) rfl rfl rfl ?_
            have px33 : cl_p37 f1 + h.2.1 ≤ cl_p37 f1 + h.2.1 := Nat.add_le_add_left ((cl_F.refl (ck := ck) (A := [32, 37, 38]) (n := 0) (s := 0) T.1).2.2.2.1) _
            exact pm_R_ret pm_M156 (r := some (.int (-1))) rfl rfl (K (-1) m h T ((cl_F.refl (ck := ck) (A := [32, 37, 38]) (n := 0) (s := 0) T.1).weak (by decide) (by decide)) (rf_W.refl [] m) (fun f0 ef => by rw [e2] at ef; cases ef; exact ⟨_, e2, px33⟩))
      · skip
        refine pm_R_op pm_M62 (pc_q := 18) (st_q := [.null]) rfl rfl rfl ?_
        refine pm_R_br pm_M62 (pc_q := 30) rfl rfl ?_
        refine pm_R_ret pm_M62 (r := some (.null)) rfl rfl ?_
        show pm_R _ 156 16 [.ref 16, .int a0, .int a1, .int a2, .int a3, .int a4, .int a5, .int (-1)] [.null] _ _
        refine pm_R_br pm_M156 (pc_q := 32) rfl rfl ?_
        refine pm_R_op pm_M156 (pc_q := 33) (st_q := [.int (-1)]) rfl rfl rfl ?_
        have px34 : cl_p37 f1 + h.2.1 ≤ cl_p37 f1 + h.2.1 := Nat.add_le_add_left ((cl_F.refl (ck := ck) (A := [32, 37, 38]) (n := 0) (s := 0) T.1).2.2.2.1) _
        exact pm_R_ret pm_M156 (r := some (.int (-1))) rfl rfl (K (-1) m h T ((cl_F.refl (ck := ck) (A := [32, 37, 38]) (n := 0) (s := 0) T.1).weak (by decide) (by decide)) (rf_W.refl [] m) (fun f0 ef => by rw [e2] at ef; cases ef; exact ⟨_, e2, px34⟩))
  · have B35 : sf_B 0 2147483647 a2 := sf_leR (Int32.not_lt.mp c4) sf_k0 (sf_any a2)
    refine pm_R_lo pm_M139 (pc_q := 5) rfl rfl rfl ?_
    refine pm_R_lo pm_M139 (pc_q := 6) rfl rfl rfl ?_
    refine pm_R_get pm_M139 (pc_q := 9) (v := .ref 17) rfl rfl T.e16 (by decide) (T.lt (by decide)) rfl rfl ?_
    refine pm_R_get pm_M139 (pc_q := 12) (v := .ref 23) rfl rfl T.e17 (by decide) (T.lt (by decide)) rfl rfl ?_
    refine pm_R_op pm_M139 (pc_q := 13) (st_q := [.int 2, .ref 23, .int a2]) rfl rfl rfl ?_
    obtain ⟨f39, e40, b41⟩ := T.C 23 (by decide) (by decide)
    obtain ⟨z36, ez37⟩ : ∃ y, f39 (Int32.toNatClampNeg 2) = y := ⟨_, rfl⟩
    have B38 : sf_B 0 2 z36 := ez37 ▸ (b41 2)
    refine pm_R_iald pm_M139 (pc_q := 14) (v := z36) rfl e40 (T.lt (by decide)) rfl ez37 rfl ?_
    refine pm_R_icmp pm_M139 (t := 21) (pc_q := 17) rfl rfl rfl (fun c42 => ?_) (fun c42 => ?_)
    · have B43 : sf_B 0 1 a2 := sf_ltL c42 B35 B38
      have B44 : sf_B 1 2 z36 := sf_ltR c42 B35 B38
      refine pm_R_lo pm_M139 (pc_q := 22) rfl rfl rfl ?_
      refine pm_R_get pm_M139 (pc_q := 25) (v := .ref 17) rfl rfl T.e16 (by decide) (T.lt (by decide)) rfl rfl ?_
      refine pm_R_get pm_M139 (pc_q := 28) (v := .ref 21) rfl rfl T.e17 (by decide) (T.lt (by decide)) rfl rfl ?_
      refine pm_R_lo pm_M139 (pc_q := 29) rfl rfl rfl ?_
      obtain ⟨f45, e46, b47⟩ := T.C 21 (by decide) (by decide)
      obtain ⟨l48, hx49⟩ := cl_there2 T e40 e46 ez37 c42 B43 (by decide)
      have hk50 := b47 _ _ hx49
      refine pm_R_aald pm_M139 (pc_q := 30) (v := .ref l48) rfl e46 (by decide) (by decide) (by decide) (T.lt (by decide)) (sf_in B43 (by decide) (by decide)) (by rw [hx49]; rfl) rfl ?_
      refine pm_R_ret pm_M139 (r := some (.ref l48)) rfl rfl ?_
      show pm_R _ 152 5 [.ref 16, .int a2, .int a3, .int a4, pm_no] [.ref l48] _ _
      refine pm_R_lo pm_M152 (pc_q := 7) (ls_q := [.ref 16, .int a2, .int a3, .int a4, .ref l48]) (st_q := []) rfl rfl rfl ?_
      refine pm_R_lo pm_M152 (pc_q := 9) rfl rfl rfl ?_
      refine pm_R_br pm_M152 (pc_q := 12) rfl rfl ?_
      refine pm_R_lo pm_M152 (pc_q := 13) rfl rfl rfl ?_
      refine pm_R_lo pm_M152 (pc_q := 14) rfl rfl rfl ?_
      refine pm_R_icmp pm_M152 (t := 35) (pc_q := 17) rfl rfl rfl (fun c51 => ?_) (fun c51 => ?_)
      · refine pm_R_op pm_M152 (pc_q := 36) (st_q := [.int (-1)]) rfl rfl rfl ?_
        refine pm_R_ret pm_M152 (r := some (.int (-1))) rfl rfl ?_
        show pm_R _ 156 9 [.ref 16, .int a0, .int a1, .int a2, .int a3, .int a4, .int a5, pm_no] [.int (-1)] _ _
        refine pm_R_lo pm_M156 (pc_q := 11) (ls_q := [.ref 16, .int a0, .int a1, .int a2, .int a3, .int a4, .int a5, .int (-1)]) (st_q := []) rfl rfl rfl ?_
        refine pm_R_lo pm_M156 (pc_q := 12) rfl rfl rfl ?_
        refine pm_R_lo pm_M156 (pc_q := 13) rfl rfl rfl ?_
        refine pm_R_cv pm_M156 (pc_q := 16) (a := 16) (ra := [.int a0]) (rest := []) (ls_q := [.ref 16, .int a0]) rfl rfl (Or.inl rfl) pm_M62 T.e16 rfl (by decide) (T.lt (by decide)) rfl rfl (Nat.le_of_ble_eq_true rfl) rfl rfl ?_
        refine pm_R_lo pm_M62 (pc_q := 1) rfl rfl rfl ?_
        refine pm_R_ifc pm_M62 (t := 17) (pc_q := 4) rfl rfl rfl (fun c52 => ?_) (fun c52 => ?_)
        · have B53 : sf_B (-2147483648) (-1) a0 := sf_ltL c52 (sf_any a0) sf_k0
          refine pm_R_op pm_M62 (pc_q := 18) (st_q := [.null]) rfl rfl rfl ?_
          refine pm_R_br pm_M62 (pc_q := 30) rfl rfl ?_
          refine pm_R_ret pm_M62 (r := some (.null)) rfl rfl ?_
          show pm_R _ 156 16 [.ref 16, .int a0, .int a1, .int a2, .int a3, .int a4, .int a5, .int (-1)] [.null] _ _
          refine pm_R_br pm_M156 (pc_q := 32) rfl rfl ?_
          refine pm_R_op pm_M156 (pc_q := 33) (st_q := [.int (-1)]) rfl rfl rfl ?_
          have px54 : cl_p37 f1 + h.2.1 ≤ cl_p37 f1 + h.2.1 := Nat.add_le_add_left ((cl_F.refl (ck := ck) (A := [32, 37, 38]) (n := 0) (s := 0) T.1).2.2.2.1) _
          exact pm_R_ret pm_M156 (r := some (.int (-1))) rfl rfl (K (-1) m h T ((cl_F.refl (ck := ck) (A := [32, 37, 38]) (n := 0) (s := 0) T.1).weak (by decide) (by decide)) (rf_W.refl [] m) (fun f0 ef => by rw [e2] at ef; cases ef; exact ⟨_, e2, px54⟩))
        · have B55 : sf_B 0 2147483647 a0 := sf_leR (Int32.not_lt.mp c52) sf_k0 (sf_any a0)
          refine pm_R_lo pm_M62 (pc_q := 5) rfl rfl rfl ?_
          refine pm_R_lo pm_M62 (pc_q := 6) rfl rfl rfl ?_
          refine pm_R_get pm_M62 (pc_q := 9) (v := .ref 17) rfl rfl T.e16 (by decide) (T.lt (by decide)) rfl rfl ?_
          refine pm_R_get pm_M62 (pc_q := 12) (v := .ref 23) rfl rfl T.e17 (by decide) (T.lt (by decide)) rfl rfl ?_
          refine pm_R_op pm_M62 (pc_q := 13) (st_q := [.int 0, .ref 23, .int a0]) rfl rfl rfl ?_
          obtain ⟨z56, ez57⟩ : ∃ y, f39 (Int32.toNatClampNeg 0) = y := ⟨_, rfl⟩
          have B58 : sf_B 0 2 z56 := ez57 ▸ (b41 0)
          refine pm_R_iald pm_M62 (pc_q := 14) (v := z56) rfl e40 (T.lt (by decide)) rfl ez57 rfl ?_
          refine pm_R_icmp pm_M62 (t := 21) (pc_q := 17) rfl rfl rfl (fun c59 => ?_) (fun c59 => ?_)
          · have B60 : sf_B 0 1 a0 := sf_ltL c59 B55 B58
            have B61 : sf_B 1 2 z56 := sf_ltR c59 B55 B58
            refine pm_R_lo pm_M62 (pc_q := 22) rfl rfl rfl ?_
            refine pm_R_get pm_M62 (pc_q := 25) (v := .ref 17) rfl rfl T.e16 (by decide) (T.lt (by decide)) rfl rfl ?_
            refine pm_R_get pm_M62 (pc_q := 28) (v := .ref 19) rfl rfl T.e17 (by decide) (T.lt (by decide)) rfl rfl ?_
            refine pm_R_lo pm_M62 (pc_q := 29) rfl rfl rfl ?_
            obtain ⟨f62, e63, b64⟩ := T.C 19 (by decide) (by decide)
            obtain ⟨l65, hx66⟩ := cl_there0 T e40 e63 ez57 c59 B60 (by decide)
            have hk67 := b64 _ _ hx66
            refine pm_R_aald pm_M62 (pc_q := 30) (v := .ref l65) rfl e63 (by decide) (by decide) (by decide) (T.lt (by decide)) (sf_in B60 (by decide) (by decide)) (by rw [hx66]; rfl) rfl ?_
            refine pm_R_ret pm_M62 (r := some (.ref l65)) rfl rfl ?_
            show pm_R _ 156 16 [.ref 16, .int a0, .int a1, .int a2, .int a3, .int a4, .int a5, .int (-1)] [.ref l65] _ _
            refine pm_R_br pm_M156 (pc_q := 19) rfl rfl ?_
            refine pm_R_lo pm_M156 (pc_q := 20) rfl rfl rfl ?_
            refine pm_R_cs pm_M156 (pc_q := 23) (ra := [.int a1]) (rest := []) (ls_q := [.int a1]) rfl rfl (Or.inl rfl) pm_M82 rfl rfl (Nat.le_of_ble_eq_true rfl) rfl rfl ?_
            refine pm_R_lo pm_M82 (pc_q := 1) rfl rfl rfl ?_
            refine pm_R_ifc pm_M82 (t := 14) (pc_q := 4) rfl rfl rfl (fun c68 => ?_) (fun c68 => ?_)
            · have B69 : sf_B (-2147483648) (-1) a1 := sf_ltL c68 (sf_any a1) sf_k0
              refine pm_R_op pm_M82 (pc_q := 15) (st_q := [.int 0]) rfl rfl rfl ?_
              refine pm_R_ret pm_M82 (r := some (.int 0)) rfl rfl ?_
              show pm_R _ 156 23 [.ref 16, .int a0, .int a1, .int a2, .int a3, .int a4, .int a5, .int (-1)] [.int 0] _ _
              refine pm_R_br pm_M156 (pc_q := 32) (st_q := []) rfl rfl ?_
              refine pm_R_op pm_M156 (pc_q := 33) (st_q := [.int (-1)]) rfl rfl rfl ?_
              have px70 : cl_p37 f1 + h.2.1 ≤ cl_p37 f1 + h.2.1 := Nat.add_le_add_left ((cl_F.refl (ck := ck) (A := [32, 37, 38]) (n := 0) (s := 0) T.1).2.2.2.1) _
              exact pm_R_ret pm_M156 (r := some (.int (-1))) rfl rfl (K (-1) m h T ((cl_F.refl (ck := ck) (A := [32, 37, 38]) (n := 0) (s := 0) T.1).weak (by decide) (by decide)) (rf_W.refl [] m) (fun f0 ef => by rw [e2] at ef; cases ef; exact ⟨_, e2, px70⟩))
            · have B71 : sf_B 0 2147483647 a1 := sf_leR (Int32.not_lt.mp c68) sf_k0 (sf_any a1)
              refine pm_R_lo pm_M82 (pc_q := 5) rfl rfl rfl ?_
              refine pm_R_op pm_M82 (pc_q := 7) (st_q := [.int 50, .int a1]) rfl rfl rfl ?_
              refine pm_R_icmp pm_M82 (t := 14) (pc_q := 10) rfl rfl rfl (fun c72 => ?_) (fun c72 => ?_)
              · have B73 : sf_B 50 2147483647 a1 := sf_leR c72 sf_k50 B71
                refine pm_R_op pm_M82 (pc_q := 15) (st_q := [.int 0]) rfl rfl rfl ?_
                refine pm_R_ret pm_M82 (r := some (.int 0)) rfl rfl ?_
                show pm_R _ 156 23 [.ref 16, .int a0, .int a1, .int a2, .int a3, .int a4, .int a5, .int (-1)] [.int 0] _ _
                refine pm_R_br pm_M156 (pc_q := 32) (st_q := []) rfl rfl ?_
                refine pm_R_op pm_M156 (pc_q := 33) (st_q := [.int (-1)]) rfl rfl rfl ?_
                have px74 : cl_p37 f1 + h.2.1 ≤ cl_p37 f1 + h.2.1 := Nat.add_le_add_left ((cl_F.refl (ck := ck) (A := [32, 37, 38]) (n := 0) (s := 0) T.1).2.2.2.1) _
                exact pm_R_ret pm_M156 (r := some (.int (-1))) rfl rfl (K (-1) m h T ((cl_F.refl (ck := ck) (A := [32, 37, 38]) (n := 0) (s := 0) T.1).weak (by decide) (by decide)) (rf_W.refl [] m) (fun f0 ef => by rw [e2] at ef; cases ef; exact ⟨_, e2, px74⟩))
              · have B75 : sf_B 0 49 a1 := sf_ltL (Int32.not_le.mp c72) B71 sf_k50
                refine pm_R_op pm_M82 (pc_q := 11) (st_q := [.int 1]) rfl rfl rfl ?_
                refine pm_R_br pm_M82 (pc_q := 15) rfl rfl ?_
                refine pm_R_ret pm_M82 (r := some (.int 1)) rfl rfl ?_
                show pm_R _ 156 23 [.ref 16, .int a0, .int a1, .int a2, .int a3, .int a4, .int a5, .int (-1)] [.int 1] _ _
                refine pm_R_br pm_M156 (pc_q := 26) (st_q := []) rfl rfl ?_
                refine pm_R_lo pm_M156 (pc_q := 28) rfl rfl rfl ?_
                refine pm_R_op pm_M156 (pc_q := 29) (st_q := [.int (-1), .int (-1)]) rfl rfl rfl ?_
                refine pm_R_br pm_M156 (pc_q := 32) (st_q := []) rfl rfl ?_
                refine pm_R_op pm_M156 (pc_q := 33) (st_q := [.int (-1)]) rfl rfl rfl ?_
                have px76 : cl_p37 f1 + h.2.1 ≤ cl_p37 f1 + h.2.1 := Nat.add_le_add_left ((cl_F.refl (ck := ck) (A := [32, 37, 38]) (n := 0) (s := 0) T.1).2.2.2.1) _
                exact pm_R_ret pm_M156 (r := some (.int (-1))) rfl rfl (K (-1) m h T ((cl_F.refl (ck := ck) (A := [32, 37, 38]) (n := 0) (s := 0) T.1).weak (by decide) (by decide)) (rf_W.refl [] m) (fun f0 ef => by rw [e2] at ef; cases ef; exact ⟨_, e2, px76⟩))
          · skip
            refine pm_R_op pm_M62 (pc_q := 18) (st_q := [.null]) rfl rfl rfl ?_
            refine pm_R_br pm_M62 (pc_q := 30) rfl rfl ?_
            refine pm_R_ret pm_M62 (r := some (.null)) rfl rfl ?_
            show pm_R _ 156 16 [.ref 16, .int a0, .int a1, .int a2, .int a3, .int a4, .int a5, .int (-1)] [.null] _ _
            refine pm_R_br pm_M156 (pc_q := 32) rfl rfl ?_
            refine pm_R_op pm_M156 (pc_q := 33) (st_q := [.int (-1)]) rfl rfl rfl ?_
            have px77 : cl_p37 f1 + h.2.1 ≤ cl_p37 f1 + h.2.1 := Nat.add_le_add_left ((cl_F.refl (ck := ck) (A := [32, 37, 38]) (n := 0) (s := 0) T.1).2.2.2.1) _
            exact pm_R_ret pm_M156 (r := some (.int (-1))) rfl rfl (K (-1) m h T ((cl_F.refl (ck := ck) (A := [32, 37, 38]) (n := 0) (s := 0) T.1).weak (by decide) (by decide)) (rf_W.refl [] m) (fun f0 ef => by rw [e2] at ef; cases ef; exact ⟨_, e2, px77⟩))
      · skip
        refine pm_R_lo pm_M152 (pc_q := 19) rfl rfl rfl ?_
        refine pm_R_lo pm_M152 (pc_q := 20) rfl rfl rfl ?_
        obtain ⟨s78, n79, fd80, fg81, fs82, h83, h84, h85, eE86, eE87, eE88, eE89, b90⟩ := (G.2.2.2.1 l48 hk50).2.2.2
        have kq91 := G.2.2.2.1 l48 hk50
        refine pm_R_cv pm_M152 (pc_q := 23) (a := l48) (ra := [.int a3]) (rest := []) (ls_q := [.ref l48, .int a3]) rfl rfl (Or.inl rfl) pm_M143 (T.im hk50 (by decide) (by decide) eE86) rfl (G.ge hk50 (by decide)) (T.al hk50 (by decide)) rfl rfl (Nat.le_of_ble_eq_true rfl) rfl rfl ?_
        refine pm_R_lo pm_M143 (pc_q := 1) rfl rfl rfl ?_
        refine pm_R_ifc pm_M143 (t := 16) (pc_q := 4) rfl rfl rfl (fun c92 => ?_) (fun c92 => ?_)
        · have B93 : sf_B (-2147483648) (-1) a3 := sf_ltL c92 (sf_any a3) sf_k0
          refine pm_R_op pm_M143 (pc_q := 17) (st_q := [.int 0]) rfl rfl rfl ?_
          refine pm_R_ret pm_M143 (r := some (.int 0)) rfl rfl ?_
          show pm_R _ 152 23 [.ref 16, .int a2, .int a3, .int a4, .ref l48] [.int 0] _ _
          refine pm_R_br pm_M152 (pc_q := 35) (st_q := []) rfl rfl ?_
          refine pm_R_op pm_M152 (pc_q := 36) (st_q := [.int (-1)]) rfl rfl rfl ?_
          refine pm_R_ret pm_M152 (r := some (.int (-1))) rfl rfl ?_
          show pm_R _ 156 9 [.ref 16, .int a0, .int a1, .int a2, .int a3, .int a4, .int a5, pm_no] [.int (-1)] _ _
          refine pm_R_lo pm_M156 (pc_q := 11) (ls_q := [.ref 16, .int a0, .int a1, .int a2, .int a3, .int a4, .int a5, .int (-1)]) (st_q := []) rfl rfl rfl ?_
          refine pm_R_lo pm_M156 (pc_q := 12) rfl rfl rfl ?_
          refine pm_R_lo pm_M156 (pc_q := 13) rfl rfl rfl ?_
          refine pm_R_cv pm_M156 (pc_q := 16) (a := 16) (ra := [.int a0]) (rest := []) (ls_q := [.ref 16, .int a0]) rfl rfl (Or.inl rfl) pm_M62 T.e16 rfl (by decide) (T.lt (by decide)) rfl rfl (Nat.le_of_ble_eq_true rfl) rfl rfl ?_
          refine pm_R_lo pm_M62 (pc_q := 1) rfl rfl rfl ?_
          refine pm_R_ifc pm_M62 (t := 17) (pc_q := 4) rfl rfl rfl (fun c94 => ?_) (fun c94 => ?_)
          · have B95 : sf_B (-2147483648) (-1) a0 := sf_ltL c94 (sf_any a0) sf_k0
            refine pm_R_op pm_M62 (pc_q := 18) (st_q := [.null]) rfl rfl rfl ?_
            refine pm_R_br pm_M62 (pc_q := 30) rfl rfl ?_
            refine pm_R_ret pm_M62 (r := some (.null)) rfl rfl ?_
            show pm_R _ 156 16 [.ref 16, .int a0, .int a1, .int a2, .int a3, .int a4, .int a5, .int (-1)] [.null] _ _
            refine pm_R_br pm_M156 (pc_q := 32) rfl rfl ?_
            refine pm_R_op pm_M156 (pc_q := 33) (st_q := [.int (-1)]) rfl rfl rfl ?_
            have px96 : cl_p37 f1 + h.2.1 ≤ cl_p37 f1 + h.2.1 := Nat.add_le_add_left ((cl_F.refl (ck := ck) (A := [32, 37, 38]) (n := 0) (s := 0) T.1).2.2.2.1) _
            exact pm_R_ret pm_M156 (r := some (.int (-1))) rfl rfl (K (-1) m h T ((cl_F.refl (ck := ck) (A := [32, 37, 38]) (n := 0) (s := 0) T.1).weak (by decide) (by decide)) (rf_W.refl [] m) (fun f0 ef => by rw [e2] at ef; cases ef; exact ⟨_, e2, px96⟩))
          · have B97 : sf_B 0 2147483647 a0 := sf_leR (Int32.not_lt.mp c94) sf_k0 (sf_any a0)
            refine pm_R_lo pm_M62 (pc_q := 5) rfl rfl rfl ?_
            refine pm_R_lo pm_M62 (pc_q := 6) rfl rfl rfl ?_
            refine pm_R_get pm_M62 (pc_q := 9) (v := .ref 17) rfl rfl T.e16 (by decide) (T.lt (by decide)) rfl rfl ?_
            refine pm_R_get pm_M62 (pc_q := 12) (v := .ref 23) rfl rfl T.e17 (by decide) (T.lt (by decide)) rfl rfl ?_
            refine pm_R_op pm_M62 (pc_q := 13) (st_q := [.int 0, .ref 23, .int a0]) rfl rfl rfl ?_
            obtain ⟨z98, ez99⟩ : ∃ y, f39 (Int32.toNatClampNeg 0) = y := ⟨_, rfl⟩
            have B100 : sf_B 0 2 z98 := ez99 ▸ (b41 0)
            refine pm_R_iald pm_M62 (pc_q := 14) (v := z98) rfl e40 (T.lt (by decide)) rfl ez99 rfl ?_
            refine pm_R_icmp pm_M62 (t := 21) (pc_q := 17) rfl rfl rfl (fun c101 => ?_) (fun c101 => ?_)
            · have B102 : sf_B 0 1 a0 := sf_ltL c101 B97 B100
              have B103 : sf_B 1 2 z98 := sf_ltR c101 B97 B100
              refine pm_R_lo pm_M62 (pc_q := 22) rfl rfl rfl ?_
              refine pm_R_get pm_M62 (pc_q := 25) (v := .ref 17) rfl rfl T.e16 (by decide) (T.lt (by decide)) rfl rfl ?_
              refine pm_R_get pm_M62 (pc_q := 28) (v := .ref 19) rfl rfl T.e17 (by decide) (T.lt (by decide)) rfl rfl ?_
              refine pm_R_lo pm_M62 (pc_q := 29) rfl rfl rfl ?_
              obtain ⟨f104, e105, b106⟩ := T.C 19 (by decide) (by decide)
              obtain ⟨l107, hx108⟩ := cl_there0 T e40 e105 ez99 c101 B102 (by decide)
              have hk109 := b106 _ _ hx108
              refine pm_R_aald pm_M62 (pc_q := 30) (v := .ref l107) rfl e105 (by decide) (by decide) (by decide) (T.lt (by decide)) (sf_in B102 (by decide) (by decide)) (by rw [hx108]; rfl) rfl ?_
              refine pm_R_ret pm_M62 (r := some (.ref l107)) rfl rfl ?_
              show pm_R _ 156 16 [.ref 16, .int a0, .int a1, .int a2, .int a3, .int a4, .int a5, .int (-1)] [.ref l107] _ _
              refine pm_R_br pm_M156 (pc_q := 19) rfl rfl ?_
              refine pm_R_lo pm_M156 (pc_q := 20) rfl rfl rfl ?_
              refine pm_R_cs pm_M156 (pc_q := 23) (ra := [.int a1]) (rest := []) (ls_q := [.int a1]) rfl rfl (Or.inl rfl) pm_M82 rfl rfl (Nat.le_of_ble_eq_true rfl) rfl rfl ?_
              refine pm_R_lo pm_M82 (pc_q := 1) rfl rfl rfl ?_
              refine pm_R_ifc pm_M82 (t := 14) (pc_q := 4) rfl rfl rfl (fun c110 => ?_) (fun c110 => ?_)
              · have B111 : sf_B (-2147483648) (-1) a1 := sf_ltL c110 (sf_any a1) sf_k0
                refine pm_R_op pm_M82 (pc_q := 15) (st_q := [.int 0]) rfl rfl rfl ?_
                refine pm_R_ret pm_M82 (r := some (.int 0)) rfl rfl ?_
                show pm_R _ 156 23 [.ref 16, .int a0, .int a1, .int a2, .int a3, .int a4, .int a5, .int (-1)] [.int 0] _ _
                refine pm_R_br pm_M156 (pc_q := 32) (st_q := []) rfl rfl ?_
                refine pm_R_op pm_M156 (pc_q := 33) (st_q := [.int (-1)]) rfl rfl rfl ?_
                have px112 : cl_p37 f1 + h.2.1 ≤ cl_p37 f1 + h.2.1 := Nat.add_le_add_left ((cl_F.refl (ck := ck) (A := [32, 37, 38]) (n := 0) (s := 0) T.1).2.2.2.1) _
                exact pm_R_ret pm_M156 (r := some (.int (-1))) rfl rfl (K (-1) m h T ((cl_F.refl (ck := ck) (A := [32, 37, 38]) (n := 0) (s := 0) T.1).weak (by decide) (by decide)) (rf_W.refl [] m) (fun f0 ef => by rw [e2] at ef; cases ef; exact ⟨_, e2, px112⟩))
              · have B113 : sf_B 0 2147483647 a1 := sf_leR (Int32.not_lt.mp c110) sf_k0 (sf_any a1)
                refine pm_R_lo pm_M82 (pc_q := 5) rfl rfl rfl ?_
                refine pm_R_op pm_M82 (pc_q := 7) (st_q := [.int 50, .int a1]) rfl rfl rfl ?_
                refine pm_R_icmp pm_M82 (t := 14) (pc_q := 10) rfl rfl rfl (fun c114 => ?_) (fun c114 => ?_)
                · have B115 : sf_B 50 2147483647 a1 := sf_leR c114 sf_k50 B113
                  refine pm_R_op pm_M82 (pc_q := 15) (st_q := [.int 0]) rfl rfl rfl ?_
                  refine pm_R_ret pm_M82 (r := some (.int 0)) rfl rfl ?_
                  show pm_R _ 156 23 [.ref 16, .int a0, .int a1, .int a2, .int a3, .int a4, .int a5, .int (-1)] [.int 0] _ _
                  refine pm_R_br pm_M156 (pc_q := 32) (st_q := []) rfl rfl ?_
                  refine pm_R_op pm_M156 (pc_q := 33) (st_q := [.int (-1)]) rfl rfl rfl ?_
                  have px116 : cl_p37 f1 + h.2.1 ≤ cl_p37 f1 + h.2.1 := Nat.add_le_add_left ((cl_F.refl (ck := ck) (A := [32, 37, 38]) (n := 0) (s := 0) T.1).2.2.2.1) _
                  exact pm_R_ret pm_M156 (r := some (.int (-1))) rfl rfl (K (-1) m h T ((cl_F.refl (ck := ck) (A := [32, 37, 38]) (n := 0) (s := 0) T.1).weak (by decide) (by decide)) (rf_W.refl [] m) (fun f0 ef => by rw [e2] at ef; cases ef; exact ⟨_, e2, px116⟩))
                · have B117 : sf_B 0 49 a1 := sf_ltL (Int32.not_le.mp c114) B113 sf_k50
                  refine pm_R_op pm_M82 (pc_q := 11) (st_q := [.int 1]) rfl rfl rfl ?_
                  refine pm_R_br pm_M82 (pc_q := 15) rfl rfl ?_
                  refine pm_R_ret pm_M82 (r := some (.int 1)) rfl rfl ?_
                  show pm_R _ 156 23 [.ref 16, .int a0, .int a1, .int a2, .int a3, .int a4, .int a5, .int (-1)] [.int 1] _ _
                  refine pm_R_br pm_M156 (pc_q := 26) (st_q := []) rfl rfl ?_
                  refine pm_R_lo pm_M156 (pc_q := 28) rfl rfl rfl ?_
                  refine pm_R_op pm_M156 (pc_q := 29) (st_q := [.int (-1), .int (-1)]) rfl rfl rfl ?_
                  refine pm_R_br pm_M156 (pc_q := 32) (st_q := []) rfl rfl ?_
                  refine pm_R_op pm_M156 (pc_q := 33) (st_q := [.int (-1)]) rfl rfl rfl ?_
                  have px118 : cl_p37 f1 + h.2.1 ≤ cl_p37 f1 + h.2.1 := Nat.add_le_add_left ((cl_F.refl (ck := ck) (A := [32, 37, 38]) (n := 0) (s := 0) T.1).2.2.2.1) _
                  exact pm_R_ret pm_M156 (r := some (.int (-1))) rfl rfl (K (-1) m h T ((cl_F.refl (ck := ck) (A := [32, 37, 38]) (n := 0) (s := 0) T.1).weak (by decide) (by decide)) (rf_W.refl [] m) (fun f0 ef => by rw [e2] at ef; cases ef; exact ⟨_, e2, px118⟩))
            · skip
              refine pm_R_op pm_M62 (pc_q := 18) (st_q := [.null]) rfl rfl rfl ?_
              refine pm_R_br pm_M62 (pc_q := 30) rfl rfl ?_
              refine pm_R_ret pm_M62 (r := some (.null)) rfl rfl ?_
              show pm_R _ 156 16 [.ref 16, .int a0, .int a1, .int a2, .int a3, .int a4, .int a5, .int (-1)] [.null] _ _
              refine pm_R_br pm_M156 (pc_q := 32) rfl rfl ?_
              refine pm_R_op pm_M156 (pc_q := 33) (st_q := [.int (-1)]) rfl rfl rfl ?_
              have px119 : cl_p37 f1 + h.2.1 ≤ cl_p37 f1 + h.2.1 := Nat.add_le_add_left ((cl_F.refl (ck := ck) (A := [32, 37, 38]) (n := 0) (s := 0) T.1).2.2.2.1) _
              exact pm_R_ret pm_M156 (r := some (.int (-1))) rfl rfl (K (-1) m h T ((cl_F.refl (ck := ck) (A := [32, 37, 38]) (n := 0) (s := 0) T.1).weak (by decide) (by decide)) (rf_W.refl [] m) (fun f0 ef => by rw [e2] at ef; cases ef; exact ⟨_, e2, px119⟩))
        · have B120 : sf_B 0 2147483647 a3 := sf_leR (Int32.not_lt.mp c92) sf_k0 (sf_any a3)
          refine pm_R_lo pm_M143 (pc_q := 5) rfl rfl rfl ?_
          refine pm_R_lo pm_M143 (pc_q := 6) rfl rfl rfl ?_
          refine pm_R_get pm_M143 (pc_q := 9) (v := .int (Int32.ofNat s78)) rfl rfl (T.im hk50 (by decide) (by decide) eE86) (G.ge hk50 (by decide)) (T.al hk50 (by decide)) rfl rfl ?_
          refine pm_R_icmp pm_M143 (t := 16) (pc_q := 12) rfl rfl rfl (fun c121 => ?_) (fun c121 => ?_)
          · have B122 : sf_B 1 2147483647 a3 := sf_leR c121 (sf_ofB1 h84 h83 (by decide)) B120
            refine pm_R_op pm_M143 (pc_q := 17) (st_q := [.int 0]) rfl rfl rfl ?_
            refine pm_R_ret pm_M143 (r := some (.int 0)) rfl rfl ?_
            show pm_R _ 152 23 [.ref 16, .int a2, .int a3, .int a4, .ref l48] [.int 0] _ _
            refine pm_R_br pm_M152 (pc_q := 35) (st_q := []) rfl rfl ?_
            refine pm_R_op pm_M152 (pc_q := 36) (st_q := [.int (-1)]) rfl rfl rfl ?_
            refine pm_R_ret pm_M152 (r := some (.int (-1))) rfl rfl ?_
            show pm_R _ 156 9 [.ref 16, .int a0, .int a1, .int a2, .int a3, .int a4, .int a5, pm_no] [.int (-1)] _ _
            refine pm_R_lo pm_M156 (pc_q := 11) (ls_q := [.ref 16, .int a0, .int a1, .int a2, .int a3, .int a4, .int a5, .int (-1)]) (st_q := []) rfl rfl rfl ?_
            refine pm_R_lo pm_M156 (pc_q := 12) rfl rfl rfl ?_
            refine pm_R_lo pm_M156 (pc_q := 13) rfl rfl rfl ?_
            refine pm_R_cv pm_M156 (pc_q := 16) (a := 16) (ra := [.int a0]) (rest := []) (ls_q := [.ref 16, .int a0]) rfl rfl (Or.inl rfl) pm_M62 T.e16 rfl (by decide) (T.lt (by decide)) rfl rfl (Nat.le_of_ble_eq_true rfl) rfl rfl ?_
            refine pm_R_lo pm_M62 (pc_q := 1) rfl rfl rfl ?_
            refine pm_R_ifc pm_M62 (t := 17) (pc_q := 4) rfl rfl rfl (fun c123 => ?_) (fun c123 => ?_)
            · have B124 : sf_B (-2147483648) (-1) a0 := sf_ltL c123 (sf_any a0) sf_k0
              refine pm_R_op pm_M62 (pc_q := 18) (st_q := [.null]) rfl rfl rfl ?_
              refine pm_R_br pm_M62 (pc_q := 30) rfl rfl ?_
              refine pm_R_ret pm_M62 (r := some (.null)) rfl rfl ?_
              show pm_R _ 156 16 [.ref 16, .int a0, .int a1, .int a2, .int a3, .int a4, .int a5, .int (-1)] [.null] _ _
              refine pm_R_br pm_M156 (pc_q := 32) rfl rfl ?_
              refine pm_R_op pm_M156 (pc_q := 33) (st_q := [.int (-1)]) rfl rfl rfl ?_
              have px125 : cl_p37 f1 + h.2.1 ≤ cl_p37 f1 + h.2.1 := Nat.add_le_add_left ((cl_F.refl (ck := ck) (A := [32, 37, 38]) (n := 0) (s := 0) T.1).2.2.2.1) _
              exact pm_R_ret pm_M156 (r := some (.int (-1))) rfl rfl (K (-1) m h T ((cl_F.refl (ck := ck) (A := [32, 37, 38]) (n := 0) (s := 0) T.1).weak (by decide) (by decide)) (rf_W.refl [] m) (fun f0 ef => by rw [e2] at ef; cases ef; exact ⟨_, e2, px125⟩))
            · have B126 : sf_B 0 2147483647 a0 := sf_leR (Int32.not_lt.mp c123) sf_k0 (sf_any a0)
              refine pm_R_lo pm_M62 (pc_q := 5) rfl rfl rfl ?_
              refine pm_R_lo pm_M62 (pc_q := 6) rfl rfl rfl ?_
              refine pm_R_get pm_M62 (pc_q := 9) (v := .ref 17) rfl rfl T.e16 (by decide) (T.lt (by decide)) rfl rfl ?_
              refine pm_R_get pm_M62 (pc_q := 12) (v := .ref 23) rfl rfl T.e17 (by decide) (T.lt (by decide)) rfl rfl ?_
              refine pm_R_op pm_M62 (pc_q := 13) (st_q := [.int 0, .ref 23, .int a0]) rfl rfl rfl ?_
              obtain ⟨z127, ez128⟩ : ∃ y, f39 (Int32.toNatClampNeg 0) = y := ⟨_, rfl⟩
              have B129 : sf_B 0 2 z127 := ez128 ▸ (b41 0)
              refine pm_R_iald pm_M62 (pc_q := 14) (v := z127) rfl e40 (T.lt (by decide)) rfl ez128 rfl ?_
              refine pm_R_icmp pm_M62 (t := 21) (pc_q := 17) rfl rfl rfl (fun c130 => ?_) (fun c130 => ?_)
              · have B131 : sf_B 0 1 a0 := sf_ltL c130 B126 B129
                have B132 : sf_B 1 2 z127 := sf_ltR c130 B126 B129
                refine pm_R_lo pm_M62 (pc_q := 22) rfl rfl rfl ?_
                refine pm_R_get pm_M62 (pc_q := 25) (v := .ref 17) rfl rfl T.e16 (by decide) (T.lt (by decide)) rfl rfl ?_
                refine pm_R_get pm_M62 (pc_q := 28) (v := .ref 19) rfl rfl T.e17 (by decide) (T.lt (by decide)) rfl rfl ?_
                refine pm_R_lo pm_M62 (pc_q := 29) rfl rfl rfl ?_
                obtain ⟨f133, e134, b135⟩ := T.C 19 (by decide) (by decide)
                obtain ⟨l136, hx137⟩ := cl_there0 T e40 e134 ez128 c130 B131 (by decide)
                have hk138 := b135 _ _ hx137
                refine pm_R_aald pm_M62 (pc_q := 30) (v := .ref l136) rfl e134 (by decide) (by decide) (by decide) (T.lt (by decide)) (sf_in B131 (by decide) (by decide)) (by rw [hx137]; rfl) rfl ?_
                refine pm_R_ret pm_M62 (r := some (.ref l136)) rfl rfl ?_
                show pm_R _ 156 16 [.ref 16, .int a0, .int a1, .int a2, .int a3, .int a4, .int a5, .int (-1)] [.ref l136] _ _
                refine pm_R_br pm_M156 (pc_q := 19) rfl rfl ?_
                refine pm_R_lo pm_M156 (pc_q := 20) rfl rfl rfl ?_
                refine pm_R_cs pm_M156 (pc_q := 23) (ra := [.int a1]) (rest := []) (ls_q := [.int a1]) rfl rfl (Or.inl rfl) pm_M82 rfl rfl (Nat.le_of_ble_eq_true rfl) rfl rfl ?_
                refine pm_R_lo pm_M82 (pc_q := 1) rfl rfl rfl ?_
                refine pm_R_ifc pm_M82 (t := 14) (pc_q := 4) rfl rfl rfl (fun c139 => ?_) (fun c139 => ?_)
                · have B140 : sf_B (-2147483648) (-1) a1 := sf_ltL c139 (sf_any a1) sf_k0
                  refine pm_R_op pm_M82 (pc_q := 15) (st_q := [.int 0]) rfl rfl rfl ?_
                  refine pm_R_ret pm_M82 (r := some (.int 0)) rfl rfl ?_
                  show pm_R _ 156 23 [.ref 16, .int a0, .int a1, .int a2, .int a3, .int a4, .int a5, .int (-1)] [.int 0] _ _
                  refine pm_R_br pm_M156 (pc_q := 32) (st_q := []) rfl rfl ?_
                  refine pm_R_op pm_M156 (pc_q := 33) (st_q := [.int (-1)]) rfl rfl rfl ?_
                  have px141 : cl_p37 f1 + h.2.1 ≤ cl_p37 f1 + h.2.1 := Nat.add_le_add_left ((cl_F.refl (ck := ck) (A := [32, 37, 38]) (n := 0) (s := 0) T.1).2.2.2.1) _
                  exact pm_R_ret pm_M156 (r := some (.int (-1))) rfl rfl (K (-1) m h T ((cl_F.refl (ck := ck) (A := [32, 37, 38]) (n := 0) (s := 0) T.1).weak (by decide) (by decide)) (rf_W.refl [] m) (fun f0 ef => by rw [e2] at ef; cases ef; exact ⟨_, e2, px141⟩))
                · have B142 : sf_B 0 2147483647 a1 := sf_leR (Int32.not_lt.mp c139) sf_k0 (sf_any a1)
                  refine pm_R_lo pm_M82 (pc_q := 5) rfl rfl rfl ?_
                  refine pm_R_op pm_M82 (pc_q := 7) (st_q := [.int 50, .int a1]) rfl rfl rfl ?_
                  refine pm_R_icmp pm_M82 (t := 14) (pc_q := 10) rfl rfl rfl (fun c143 => ?_) (fun c143 => ?_)
                  · have B144 : sf_B 50 2147483647 a1 := sf_leR c143 sf_k50 B142
                    refine pm_R_op pm_M82 (pc_q := 15) (st_q := [.int 0]) rfl rfl rfl ?_
                    refine pm_R_ret pm_M82 (r := some (.int 0)) rfl rfl ?_
                    show pm_R _ 156 23 [.ref 16, .int a0, .int a1, .int a2, .int a3, .int a4, .int a5, .int (-1)] [.int 0] _ _
                    refine pm_R_br pm_M156 (pc_q := 32) (st_q := []) rfl rfl ?_
                    refine pm_R_op pm_M156 (pc_q := 33) (st_q := [.int (-1)]) rfl rfl rfl ?_
                    have px145 : cl_p37 f1 + h.2.1 ≤ cl_p37 f1 + h.2.1 := Nat.add_le_add_left ((cl_F.refl (ck := ck) (A := [32, 37, 38]) (n := 0) (s := 0) T.1).2.2.2.1) _
                    exact pm_R_ret pm_M156 (r := some (.int (-1))) rfl rfl (K (-1) m h T ((cl_F.refl (ck := ck) (A := [32, 37, 38]) (n := 0) (s := 0) T.1).weak (by decide) (by decide)) (rf_W.refl [] m) (fun f0 ef => by rw [e2] at ef; cases ef; exact ⟨_, e2, px145⟩))
                  · have B146 : sf_B 0 49 a1 := sf_ltL (Int32.not_le.mp c143) B142 sf_k50
                    refine pm_R_op pm_M82 (pc_q := 11) (st_q := [.int 1]) rfl rfl rfl ?_
                    refine pm_R_br pm_M82 (pc_q := 15) rfl rfl ?_
                    refine pm_R_ret pm_M82 (r := some (.int 1)) rfl rfl ?_
                    show pm_R _ 156 23 [.ref 16, .int a0, .int a1, .int a2, .int a3, .int a4, .int a5, .int (-1)] [.int 1] _ _
                    refine pm_R_br pm_M156 (pc_q := 26) (st_q := []) rfl rfl ?_
                    refine pm_R_lo pm_M156 (pc_q := 28) rfl rfl rfl ?_
                    refine pm_R_op pm_M156 (pc_q := 29) (st_q := [.int (-1), .int (-1)]) rfl rfl rfl ?_
                    refine pm_R_br pm_M156 (pc_q := 32) (st_q := []) rfl rfl ?_
                    refine pm_R_op pm_M156 (pc_q := 33) (st_q := [.int (-1)]) rfl rfl rfl ?_
                    have px147 : cl_p37 f1 + h.2.1 ≤ cl_p37 f1 + h.2.1 := Nat.add_le_add_left ((cl_F.refl (ck := ck) (A := [32, 37, 38]) (n := 0) (s := 0) T.1).2.2.2.1) _
                    exact pm_R_ret pm_M156 (r := some (.int (-1))) rfl rfl (K (-1) m h T ((cl_F.refl (ck := ck) (A := [32, 37, 38]) (n := 0) (s := 0) T.1).weak (by decide) (by decide)) (rf_W.refl [] m) (fun f0 ef => by rw [e2] at ef; cases ef; exact ⟨_, e2, px147⟩))
              · skip
                refine pm_R_op pm_M62 (pc_q := 18) (st_q := [.null]) rfl rfl rfl ?_
                refine pm_R_br pm_M62 (pc_q := 30) rfl rfl ?_
                refine pm_R_ret pm_M62 (r := some (.null)) rfl rfl ?_
                show pm_R _ 156 16 [.ref 16, .int a0, .int a1, .int a2, .int a3, .int a4, .int a5, .int (-1)] [.null] _ _
                refine pm_R_br pm_M156 (pc_q := 32) rfl rfl ?_
                refine pm_R_op pm_M156 (pc_q := 33) (st_q := [.int (-1)]) rfl rfl rfl ?_
                have px148 : cl_p37 f1 + h.2.1 ≤ cl_p37 f1 + h.2.1 := Nat.add_le_add_left ((cl_F.refl (ck := ck) (A := [32, 37, 38]) (n := 0) (s := 0) T.1).2.2.2.1) _
                exact pm_R_ret pm_M156 (r := some (.int (-1))) rfl rfl (K (-1) m h T ((cl_F.refl (ck := ck) (A := [32, 37, 38]) (n := 0) (s := 0) T.1).weak (by decide) (by decide)) (rf_W.refl [] m) (fun f0 ef => by rw [e2] at ef; cases ef; exact ⟨_, e2, px148⟩))
          · have B149 : sf_B 0 5 a3 := sf_ltL (Int32.not_le.mp c121) B120 (sf_ofB1 h84 h83 (by decide))
            refine pm_R_op pm_M143 (pc_q := 13) (st_q := [.int 1]) rfl rfl rfl ?_
            refine pm_R_br pm_M143 (pc_q := 17) rfl rfl ?_
            refine pm_R_ret pm_M143 (r := some (.int 1)) rfl rfl ?_
            show pm_R _ 152 23 [.ref 16, .int a2, .int a3, .int a4, .ref l48] [.int 1] _ _
            refine pm_R_br pm_M152 (pc_q := 26) (st_q := []) rfl rfl ?_
            refine pm_R_lo pm_M152 (pc_q := 28) rfl rfl rfl ?_
            refine pm_R_lo pm_M152 (pc_q := 29) rfl rfl rfl ?_
            refine pm_R_cv pm_M152 (pc_q := 32) (a := l48) (ra := [.int a4]) (rest := []) (ls_q := [.ref l48, .int a4]) rfl rfl (Or.inl rfl) pm_M143 (T.im hk50 (by decide) (by decide) eE86) rfl (G.ge hk50 (by decide)) (T.al hk50 (by decide)) rfl rfl (Nat.le_of_ble_eq_true rfl) rfl rfl ?_
            refine pm_R_lo pm_M143 (pc_q := 1) rfl rfl rfl ?_
            refine pm_R_ifc pm_M143 (t := 16) (pc_q := 4) rfl rfl rfl (fun c150 => ?_) (fun c150 => ?_)
            · have B151 : sf_B (-2147483648) (-1) a4 := sf_ltL c150 (sf_any a4) sf_k0
              refine pm_R_op pm_M143 (pc_q := 17) (st_q := [.int 0]) rfl rfl rfl ?_
              refine pm_R_ret pm_M143 (r := some (.int 0)) rfl rfl ?_
              show pm_R _ 152 32 [.ref 16, .int a2, .int a3, .int a4, .ref l48] [.int 0] _ _
              refine pm_R_br pm_M152 (pc_q := 35) (st_q := []) rfl rfl ?_
              refine pm_R_op pm_M152 (pc_q := 36) (st_q := [.int (-1)]) rfl rfl rfl ?_
              refine pm_R_ret pm_M152 (r := some (.int (-1))) rfl rfl ?_
              show pm_R _ 156 9 [.ref 16, .int a0, .int a1, .int a2, .int a3, .int a4, .int a5, pm_no] [.int (-1)] _ _
              refine pm_R_lo pm_M156 (pc_q := 11) (ls_q := [.ref 16, .int a0, .int a1, .int a2, .int a3, .int a4, .int a5, .int (-1)]) (st_q := []) rfl rfl rfl ?_
              refine pm_R_lo pm_M156 (pc_q := 12) rfl rfl rfl ?_
              refine pm_R_lo pm_M156 (pc_q := 13) rfl rfl rfl ?_
              refine pm_R_cv pm_M156 (pc_q := 16) (a := 16) (ra := [.int a0]) (rest := []) (ls_q := [.ref 16, .int a0]) rfl rfl (Or.inl rfl) pm_M62 T.e16 rfl (by decide) (T.lt (by decide)) rfl rfl (Nat.le_of_ble_eq_true rfl) rfl rfl ?_
              refine pm_R_lo pm_M62 (pc_q := 1) rfl rfl rfl ?_
              refine pm_R_ifc pm_M62 (t := 17) (pc_q := 4) rfl rfl rfl (fun c152 => ?_) (fun c152 => ?_)
              · have B153 : sf_B (-2147483648) (-1) a0 := sf_ltL c152 (sf_any a0) sf_k0
                refine pm_R_op pm_M62 (pc_q := 18) (st_q := [.null]) rfl rfl rfl ?_
                refine pm_R_br pm_M62 (pc_q := 30) rfl rfl ?_
                refine pm_R_ret pm_M62 (r := some (.null)) rfl rfl ?_
                show pm_R _ 156 16 [.ref 16, .int a0, .int a1, .int a2, .int a3, .int a4, .int a5, .int (-1)] [.null] _ _
                refine pm_R_br pm_M156 (pc_q := 32) rfl rfl ?_
                refine pm_R_op pm_M156 (pc_q := 33) (st_q := [.int (-1)]) rfl rfl rfl ?_
                have px154 : cl_p37 f1 + h.2.1 ≤ cl_p37 f1 + h.2.1 := Nat.add_le_add_left ((cl_F.refl (ck := ck) (A := [32, 37, 38]) (n := 0) (s := 0) T.1).2.2.2.1) _
                exact pm_R_ret pm_M156 (r := some (.int (-1))) rfl rfl (K (-1) m h T ((cl_F.refl (ck := ck) (A := [32, 37, 38]) (n := 0) (s := 0) T.1).weak (by decide) (by decide)) (rf_W.refl [] m) (fun f0 ef => by rw [e2] at ef; cases ef; exact ⟨_, e2, px154⟩))
              · have B155 : sf_B 0 2147483647 a0 := sf_leR (Int32.not_lt.mp c152) sf_k0 (sf_any a0)
                refine pm_R_lo pm_M62 (pc_q := 5) rfl rfl rfl ?_
                refine pm_R_lo pm_M62 (pc_q := 6) rfl rfl rfl ?_
                refine pm_R_get pm_M62 (pc_q := 9) (v := .ref 17) rfl rfl T.e16 (by decide) (T.lt (by decide)) rfl rfl ?_
                refine pm_R_get pm_M62 (pc_q := 12) (v := .ref 23) rfl rfl T.e17 (by decide) (T.lt (by decide)) rfl rfl ?_
                refine pm_R_op pm_M62 (pc_q := 13) (st_q := [.int 0, .ref 23, .int a0]) rfl rfl rfl ?_
                obtain ⟨z156, ez157⟩ : ∃ y, f39 (Int32.toNatClampNeg 0) = y := ⟨_, rfl⟩
                have B158 : sf_B 0 2 z156 := ez157 ▸ (b41 0)
                refine pm_R_iald pm_M62 (pc_q := 14) (v := z156) rfl e40 (T.lt (by decide)) rfl ez157 rfl ?_
                refine pm_R_icmp pm_M62 (t := 21) (pc_q := 17) rfl rfl rfl (fun c159 => ?_) (fun c159 => ?_)
                · have B160 : sf_B 0 1 a0 := sf_ltL c159 B155 B158
                  have B161 : sf_B 1 2 z156 := sf_ltR c159 B155 B158
                  refine pm_R_lo pm_M62 (pc_q := 22) rfl rfl rfl ?_
                  refine pm_R_get pm_M62 (pc_q := 25) (v := .ref 17) rfl rfl T.e16 (by decide) (T.lt (by decide)) rfl rfl ?_
                  refine pm_R_get pm_M62 (pc_q := 28) (v := .ref 19) rfl rfl T.e17 (by decide) (T.lt (by decide)) rfl rfl ?_
                  refine pm_R_lo pm_M62 (pc_q := 29) rfl rfl rfl ?_
                  obtain ⟨f162, e163, b164⟩ := T.C 19 (by decide) (by decide)
                  obtain ⟨l165, hx166⟩ := cl_there0 T e40 e163 ez157 c159 B160 (by decide)
                  have hk167 := b164 _ _ hx166
                  refine pm_R_aald pm_M62 (pc_q := 30) (v := .ref l165) rfl e163 (by decide) (by decide) (by decide) (T.lt (by decide)) (sf_in B160 (by decide) (by decide)) (by rw [hx166]; rfl) rfl ?_
                  refine pm_R_ret pm_M62 (r := some (.ref l165)) rfl rfl ?_
                  show pm_R _ 156 16 [.ref 16, .int a0, .int a1, .int a2, .int a3, .int a4, .int a5, .int (-1)] [.ref l165] _ _
                  refine pm_R_br pm_M156 (pc_q := 19) rfl rfl ?_
                  refine pm_R_lo pm_M156 (pc_q := 20) rfl rfl rfl ?_
                  refine pm_R_cs pm_M156 (pc_q := 23) (ra := [.int a1]) (rest := []) (ls_q := [.int a1]) rfl rfl (Or.inl rfl) pm_M82 rfl rfl (Nat.le_of_ble_eq_true rfl) rfl rfl ?_
                  refine pm_R_lo pm_M82 (pc_q := 1) rfl rfl rfl ?_
                  refine pm_R_ifc pm_M82 (t := 14) (pc_q := 4) rfl rfl rfl (fun c168 => ?_) (fun c168 => ?_)
                  · have B169 : sf_B (-2147483648) (-1) a1 := sf_ltL c168 (sf_any a1) sf_k0
                    refine pm_R_op pm_M82 (pc_q := 15) (st_q := [.int 0]) rfl rfl rfl ?_
                    refine pm_R_ret pm_M82 (r := some (.int 0)) rfl rfl ?_
                    show pm_R _ 156 23 [.ref 16, .int a0, .int a1, .int a2, .int a3, .int a4, .int a5, .int (-1)] [.int 0] _ _
                    refine pm_R_br pm_M156 (pc_q := 32) (st_q := []) rfl rfl ?_
                    refine pm_R_op pm_M156 (pc_q := 33) (st_q := [.int (-1)]) rfl rfl rfl ?_
                    have px170 : cl_p37 f1 + h.2.1 ≤ cl_p37 f1 + h.2.1 := Nat.add_le_add_left ((cl_F.refl (ck := ck) (A := [32, 37, 38]) (n := 0) (s := 0) T.1).2.2.2.1) _
                    exact pm_R_ret pm_M156 (r := some (.int (-1))) rfl rfl (K (-1) m h T ((cl_F.refl (ck := ck) (A := [32, 37, 38]) (n := 0) (s := 0) T.1).weak (by decide) (by decide)) (rf_W.refl [] m) (fun f0 ef => by rw [e2] at ef; cases ef; exact ⟨_, e2, px170⟩))
                  · have B171 : sf_B 0 2147483647 a1 := sf_leR (Int32.not_lt.mp c168) sf_k0 (sf_any a1)
                    refine pm_R_lo pm_M82 (pc_q := 5) rfl rfl rfl ?_
                    refine pm_R_op pm_M82 (pc_q := 7) (st_q := [.int 50, .int a1]) rfl rfl rfl ?_
                    refine pm_R_icmp pm_M82 (t := 14) (pc_q := 10) rfl rfl rfl (fun c172 => ?_) (fun c172 => ?_)
                    · have B173 : sf_B 50 2147483647 a1 := sf_leR c172 sf_k50 B171
                      refine pm_R_op pm_M82 (pc_q := 15) (st_q := [.int 0]) rfl rfl rfl ?_
                      refine pm_R_ret pm_M82 (r := some (.int 0)) rfl rfl ?_
                      show pm_R _ 156 23 [.ref 16, .int a0, .int a1, .int a2, .int a3, .int a4, .int a5, .int (-1)] [.int 0] _ _
                      refine pm_R_br pm_M156 (pc_q := 32) (st_q := []) rfl rfl ?_
                      refine pm_R_op pm_M156 (pc_q := 33) (st_q := [.int (-1)]) rfl rfl rfl ?_
                      have px174 : cl_p37 f1 + h.2.1 ≤ cl_p37 f1 + h.2.1 := Nat.add_le_add_left ((cl_F.refl (ck := ck) (A := [32, 37, 38]) (n := 0) (s := 0) T.1).2.2.2.1) _
                      exact pm_R_ret pm_M156 (r := some (.int (-1))) rfl rfl (K (-1) m h T ((cl_F.refl (ck := ck) (A := [32, 37, 38]) (n := 0) (s := 0) T.1).weak (by decide) (by decide)) (rf_W.refl [] m) (fun f0 ef => by rw [e2] at ef; cases ef; exact ⟨_, e2, px174⟩))
                    · have B175 : sf_B 0 49 a1 := sf_ltL (Int32.not_le.mp c172) B171 sf_k50
                      refine pm_R_op pm_M82 (pc_q := 11) (st_q := [.int 1]) rfl rfl rfl ?_
                      refine pm_R_br pm_M82 (pc_q := 15) rfl rfl ?_
                      refine pm_R_ret pm_M82 (r := some (.int 1)) rfl rfl ?_
                      show pm_R _ 156 23 [.ref 16, .int a0, .int a1, .int a2, .int a3, .int a4, .int a5, .int (-1)] [.int 1] _ _
                      refine pm_R_br pm_M156 (pc_q := 26) (st_q := []) rfl rfl ?_
                      refine pm_R_lo pm_M156 (pc_q := 28) rfl rfl rfl ?_
                      refine pm_R_op pm_M156 (pc_q := 29) (st_q := [.int (-1), .int (-1)]) rfl rfl rfl ?_
                      refine pm_R_br pm_M156 (pc_q := 32) (st_q := []) rfl rfl ?_
                      refine pm_R_op pm_M156 (pc_q := 33) (st_q := [.int (-1)]) rfl rfl rfl ?_
                      have px176 : cl_p37 f1 + h.2.1 ≤ cl_p37 f1 + h.2.1 := Nat.add_le_add_left ((cl_F.refl (ck := ck) (A := [32, 37, 38]) (n := 0) (s := 0) T.1).2.2.2.1) _
                      exact pm_R_ret pm_M156 (r := some (.int (-1))) rfl rfl (K (-1) m h T ((cl_F.refl (ck := ck) (A := [32, 37, 38]) (n := 0) (s := 0) T.1).weak (by decide) (by decide)) (rf_W.refl [] m) (fun f0 ef => by rw [e2] at ef; cases ef; exact ⟨_, e2, px176⟩))
                · skip
                  refine pm_R_op pm_M62 (pc_q := 18) (st_q := [.null]) rfl rfl rfl ?_
                  refine pm_R_br pm_M62 (pc_q := 30) rfl rfl ?_
                  refine pm_R_ret pm_M62 (r := some (.null)) rfl rfl ?_
                  show pm_R _ 156 16 [.ref 16, .int a0, .int a1, .int a2, .int a3, .int a4, .int a5, .int (-1)] [.null] _ _
                  refine pm_R_br pm_M156 (pc_q := 32) rfl rfl ?_
                  refine pm_R_op pm_M156 (pc_q := 33) (st_q := [.int (-1)]) rfl rfl rfl ?_
                  have px177 : cl_p37 f1 + h.2.1 ≤ cl_p37 f1 + h.2.1 := Nat.add_le_add_left ((cl_F.refl (ck := ck) (A := [32, 37, 38]) (n := 0) (s := 0) T.1).2.2.2.1) _
                  exact pm_R_ret pm_M156 (r := some (.int (-1))) rfl rfl (K (-1) m h T ((cl_F.refl (ck := ck) (A := [32, 37, 38]) (n := 0) (s := 0) T.1).weak (by decide) (by decide)) (rf_W.refl [] m) (fun f0 ef => by rw [e2] at ef; cases ef; exact ⟨_, e2, px177⟩))
            · have B178 : sf_B 0 2147483647 a4 := sf_leR (Int32.not_lt.mp c150) sf_k0 (sf_any a4)
              refine pm_R_lo pm_M143 (pc_q := 5) rfl rfl rfl ?_
              refine pm_R_lo pm_M143 (pc_q := 6) rfl rfl rfl ?_
              refine pm_R_get pm_M143 (pc_q := 9) (v := .int (Int32.ofNat s78)) rfl rfl (T.im hk50 (by decide) (by decide) eE86) (G.ge hk50 (by decide)) (T.al hk50 (by decide)) rfl rfl ?_
              refine pm_R_icmp pm_M143 (t := 16) (pc_q := 12) rfl rfl rfl (fun c179 => ?_) (fun c179 => ?_)
              · have B180 : sf_B 1 2147483647 a4 := sf_leR c179 (sf_ofB1 h84 h83 (by decide)) B178
                refine pm_R_op pm_M143 (pc_q := 17) (st_q := [.int 0]) rfl rfl rfl ?_
                refine pm_R_ret pm_M143 (r := some (.int 0)) rfl rfl ?_
                show pm_R _ 152 32 [.ref 16, .int a2, .int a3, .int a4, .ref l48] [.int 0] _ _
                refine pm_R_br pm_M152 (pc_q := 35) (st_q := []) rfl rfl ?_
                refine pm_R_op pm_M152 (pc_q := 36) (st_q := [.int (-1)]) rfl rfl rfl ?_
                refine pm_R_ret pm_M152 (r := some (.int (-1))) rfl rfl ?_
                show pm_R _ 156 9 [.ref 16, .int a0, .int a1, .int a2, .int a3, .int a4, .int a5, pm_no] [.int (-1)] _ _
                refine pm_R_lo pm_M156 (pc_q := 11) (ls_q := [.ref 16, .int a0, .int a1, .int a2, .int a3, .int a4, .int a5, .int (-1)]) (st_q := []) rfl rfl rfl ?_
                refine pm_R_lo pm_M156 (pc_q := 12) rfl rfl rfl ?_
                refine pm_R_lo pm_M156 (pc_q := 13) rfl rfl rfl ?_
                refine pm_R_cv pm_M156 (pc_q := 16) (a := 16) (ra := [.int a0]) (rest := []) (ls_q := [.ref 16, .int a0]) rfl rfl (Or.inl rfl) pm_M62 T.e16 rfl (by decide) (T.lt (by decide)) rfl rfl (Nat.le_of_ble_eq_true rfl) rfl rfl ?_
                refine pm_R_lo pm_M62 (pc_q := 1) rfl rfl rfl ?_
                refine pm_R_ifc pm_M62 (t := 17) (pc_q := 4) rfl rfl rfl (fun c181 => ?_) (fun c181 => ?_)
                · have B182 : sf_B (-2147483648) (-1) a0 := sf_ltL c181 (sf_any a0) sf_k0
                  refine pm_R_op pm_M62 (pc_q := 18) (st_q := [.null]) rfl rfl rfl ?_
                  refine pm_R_br pm_M62 (pc_q := 30) rfl rfl ?_
                  refine pm_R_ret pm_M62 (r := some (.null)) rfl rfl ?_
                  show pm_R _ 156 16 [.ref 16, .int a0, .int a1, .int a2, .int a3, .int a4, .int a5, .int (-1)] [.null] _ _
                  refine pm_R_br pm_M156 (pc_q := 32) rfl rfl ?_
                  refine pm_R_op pm_M156 (pc_q := 33) (st_q := [.int (-1)]) rfl rfl rfl ?_
                  have px183 : cl_p37 f1 + h.2.1 ≤ cl_p37 f1 + h.2.1 := Nat.add_le_add_left ((cl_F.refl (ck := ck) (A := [32, 37, 38]) (n := 0) (s := 0) T.1).2.2.2.1) _
                  exact pm_R_ret pm_M156 (r := some (.int (-1))) rfl rfl (K (-1) m h T ((cl_F.refl (ck := ck) (A := [32, 37, 38]) (n := 0) (s := 0) T.1).weak (by decide) (by decide)) (rf_W.refl [] m) (fun f0 ef => by rw [e2] at ef; cases ef; exact ⟨_, e2, px183⟩))
                · have B184 : sf_B 0 2147483647 a0 := sf_leR (Int32.not_lt.mp c181) sf_k0 (sf_any a0)
                  refine pm_R_lo pm_M62 (pc_q := 5) rfl rfl rfl ?_
                  refine pm_R_lo pm_M62 (pc_q := 6) rfl rfl rfl ?_
                  refine pm_R_get pm_M62 (pc_q := 9) (v := .ref 17) rfl rfl T.e16 (by decide) (T.lt (by decide)) rfl rfl ?_
                  refine pm_R_get pm_M62 (pc_q := 12) (v := .ref 23) rfl rfl T.e17 (by decide) (T.lt (by decide)) rfl rfl ?_
                  refine pm_R_op pm_M62 (pc_q := 13) (st_q := [.int 0, .ref 23, .int a0]) rfl rfl rfl ?_
                  obtain ⟨z185, ez186⟩ : ∃ y, f39 (Int32.toNatClampNeg 0) = y := ⟨_, rfl⟩
                  have B187 : sf_B 0 2 z185 := ez186 ▸ (b41 0)
                  refine pm_R_iald pm_M62 (pc_q := 14) (v := z185) rfl e40 (T.lt (by decide)) rfl ez186 rfl ?_
                  refine pm_R_icmp pm_M62 (t := 21) (pc_q := 17) rfl rfl rfl (fun c188 => ?_) (fun c188 => ?_)
                  · have B189 : sf_B 0 1 a0 := sf_ltL c188 B184 B187
                    have B190 : sf_B 1 2 z185 := sf_ltR c188 B184 B187
                    refine pm_R_lo pm_M62 (pc_q := 22) rfl rfl rfl ?_
                    refine pm_R_get pm_M62 (pc_q := 25) (v := .ref 17) rfl rfl T.e16 (by decide) (T.lt (by decide)) rfl rfl ?_
                    refine pm_R_get pm_M62 (pc_q := 28) (v := .ref 19) rfl rfl T.e17 (by decide) (T.lt (by decide)) rfl rfl ?_
                    refine pm_R_lo pm_M62 (pc_q := 29) rfl rfl rfl ?_
                    obtain ⟨f191, e192, b193⟩ := T.C 19 (by decide) (by decide)
                    obtain ⟨l194, hx195⟩ := cl_there0 T e40 e192 ez186 c188 B189 (by decide)
                    have hk196 := b193 _ _ hx195
                    refine pm_R_aald pm_M62 (pc_q := 30) (v := .ref l194) rfl e192 (by decide) (by decide) (by decide) (T.lt (by decide)) (sf_in B189 (by decide) (by decide)) (by rw [hx195]; rfl) rfl ?_
                    refine pm_R_ret pm_M62 (r := some (.ref l194)) rfl rfl ?_
                    show pm_R _ 156 16 [.ref 16, .int a0, .int a1, .int a2, .int a3, .int a4, .int a5, .int (-1)] [.ref l194] _ _
                    refine pm_R_br pm_M156 (pc_q := 19) rfl rfl ?_
                    refine pm_R_lo pm_M156 (pc_q := 20) rfl rfl rfl ?_
                    refine pm_R_cs pm_M156 (pc_q := 23) (ra := [.int a1]) (rest := []) (ls_q := [.int a1]) rfl rfl (Or.inl rfl) pm_M82 rfl rfl (Nat.le_of_ble_eq_true rfl) rfl rfl ?_
                    refine pm_R_lo pm_M82 (pc_q := 1) rfl rfl rfl ?_
                    refine pm_R_ifc pm_M82 (t := 14) (pc_q := 4) rfl rfl rfl (fun c197 => ?_) (fun c197 => ?_)
                    · have B198 : sf_B (-2147483648) (-1) a1 := sf_ltL c197 (sf_any a1) sf_k0
                      refine pm_R_op pm_M82 (pc_q := 15) (st_q := [.int 0]) rfl rfl rfl ?_
                      refine pm_R_ret pm_M82 (r := some (.int 0)) rfl rfl ?_
                      show pm_R _ 156 23 [.ref 16, .int a0, .int a1, .int a2, .int a3, .int a4, .int a5, .int (-1)] [.int 0] _ _
                      refine pm_R_br pm_M156 (pc_q := 32) (st_q := []) rfl rfl ?_
                      refine pm_R_op pm_M156 (pc_q := 33) (st_q := [.int (-1)]) rfl rfl rfl ?_
                      have px199 : cl_p37 f1 + h.2.1 ≤ cl_p37 f1 + h.2.1 := Nat.add_le_add_left ((cl_F.refl (ck := ck) (A := [32, 37, 38]) (n := 0) (s := 0) T.1).2.2.2.1) _
                      exact pm_R_ret pm_M156 (r := some (.int (-1))) rfl rfl (K (-1) m h T ((cl_F.refl (ck := ck) (A := [32, 37, 38]) (n := 0) (s := 0) T.1).weak (by decide) (by decide)) (rf_W.refl [] m) (fun f0 ef => by rw [e2] at ef; cases ef; exact ⟨_, e2, px199⟩))
                    · have B200 : sf_B 0 2147483647 a1 := sf_leR (Int32.not_lt.mp c197) sf_k0 (sf_any a1)
                      refine pm_R_lo pm_M82 (pc_q := 5) rfl rfl rfl ?_
                      refine pm_R_op pm_M82 (pc_q := 7) (st_q := [.int 50, .int a1]) rfl rfl rfl ?_
                      refine pm_R_icmp pm_M82 (t := 14) (pc_q := 10) rfl rfl rfl (fun c201 => ?_) (fun c201 => ?_)
                      · have B202 : sf_B 50 2147483647 a1 := sf_leR c201 sf_k50 B200
                        refine pm_R_op pm_M82 (pc_q := 15) (st_q := [.int 0]) rfl rfl rfl ?_
                        refine pm_R_ret pm_M82 (r := some (.int 0)) rfl rfl ?_
                        show pm_R _ 156 23 [.ref 16, .int a0, .int a1, .int a2, .int a3, .int a4, .int a5, .int (-1)] [.int 0] _ _
                        refine pm_R_br pm_M156 (pc_q := 32) (st_q := []) rfl rfl ?_
                        refine pm_R_op pm_M156 (pc_q := 33) (st_q := [.int (-1)]) rfl rfl rfl ?_
                        have px203 : cl_p37 f1 + h.2.1 ≤ cl_p37 f1 + h.2.1 := Nat.add_le_add_left ((cl_F.refl (ck := ck) (A := [32, 37, 38]) (n := 0) (s := 0) T.1).2.2.2.1) _
                        exact pm_R_ret pm_M156 (r := some (.int (-1))) rfl rfl (K (-1) m h T ((cl_F.refl (ck := ck) (A := [32, 37, 38]) (n := 0) (s := 0) T.1).weak (by decide) (by decide)) (rf_W.refl [] m) (fun f0 ef => by rw [e2] at ef; cases ef; exact ⟨_, e2, px203⟩))
                      · have B204 : sf_B 0 49 a1 := sf_ltL (Int32.not_le.mp c201) B200 sf_k50
                        refine pm_R_op pm_M82 (pc_q := 11) (st_q := [.int 1]) rfl rfl rfl ?_
                        refine pm_R_br pm_M82 (pc_q := 15) rfl rfl ?_
                        refine pm_R_ret pm_M82 (r := some (.int 1)) rfl rfl ?_
                        show pm_R _ 156 23 [.ref 16, .int a0, .int a1, .int a2, .int a3, .int a4, .int a5, .int (-1)] [.int 1] _ _
                        refine pm_R_br pm_M156 (pc_q := 26) (st_q := []) rfl rfl ?_
                        refine pm_R_lo pm_M156 (pc_q := 28) rfl rfl rfl ?_
                        refine pm_R_op pm_M156 (pc_q := 29) (st_q := [.int (-1), .int (-1)]) rfl rfl rfl ?_
                        refine pm_R_br pm_M156 (pc_q := 32) (st_q := []) rfl rfl ?_
                        refine pm_R_op pm_M156 (pc_q := 33) (st_q := [.int (-1)]) rfl rfl rfl ?_
                        have px205 : cl_p37 f1 + h.2.1 ≤ cl_p37 f1 + h.2.1 := Nat.add_le_add_left ((cl_F.refl (ck := ck) (A := [32, 37, 38]) (n := 0) (s := 0) T.1).2.2.2.1) _
                        exact pm_R_ret pm_M156 (r := some (.int (-1))) rfl rfl (K (-1) m h T ((cl_F.refl (ck := ck) (A := [32, 37, 38]) (n := 0) (s := 0) T.1).weak (by decide) (by decide)) (rf_W.refl [] m) (fun f0 ef => by rw [e2] at ef; cases ef; exact ⟨_, e2, px205⟩))
                  · skip
                    refine pm_R_op pm_M62 (pc_q := 18) (st_q := [.null]) rfl rfl rfl ?_
                    refine pm_R_br pm_M62 (pc_q := 30) rfl rfl ?_
                    refine pm_R_ret pm_M62 (r := some (.null)) rfl rfl ?_
                    show pm_R _ 156 16 [.ref 16, .int a0, .int a1, .int a2, .int a3, .int a4, .int a5, .int (-1)] [.null] _ _
                    refine pm_R_br pm_M156 (pc_q := 32) rfl rfl ?_
                    refine pm_R_op pm_M156 (pc_q := 33) (st_q := [.int (-1)]) rfl rfl rfl ?_
                    have px206 : cl_p37 f1 + h.2.1 ≤ cl_p37 f1 + h.2.1 := Nat.add_le_add_left ((cl_F.refl (ck := ck) (A := [32, 37, 38]) (n := 0) (s := 0) T.1).2.2.2.1) _
                    exact pm_R_ret pm_M156 (r := some (.int (-1))) rfl rfl (K (-1) m h T ((cl_F.refl (ck := ck) (A := [32, 37, 38]) (n := 0) (s := 0) T.1).weak (by decide) (by decide)) (rf_W.refl [] m) (fun f0 ef => by rw [e2] at ef; cases ef; exact ⟨_, e2, px206⟩))
              · have B207 : sf_B 0 5 a4 := sf_ltL (Int32.not_le.mp c179) B178 (sf_ofB1 h84 h83 (by decide))
                refine pm_R_op pm_M143 (pc_q := 13) (st_q := [.int 1]) rfl rfl rfl ?_
                refine pm_R_br pm_M143 (pc_q := 17) rfl rfl ?_
                refine pm_R_ret pm_M143 (r := some (.int 1)) rfl rfl ?_
                show pm_R _ 152 32 [.ref 16, .int a2, .int a3, .int a4, .ref l48] [.int 1] _ _
                refine pm_R_br pm_M152 (pc_q := 37) (st_q := []) rfl rfl ?_
                refine pm_R_lo pm_M152 (pc_q := 39) rfl rfl rfl ?_
                refine pm_R_lo pm_M152 (pc_q := 40) rfl rfl rfl ?_
                refine pm_R_lo pm_M152 (pc_q := 41) rfl rfl rfl ?_
                refine pm_R_cv pm_M152 (pc_q := 44) (a := l48) (ra := [.int a4, .int a3]) (rest := []) (ls_q := [.ref l48, .int a3, .int a4, pm_no, pm_no]) rfl rfl (Or.inl rfl) pm_M153 (T.im hk50 (by decide) (by decide) eE86) rfl (G.ge hk50 (by decide)) (T.al hk50 (by decide)) rfl rfl (Nat.le_of_ble_eq_true rfl) rfl rfl ?_
                refine cl_c153 (d := d + 2) G T hk50 B149 B207 (fun r208 X215 B209 => ?_)
                show pm_R _ 152 44 [.ref 16, .int a2, .int a3, .int a4, .ref l48] [.int r208] _ _
                refine pm_R_ret pm_M152 (r := some (.int r208)) rfl (pm_ret_i _) ?_
                show pm_R _ 156 9 [.ref 16, .int a0, .int a1, .int a2, .int a3, .int a4, .int a5, pm_no] [.int r208] _ _
                refine pm_R_lo pm_M156 (pc_q := 11) (ls_q := [.ref 16, .int a0, .int a1, .int a2, .int a3, .int a4, .int a5, .int r208]) (st_q := []) rfl rfl rfl ?_
                refine pm_R_lo pm_M156 (pc_q := 12) rfl rfl rfl ?_
                refine pm_R_lo pm_M156 (pc_q := 13) rfl rfl rfl ?_
                refine pm_R_cv pm_M156 (pc_q := 16) (a := 16) (ra := [.int a0]) (rest := []) (ls_q := [.ref 16, .int a0]) rfl rfl (Or.inl rfl) pm_M62 T.e16 rfl (by decide) (T.lt (by decide)) rfl rfl (Nat.le_of_ble_eq_true rfl) rfl rfl ?_
                refine pm_R_lo pm_M62 (pc_q := 1) rfl rfl rfl ?_
                refine pm_R_ifc pm_M62 (t := 17) (pc_q := 4) rfl rfl rfl (fun c216 => ?_) (fun c216 => ?_)
                · have B217 : sf_B (-2147483648) (-1) a0 := sf_ltL c216 (sf_any a0) sf_k0
                  refine pm_R_op pm_M62 (pc_q := 18) (st_q := [.null]) rfl rfl rfl ?_
                  refine pm_R_br pm_M62 (pc_q := 30) rfl rfl ?_
                  refine pm_R_ret pm_M62 (r := some (.null)) rfl rfl ?_
                  show pm_R _ 156 16 [.ref 16, .int a0, .int a1, .int a2, .int a3, .int a4, .int a5, .int r208] [.null] _ _
                  refine pm_R_br pm_M156 (pc_q := 32) rfl rfl ?_
                  refine pm_R_op pm_M156 (pc_q := 33) (st_q := [.int (-1)]) rfl rfl rfl ?_
                  have px218 : cl_p37 f1 + h.2.1 ≤ cl_p37 f1 + h.2.1 := Nat.add_le_add_left ((cl_F.refl (ck := ck) (A := [32, 37, 38]) (n := 0) (s := 0) T.1).2.2.2.1) _
                  exact pm_R_ret pm_M156 (r := some (.int (-1))) rfl rfl (K (-1) m h T ((cl_F.refl (ck := ck) (A := [32, 37, 38]) (n := 0) (s := 0) T.1).weak (by decide) (by decide)) (rf_W.refl [] m) (fun f0 ef => by rw [e2] at ef; cases ef; exact ⟨_, e2, px218⟩))
                · have B219 : sf_B 0 2147483647 a0 := sf_leR (Int32.not_lt.mp c216) sf_k0 (sf_any a0)
                  refine pm_R_lo pm_M62 (pc_q := 5) rfl rfl rfl ?_
                  refine pm_R_lo pm_M62 (pc_q := 6) rfl rfl rfl ?_
                  refine pm_R_get pm_M62 (pc_q := 9) (v := .ref 17) rfl rfl T.e16 (by decide) (T.lt (by decide)) rfl rfl ?_
                  refine pm_R_get pm_M62 (pc_q := 12) (v := .ref 23) rfl rfl T.e17 (by decide) (T.lt (by decide)) rfl rfl ?_
                  refine pm_R_op pm_M62 (pc_q := 13) (st_q := [.int 0, .ref 23, .int a0]) rfl rfl rfl ?_
                  obtain ⟨z220, ez221⟩ : ∃ y, f39 (Int32.toNatClampNeg 0) = y := ⟨_, rfl⟩
                  have B222 : sf_B 0 2 z220 := ez221 ▸ (b41 0)
                  refine pm_R_iald pm_M62 (pc_q := 14) (v := z220) rfl e40 (T.lt (by decide)) rfl ez221 rfl ?_
                  refine pm_R_icmp pm_M62 (t := 21) (pc_q := 17) rfl rfl rfl (fun c223 => ?_) (fun c223 => ?_)
                  · have B224 : sf_B 0 1 a0 := sf_ltL c223 B219 B222
                    have B225 : sf_B 1 2 z220 := sf_ltR c223 B219 B222
                    refine pm_R_lo pm_M62 (pc_q := 22) rfl rfl rfl ?_
                    refine pm_R_get pm_M62 (pc_q := 25) (v := .ref 17) rfl rfl T.e16 (by decide) (T.lt (by decide)) rfl rfl ?_
                    refine pm_R_get pm_M62 (pc_q := 28) (v := .ref 19) rfl rfl T.e17 (by decide) (T.lt (by decide)) rfl rfl ?_
                    refine pm_R_lo pm_M62 (pc_q := 29) rfl rfl rfl ?_
                    obtain ⟨f226, e227, b228⟩ := T.C 19 (by decide) (by decide)
                    obtain ⟨l229, hx230⟩ := cl_there0 T e40 e227 ez221 c223 B224 (by decide)
                    have hk231 := b228 _ _ hx230
                    refine pm_R_aald pm_M62 (pc_q := 30) (v := .ref l229) rfl e227 (by decide) (by decide) (by decide) (T.lt (by decide)) (sf_in B224 (by decide) (by decide)) (by rw [hx230]; rfl) rfl ?_
                    refine pm_R_ret pm_M62 (r := some (.ref l229)) rfl rfl ?_
                    show pm_R _ 156 16 [.ref 16, .int a0, .int a1, .int a2, .int a3, .int a4, .int a5, .int r208] [.ref l229] _ _
                    refine pm_R_br pm_M156 (pc_q := 19) rfl rfl ?_
                    refine pm_R_lo pm_M156 (pc_q := 20) rfl rfl rfl ?_
                    refine pm_R_cs pm_M156 (pc_q := 23) (ra := [.int a1]) (rest := []) (ls_q := [.int a1]) rfl rfl (Or.inl rfl) pm_M82 rfl rfl (Nat.le_of_ble_eq_true rfl) rfl rfl ?_
                    refine pm_R_lo pm_M82 (pc_q := 1) rfl rfl rfl ?_
                    refine pm_R_ifc pm_M82 (t := 14) (pc_q := 4) rfl rfl rfl (fun c232 => ?_) (fun c232 => ?_)
                    · have B233 : sf_B (-2147483648) (-1) a1 := sf_ltL c232 (sf_any a1) sf_k0
                      refine pm_R_op pm_M82 (pc_q := 15) (st_q := [.int 0]) rfl rfl rfl ?_
                      refine pm_R_ret pm_M82 (r := some (.int 0)) rfl rfl ?_
                      show pm_R _ 156 23 [.ref 16, .int a0, .int a1, .int a2, .int a3, .int a4, .int a5, .int r208] [.int 0] _ _
                      refine pm_R_br pm_M156 (pc_q := 32) (st_q := []) rfl rfl ?_
                      refine pm_R_op pm_M156 (pc_q := 33) (st_q := [.int (-1)]) rfl rfl rfl ?_
                      have px234 : cl_p37 f1 + h.2.1 ≤ cl_p37 f1 + h.2.1 := Nat.add_le_add_left ((cl_F.refl (ck := ck) (A := [32, 37, 38]) (n := 0) (s := 0) T.1).2.2.2.1) _
                      exact pm_R_ret pm_M156 (r := some (.int (-1))) rfl rfl (K (-1) m h T ((cl_F.refl (ck := ck) (A := [32, 37, 38]) (n := 0) (s := 0) T.1).weak (by decide) (by decide)) (rf_W.refl [] m) (fun f0 ef => by rw [e2] at ef; cases ef; exact ⟨_, e2, px234⟩))
                    · have B235 : sf_B 0 2147483647 a1 := sf_leR (Int32.not_lt.mp c232) sf_k0 (sf_any a1)
                      refine pm_R_lo pm_M82 (pc_q := 5) rfl rfl rfl ?_
                      refine pm_R_op pm_M82 (pc_q := 7) (st_q := [.int 50, .int a1]) rfl rfl rfl ?_
                      refine pm_R_icmp pm_M82 (t := 14) (pc_q := 10) rfl rfl rfl (fun c236 => ?_) (fun c236 => ?_)
                      · have B237 : sf_B 50 2147483647 a1 := sf_leR c236 sf_k50 B235
                        refine pm_R_op pm_M82 (pc_q := 15) (st_q := [.int 0]) rfl rfl rfl ?_
                        refine pm_R_ret pm_M82 (r := some (.int 0)) rfl rfl ?_
                        show pm_R _ 156 23 [.ref 16, .int a0, .int a1, .int a2, .int a3, .int a4, .int a5, .int r208] [.int 0] _ _
                        refine pm_R_br pm_M156 (pc_q := 32) (st_q := []) rfl rfl ?_
                        refine pm_R_op pm_M156 (pc_q := 33) (st_q := [.int (-1)]) rfl rfl rfl ?_
                        have px238 : cl_p37 f1 + h.2.1 ≤ cl_p37 f1 + h.2.1 := Nat.add_le_add_left ((cl_F.refl (ck := ck) (A := [32, 37, 38]) (n := 0) (s := 0) T.1).2.2.2.1) _
                        exact pm_R_ret pm_M156 (r := some (.int (-1))) rfl rfl (K (-1) m h T ((cl_F.refl (ck := ck) (A := [32, 37, 38]) (n := 0) (s := 0) T.1).weak (by decide) (by decide)) (rf_W.refl [] m) (fun f0 ef => by rw [e2] at ef; cases ef; exact ⟨_, e2, px238⟩))
                      · have B239 : sf_B 0 49 a1 := sf_ltL (Int32.not_le.mp c236) B235 sf_k50
                        refine pm_R_op pm_M82 (pc_q := 11) (st_q := [.int 1]) rfl rfl rfl ?_
                        refine pm_R_br pm_M82 (pc_q := 15) rfl rfl ?_
                        refine pm_R_ret pm_M82 (r := some (.int 1)) rfl rfl ?_
                        show pm_R _ 156 23 [.ref 16, .int a0, .int a1, .int a2, .int a3, .int a4, .int a5, .int r208] [.int 1] _ _
                        refine pm_R_br pm_M156 (pc_q := 26) (st_q := []) rfl rfl ?_
                        refine pm_R_lo pm_M156 (pc_q := 28) rfl rfl rfl ?_
                        refine pm_R_op pm_M156 (pc_q := 29) (st_q := [.int (-1), .int r208]) rfl rfl rfl ?_
                        refine pm_R_icmp pm_M156 (t := 34) (pc_q := 32) rfl rfl rfl (fun c240 => ?_) (fun c240 => ?_)
                        · have B241 : sf_B 1 5 r208 := cl_gap X215 c240 B209
                          refine pm_R_lo pm_M156 (pc_q := 35) rfl rfl rfl ?_
                          refine pm_R_lo pm_M156 (pc_q := 36) rfl rfl rfl ?_
                          refine pm_R_cv pm_M156 (pc_q := 39) (a := 16) (ra := [.int a0]) (rest := []) (ls_q := [.ref 16, .int a0]) rfl rfl (Or.inl rfl) pm_M122 T.e16 rfl (by decide) (T.lt (by decide)) rfl rfl (Nat.le_of_ble_eq_true rfl) rfl rfl ?_
                          have px242 : cl_p37 f1 + h.2.1 ≤ cl_p37 f1 + h.2.1 := Nat.add_le_add_left ((cl_F.refl (ck := ck) (A := [32, 37, 38]) (n := 0) (s := 0) T.1).2.2.2.1) _
                          have F255 := (cl_F.refl (ck := ck) (A := [32, 37, 38]) (n := 0) (s := 0) T.1)
                          refine cl_c122x (d := d + 4) G T (sf_in B224 (by decide) (by decide)) e227 hx230 hk231 e2 (fun c243 ck h244 lt245 G T246 F247 kc248 nn249 lf250 low251 px256 => ?_)
                          obtain ⟨f252, e253, p254⟩ := px256
                          have px257 : cl_p37 f252 + h244.2.1 ≤ cl_p37 f1 + h.2.1 := Nat.le_trans p254 px242
                          have F258 := F255.ck (fun b hb => (lt245 b hb).symm) F255.2.1
                          have F259 := F247.ck (fun b hb => (lt245 b hb).symm) (Nat.le_refl _)
                          have gr260 := fun (b : Nat) (hb : b < h.1) => (lt245 b (Nat.lt_of_lt_of_le hb F255.2.1))
                          have hk261 := (lt245 _ (T.al hk231 (by decide))).trans hk231
                          have F262 := F258.trans (N := 5) (S := 24466) F259 (by decide) (by decide) (by decide)
                          have e263 := (low251 19 (by decide) (by decide)).trans e227
                          show pm_R _ 156 39 [.ref 16, .int a0, .int a1, .int a2, .int a3, .int a4, .int a5, .int r208] [.ref c243] _ _
                          refine pm_R_lo pm_M156 (pc_q := 40) rfl rfl rfl ?_
                          refine pm_R_lo pm_M156 (pc_q := 42) rfl rfl rfl ?_
                          refine pm_R_op pm_M156 (pc_q := 43) (st_q := [.int 1, .int r208, .int a1, .ref c243]) rfl rfl rfl ?_
                          refine sf_R_isub pm_M156 (pc_q := 44) rfl rfl B241 sf_k1 (by decide) (by decide) (fun z264 e265 B266 => ?_)
                          refine pm_R_lo pm_M156 (pc_q := 45) rfl rfl rfl ?_
                          refine pm_R_get pm_M156 (pc_q := 48) (v := .ref 31) rfl rfl T246.e16 (by decide) (T246.lt (by decide)) rfl rfl ?_
                          refine pm_R_lo pm_M156 (pc_q := 49) rfl rfl rfl ?_
                          refine pm_R_get pm_M156 (pc_q := 52) (v := .ref 38) rfl rfl T246.e16 (by decide) (T246.lt (by decide)) rfl rfl ?_
                          obtain ⟨lo267, fi268, av269, ah270, an271, kl272, B273, B274, eS275⟩ := id nn249
                          have nn276 : cl_NN ck h244 c243 := ⟨lo267, fi268, av269, ah270, an271, kl272, B273, B274, eS275⟩
                          refine pm_R_cv pm_M156 (pc_q := 55) (a := c243) (ra := [.ref 38, .ref 31, .int z264, .int a1]) (rest := []) (ls_q := [.ref c243, .int a1, .int z264, .ref 31, .ref 38, pm_no, pm_no, pm_no]) rfl rfl (Or.inl rfl) pm_M125 eS275 rfl (G.ge kc248 (by decide)) (T246.al kc248 (by decide)) rfl rfl (Nat.le_of_ble_eq_true rfl) rfl rfl ?_
                          refine cl_c125 (d := d + 0) G T246 kc248 B239 (sf_weak B266 (by decide) (by decide)) nn276 (fun r277 m279 h280 T281 F282 W283 X284 B278 => ?_)
                          have F285 := F262.trans (N := 5) (S := 24466) F282 (by decide) (by decide) (by decide)
                          have W286 : rf_W [] m m279 := (rf_W.refl [] m).trans W283 (by decide)
                          show pm_R _ 156 55 [.ref 16, .int a0, .int a1, .int a2, .int a3, .int a4, .int a5, .int r208] [.int r277] _ _
                          have nn287 := X284 _ kc248 nn276
                          refine pm_R_lo pm_M156 (pc_q := 57) rfl rfl rfl ?_
                          refine pm_R_cs pm_M156 (pc_q := 60) (ra := [.int a5, .int r277]) (rest := []) (ls_q := [.int r277, .int a5, pm_no]) rfl rfl (Or.inl rfl) pm_M133 rfl rfl (Nat.le_of_ble_eq_true rfl) rfl rfl ?_
                          refine pm_R_lo pm_M133 (pc_q := 1) rfl rfl rfl ?_
                          refine pm_R_op pm_M133 (pc_q := 2) (st_q := [.int (-1), .int r277]) rfl rfl rfl ?_
                          refine pm_R_icmp pm_M133 (t := 9) (pc_q := 5) rfl rfl rfl (fun c288 => ?_) (fun c288 => ?_)
                          · have B289 : sf_B (-1) (-1) r277 := sf_eqL c288 sf_kn1
                            refine pm_R_op pm_M133 (pc_q := 10) (st_q := [.int (-1)]) rfl rfl rfl ?_
                            refine pm_R_ret pm_M133 (r := some (.int (-1))) rfl rfl ?_
                            show pm_R _ 156 60 [.ref 16, .int a0, .int a1, .int a2, .int a3, .int a4, .int a5, .int r208] [.int (-1)] _ _
                            have e290 := (F282.cell G (by decide) (by decide) e253)
                            have px291 : cl_p37 f252 + h280.2.1 ≤ cl_p37 f1 + h.2.1 := by have := px257; have := F282.2.2.2.1; omega
                            exact pm_R_ret pm_M156 (r := some (.int (-1))) rfl rfl (K2 (-1) m279 ck h280 gr260 G T281 (F285.ck gr260 (Nat.le_refl _)) W286 (fun f0 ef => by rw [e2] at ef; cases ef; exact ⟨_, e290, px291⟩))
                          · have B292 : sf_B 0 11109 r277 := sf_neL0 c288 sf_kn1 B278
                            refine pm_R_lo pm_M133 (pc_q := 6) rfl rfl rfl ?_
                            refine pm_R_ifc pm_M133 (t := 11) (pc_q := 9) rfl rfl rfl (fun c293 => ?_) (fun c293 => ?_)
                            · have B294 : sf_B 0 2147483647 a5 := sf_leR c293 sf_k0 (sf_any a5)
                              refine pm_R_lo pm_M133 (pc_q := 12) rfl rfl rfl ?_
                              refine pm_R_cs pm_M133 (pc_q := 15) (ra := [.int r277]) (rest := []) (ls_q := [.int r277, pm_no]) rfl rfl (Or.inl rfl) pm_M134 rfl rfl (Nat.le_of_ble_eq_true rfl) rfl rfl ?_
                              refine cl_c134 (d := d + 4) G T281 B292 (fun r295 B296 => ?_)
                              show pm_R _ 133 15 [.int r277, .int a5, pm_no] [.int r295] _ _
                              refine pm_R_lo pm_M133 (pc_q := 16) (ls_q := [.int r277, .int a5, .int r295]) (st_q := []) rfl rfl rfl ?_
                              refine pm_R_lo pm_M133 (pc_q := 17) rfl rfl rfl ?_
                              refine pm_R_ifc pm_M133 (t := 22) (pc_q := 20) rfl rfl rfl (fun c302 => ?_) (fun c302 => ?_)
                              · have B303 : sf_B 1 2147483647 a5 := sf_neL0 c302 sf_k0 B294
                                refine pm_R_lo pm_M133 (pc_q := 23) rfl rfl rfl ?_
                                refine pm_R_lo pm_M133 (pc_q := 24) rfl rfl rfl ?_
                                refine pm_R_icmp pm_M133 (t := 38) (pc_q := 27) rfl rfl rfl (fun c304 => ?_) (fun c304 => ?_)
                                · have B305 : sf_B 2 2147483647 a5 := sf_ltR c304 B296 B303
                                  refine pm_R_op pm_M133 (pc_q := 39) (st_q := [.int (-1)]) rfl rfl rfl ?_
                                  refine pm_R_ret pm_M133 (r := some (.int (-1))) rfl rfl ?_
                                  show pm_R _ 156 60 [.ref 16, .int a0, .int a1, .int a2, .int a3, .int a4, .int a5, .int r208] [.int (-1)] _ _
                                  have e306 := (F282.cell G (by decide) (by decide) e253)
                                  have px307 : cl_p37 f252 + h280.2.1 ≤ cl_p37 f1 + h.2.1 := by have := px257; have := F282.2.2.2.1; omega
                                  exact pm_R_ret pm_M156 (r := some (.int (-1))) rfl rfl (K2 (-1) m279 ck h280 gr260 G T281 (F285.ck gr260 (Nat.le_refl _)) W286 (fun f0 ef => by rw [e2] at ef; cases ef; exact ⟨_, e306, px307⟩))
                                · have B308 : sf_B 1 4 a5 := sf_leL (Int32.not_lt.mp c304) B303 B296
                                  refine pm_R_lo pm_M133 (pc_q := 28) rfl rfl rfl ?_
                                  refine pm_R_lo pm_M133 (pc_q := 29) rfl rfl rfl ?_
                                  refine pm_R_lo pm_M133 (pc_q := 30) rfl rfl rfl ?_
                                  refine pm_R_op pm_M133 (pc_q := 31) (st_q := [.int 1, .int a5, .int r295, .int r277]) rfl rfl rfl ?_
                                  refine sf_R_isub pm_M133 (pc_q := 32) rfl rfl B308 sf_k1 (by decide) (by decide) (fun z309 e310 B311 => ?_)
                                  refine pm_R_cs pm_M133 (pc_q := 35) (ra := [.int z309, .int r295, .int r277]) (rest := []) (ls_q := [.int r277, .int r295, .int z309]) rfl rfl (Or.inl rfl) pm_M132 rfl rfl (Nat.le_of_ble_eq_true rfl) rfl rfl ?_
                                  refine pm_R_lo pm_M132 (pc_q := 1) rfl rfl rfl ?_
                                  refine pm_R_stat pm_M132 (pc_q := 4) rfl rfl rfl ?_
                                  refine pm_R_lo pm_M132 (pc_q := 5) rfl rfl rfl ?_
                                  obtain ⟨z312, ez313⟩ : ∃ y, pm_sv6.getD (Int32.toNatClampNeg r295) 0 = y := ⟨_, rfl⟩
                                  have B314 : sf_B 0 1110 z312 := ez313 ▸ cl_tab (l := pm_sv6) (a := 0) (b := 1110) B296 (by decide) (by decide)
                                  refine pm_R_iald pm_M132 (pc_q := 6) (v := z312) rfl ((T281.old (by decide)).trans G.tb6) (T281.lt (by decide)) (sf_in B296 (by decide) (by decide)) ez313 rfl ?_
                                  refine sf_R_isub pm_M132 (pc_q := 7) rfl rfl B292 B314 (by decide) (by decide) (fun z315 e316 B317 => ?_)
                                  refine pm_R_stat pm_M132 (pc_q := 10) rfl rfl rfl ?_
                                  refine pm_R_lo pm_M132 (pc_q := 11) rfl rfl rfl ?_
                                  refine pm_R_op pm_M132 (pc_q := 12) (st_q := [.int 1, .int r295, .ref 5, .int z315]) rfl rfl rfl ?_
                                  refine sf_R_isub pm_M132 (pc_q := 13) rfl rfl B296 sf_k1 (by decide) (by decide) (fun z318 e319 B320 => ?_)
                                  refine pm_R_lo pm_M132 (pc_q := 14) rfl rfl rfl ?_
                                  refine sf_R_isub pm_M132 (pc_q := 15) rfl rfl B320 B311 (by decide) (by decide) (fun z321 e322 B323 => ?_)
                                  have B327 : sf_B 0 3 z321 := ⟨(cl_aux22 _ _ _ _ _ e319 e310 e322 (Int32.le_iff_toInt_le.mp (Int32.not_lt.mp c304))), B323.2⟩
                                  obtain ⟨z324, ez325⟩ : ∃ y, pm_sv5.getD (Int32.toNatClampNeg z321) 0 = y := ⟨_, rfl⟩
                                  have B326 : sf_B 1 1000 z324 := ez325 ▸ cl_tab (l := pm_sv5) (a := 1) (b := 1000) B327 (by decide) (by decide)
                                  refine pm_R_iald pm_M132 (pc_q := 16) (v := z324) rfl ((T281.old (by decide)).trans G.tb5) (T281.lt (by decide)) (sf_in B327 (by decide) (by decide)) ez325 rfl ?_
                                  refine sf_R_idivA pm_M132 (pc_q := 17) rfl rfl (sf_neq1 B326 sf_k0 (by decide)) (fun z328 => ?_)
                                  refine pm_R_op pm_M132 (pc_q := 19) (st_q := [.int 10, .int z328]) rfl rfl rfl ?_
                                  refine sf_R_iremA pm_M132 (pc_q := 20) rfl rfl (sf_neq1 sf_k10 sf_k0 (by decide)) (fun z331 => ?_)
                                  refine pm_R_ret pm_M132 (r := some (.int z331)) rfl (pm_ret_i _) ?_
                                  show pm_R _ 133 35 [.int r277, .int a5, .int r295] [.int z331] _ _
                                  refine pm_R_br pm_M133 (pc_q := 39) rfl rfl ?_
                                  refine pm_R_ret pm_M133 (r := some (.int z331)) rfl (pm_ret_i _) ?_
                                  show pm_R _ 156 60 [.ref 16, .int a0, .int a1, .int a2, .int a3, .int a4, .int a5, .int r208] [.int z331] _ _
                                  have e334 := (F282.cell G (by decide) (by decide) e253)
                                  have px335 : cl_p37 f252 + h280.2.1 ≤ cl_p37 f1 + h.2.1 := by have := px257; have := F282.2.2.2.1; omega
                                  exact pm_R_ret pm_M156 (r := some (.int z331)) rfl (pm_ret_i _) (K2 z331 m279 ck h280 gr260 G T281 (F285.ck gr260 (Nat.le_refl _)) W286 (fun f0 ef => by rw [e2] at ef; cases ef; exact ⟨_, e334, px335⟩))
                              · have B336 : sf_B 0 0 a5 := sf_eqL (Classical.not_not.mp c302) sf_k0
                                refine pm_R_lo pm_M133 (pc_q := 21) rfl rfl rfl ?_
                                refine pm_R_ret pm_M133 (r := some (.int r295)) rfl (pm_ret_i _) ?_
                                show pm_R _ 156 60 [.ref 16, .int a0, .int a1, .int a2, .int a3, .int a4, .int a5, .int r208] [.int r295] _ _
                                have e337 := (F282.cell G (by decide) (by decide) e253)
                                have px338 : cl_p37 f252 + h280.2.1 ≤ cl_p37 f1 + h.2.1 := by have := px257; have := F282.2.2.2.1; omega
                                exact pm_R_ret pm_M156 (r := some (.int r295)) rfl (pm_ret_i _) (K2 r295 m279 ck h280 gr260 G T281 (F285.ck gr260 (Nat.le_refl _)) W286 (fun f0 ef => by rw [e2] at ef; cases ef; exact ⟨_, e337, px338⟩))
                            · have B339 : sf_B (-2147483648) (-1) a5 := sf_ltL (Int32.not_le.mp c293) (sf_any a5) sf_k0
                              refine pm_R_op pm_M133 (pc_q := 10) (st_q := [.int (-1)]) rfl rfl rfl ?_
                              refine pm_R_ret pm_M133 (r := some (.int (-1))) rfl rfl ?_
                              show pm_R _ 156 60 [.ref 16, .int a0, .int a1, .int a2, .int a3, .int a4, .int a5, .int r208] [.int (-1)] _ _
                              have e340 := (F282.cell G (by decide) (by decide) e253)
                              have px341 : cl_p37 f252 + h280.2.1 ≤ cl_p37 f1 + h.2.1 := by have := px257; have := F282.2.2.2.1; omega
                              exact pm_R_ret pm_M156 (r := some (.int (-1))) rfl rfl (K2 (-1) m279 ck h280 gr260 G T281 (F285.ck gr260 (Nat.le_refl _)) W286 (fun f0 ef => by rw [e2] at ef; cases ef; exact ⟨_, e340, px341⟩))
                        · have B342 : sf_B (-1) (-1) r208 := sf_eqL (Classical.not_not.mp c240) sf_kn1
                          refine pm_R_op pm_M156 (pc_q := 33) (st_q := [.int (-1)]) rfl rfl rfl ?_
                          have px343 : cl_p37 f1 + h.2.1 ≤ cl_p37 f1 + h.2.1 := Nat.add_le_add_left ((cl_F.refl (ck := ck) (A := [32, 37, 38]) (n := 0) (s := 0) T.1).2.2.2.1) _
                          exact pm_R_ret pm_M156 (r := some (.int (-1))) rfl rfl (K (-1) m h T ((cl_F.refl (ck := ck) (A := [32, 37, 38]) (n := 0) (s := 0) T.1).weak (by decide) (by decide)) (rf_W.refl [] m) (fun f0 ef => by rw [e2] at ef; cases ef; exact ⟨_, e2, px343⟩))
                  · skip
                    refine pm_R_op pm_M62 (pc_q := 18) (st_q := [.null]) rfl rfl rfl ?_
                    refine pm_R_br pm_M62 (pc_q := 30) rfl rfl ?_
                    refine pm_R_ret pm_M62 (r := some (.null)) rfl rfl ?_
                    show pm_R _ 156 16 [.ref 16, .int a0, .int a1, .int a2, .int a3, .int a4, .int a5, .int r208] [.null] _ _
                    refine pm_R_br pm_M156 (pc_q := 32) rfl rfl ?_
                    refine pm_R_op pm_M156 (pc_q := 33) (st_q := [.int (-1)]) rfl rfl rfl ?_
                    have px344 : cl_p37 f1 + h.2.1 ≤ cl_p37 f1 + h.2.1 := Nat.add_le_add_left ((cl_F.refl (ck := ck) (A := [32, 37, 38]) (n := 0) (s := 0) T.1).2.2.2.1) _
                    exact pm_R_ret pm_M156 (r := some (.int (-1))) rfl rfl (K (-1) m h T ((cl_F.refl (ck := ck) (A := [32, 37, 38]) (n := 0) (s := 0) T.1).weak (by decide) (by decide)) (rf_W.refl [] m) (fun f0 ef => by rw [e2] at ef; cases ef; exact ⟨_, e2, px344⟩))
    · skip
      refine pm_R_op pm_M139 (pc_q := 18) (st_q := [.null]) rfl rfl rfl ?_
      refine pm_R_br pm_M139 (pc_q := 30) rfl rfl ?_
      refine pm_R_ret pm_M139 (r := some (.null)) rfl rfl ?_
      show pm_R _ 152 5 [.ref 16, .int a2, .int a3, .int a4, pm_no] [.null] _ _
      refine pm_R_lo pm_M152 (pc_q := 7) (ls_q := [.ref 16, .int a2, .int a3, .int a4, .null]) (st_q := []) rfl rfl rfl ?_
      refine pm_R_lo pm_M152 (pc_q := 9) rfl rfl rfl ?_
      refine pm_R_br pm_M152 (pc_q := 35) rfl rfl ?_
      refine pm_R_op pm_M152 (pc_q := 36) (st_q := [.int (-1)]) rfl rfl rfl ?_
      refine pm_R_ret pm_M152 (r := some (.int (-1))) rfl rfl ?_
      show pm_R _ 156 9 [.ref 16, .int a0, .int a1, .int a2, .int a3, .int a4, .int a5, pm_no] [.int (-1)] _ _
      refine pm_R_lo pm_M156 (pc_q := 11) (ls_q := [.ref 16, .int a0, .int a1, .int a2, .int a3, .int a4, .int a5, .int (-1)]) (st_q := []) rfl rfl rfl ?_
      refine pm_R_lo pm_M156 (pc_q := 12) rfl rfl rfl ?_
      refine pm_R_lo pm_M156 (pc_q := 13) rfl rfl rfl ?_
      refine pm_R_cv pm_M156 (pc_q := 16) (a := 16) (ra := [.int a0]) (rest := []) (ls_q := [.ref 16, .int a0]) rfl rfl (Or.inl rfl) pm_M62 T.e16 rfl (by decide) (T.lt (by decide)) rfl rfl (Nat.le_of_ble_eq_true rfl) rfl rfl ?_
      refine pm_R_lo pm_M62 (pc_q := 1) rfl rfl rfl ?_
      refine pm_R_ifc pm_M62 (t := 17) (pc_q := 4) rfl rfl rfl (fun c345 => ?_) (fun c345 => ?_)
      · have B346 : sf_B (-2147483648) (-1) a0 := sf_ltL c345 (sf_any a0) sf_k0
        refine pm_R_op pm_M62 (pc_q := 18) (st_q := [.null]) rfl rfl rfl ?_
        refine pm_R_br pm_M62 (pc_q := 30) rfl rfl ?_
        refine pm_R_ret pm_M62 (r := some (.null)) rfl rfl ?_
        show pm_R _ 156 16 [.ref 16, .int a0, .int a1, .int a2, .int a3, .int a4, .int a5, .int (-1)] [.null] _ _
        refine pm_R_br pm_M156 (pc_q := 32) rfl rfl ?_
        refine pm_R_op pm_M156 (pc_q := 33) (st_q := [.int (-1)]) rfl rfl rfl ?_
        have px347 : cl_p37 f1 + h.2.1 ≤ cl_p37 f1 + h.2.1 := Nat.add_le_add_left ((cl_F.refl (ck := ck) (A := [32, 37, 38]) (n := 0) (s := 0) T.1).2.2.2.1) _
        exact pm_R_ret pm_M156 (r := some (.int (-1))) rfl rfl (K (-1) m h T ((cl_F.refl (ck := ck) (A := [32, 37, 38]) (n := 0) (s := 0) T.1).weak (by decide) (by decide)) (rf_W.refl [] m) (fun f0 ef => by rw [e2] at ef; cases ef; exact ⟨_, e2, px347⟩))
      · have B348 : sf_B 0 2147483647 a0 := sf_leR (Int32.not_lt.mp c345) sf_k0 (sf_any a0)
        refine pm_R_lo pm_M62 (pc_q := 5) rfl rfl rfl ?_
        refine pm_R_lo pm_M62 (pc_q := 6) rfl rfl rfl ?_
        refine pm_R_get pm_M62 (pc_q := 9) (v := .ref 17) rfl rfl T.e16 (by decide) (T.lt (by decide)) rfl rfl ?_
        refine pm_R_get pm_M62 (pc_q := 12) (v := .ref 23) rfl rfl T.e17 (by decide) (T.lt (by decide)) rfl rfl ?_
        refine pm_R_op pm_M62 (pc_q := 13) (st_q := [.int 0, .ref 23, .int a0]) rfl rfl rfl ?_
        obtain ⟨z349, ez350⟩ : ∃ y, f39 (Int32.toNatClampNeg 0) = y := ⟨_, rfl⟩
        have B351 : sf_B 0 2 z349 := ez350 ▸ (b41 0)
        refine pm_R_iald pm_M62 (pc_q := 14) (v := z349) rfl e40 (T.lt (by decide)) rfl ez350 rfl ?_
        refine pm_R_icmp pm_M62 (t := 21) (pc_q := 17) rfl rfl rfl (fun c352 => ?_) (fun c352 => ?_)
        · have B353 : sf_B 0 1 a0 := sf_ltL c352 B348 B351
          have B354 : sf_B 1 2 z349 := sf_ltR c352 B348 B351
          refine pm_R_lo pm_M62 (pc_q := 22) rfl rfl rfl ?_
          refine pm_R_get pm_M62 (pc_q := 25) (v := .ref 17) rfl rfl T.e16 (by decide) (T.lt (by decide)) rfl rfl ?_
          refine pm_R_get pm_M62 (pc_q := 28) (v := .ref 19) rfl rfl T.e17 (by decide) (T.lt (by decide)) rfl rfl ?_
          refine pm_R_lo pm_M62 (pc_q := 29) rfl rfl rfl ?_
          obtain ⟨f355, e356, b357⟩ := T.C 19 (by decide) (by decide)
          obtain ⟨l358, hx359⟩ := cl_there0 T e40 e356 ez350 c352 B353 (by decide)
          have hk360 := b357 _ _ hx359
          refine pm_R_aald pm_M62 (pc_q := 30) (v := .ref l358) rfl e356 (by decide) (by decide) (by decide) (T.lt (by decide)) (sf_in B353 (by decide) (by decide)) (by rw [hx359]; rfl) rfl ?_
          refine pm_R_ret pm_M62 (r := some (.ref l358)) rfl rfl ?_
          show pm_R _ 156 16 [.ref 16, .int a0, .int a1, .int a2, .int a3, .int a4, .int a5, .int (-1)] [.ref l358] _ _
          refine pm_R_br pm_M156 (pc_q := 19) rfl rfl ?_
          refine pm_R_lo pm_M156 (pc_q := 20) rfl rfl rfl ?_
          refine pm_R_cs pm_M156 (pc_q := 23) (ra := [.int a1]) (rest := []) (ls_q := [.int a1]) rfl rfl (Or.inl rfl) pm_M82 rfl rfl (Nat.le_of_ble_eq_true rfl) rfl rfl ?_
          refine pm_R_lo pm_M82 (pc_q := 1) rfl rfl rfl ?_
          refine pm_R_ifc pm_M82 (t := 14) (pc_q := 4) rfl rfl rfl (fun c361 => ?_) (fun c361 => ?_)
          · have B362 : sf_B (-2147483648) (-1) a1 := sf_ltL c361 (sf_any a1) sf_k0
            refine pm_R_op pm_M82 (pc_q := 15) (st_q := [.int 0]) rfl rfl rfl ?_
            refine pm_R_ret pm_M82 (r := some (.int 0)) rfl rfl ?_
            show pm_R _ 156 23 [.ref 16, .int a0, .int a1, .int a2, .int a3, .int a4, .int a5, .int (-1)] [.int 0] _ _
            refine pm_R_br pm_M156 (pc_q := 32) (st_q := []) rfl rfl ?_
            refine pm_R_op pm_M156 (pc_q := 33) (st_q := [.int (-1)]) rfl rfl rfl ?_
            have px363 : cl_p37 f1 + h.2.1 ≤ cl_p37 f1 + h.2.1 := Nat.add_le_add_left ((cl_F.refl (ck := ck) (A := [32, 37, 38]) (n := 0) (s := 0) T.1).2.2.2.1) _
            exact pm_R_ret pm_M156 (r := some (.int (-1))) rfl rfl (K (-1) m h T ((cl_F.refl (ck := ck) (A := [32, 37, 38]) (n := 0) (s := 0) T.1).weak (by decide) (by decide)) (rf_W.refl [] m) (fun f0 ef => by rw [e2] at ef; cases ef; exact ⟨_, e2, px363⟩))
          · have B364 : sf_B 0 2147483647 a1 := sf_leR (Int32.not_lt.mp c361) sf_k0 (sf_any a1)
            refine pm_R_lo pm_M82 (pc_q := 5) rfl rfl rfl ?_
            refine pm_R_op pm_M82 (pc_q := 7) (st_q := [.int 50, .int a1]) rfl rfl rfl ?_
            refine pm_R_icmp pm_M82 (t := 14) (pc_q := 10) rfl rfl rfl (fun c365 => ?_) (fun c365 => ?_)
            · have B366 : sf_B 50 2147483647 a1 := sf_leR c365 sf_k50 B364
              refine pm_R_op pm_M82 (pc_q := 15) (st_q := [.int 0]) rfl rfl rfl ?_
              refine pm_R_ret pm_M82 (r := some (.int 0)) rfl rfl ?_
              show pm_R _ 156 23 [.ref 16, .int a0, .int a1, .int a2, .int a3, .int a4, .int a5, .int (-1)] [.int 0] _ _
              refine pm_R_br pm_M156 (pc_q := 32) (st_q := []) rfl rfl ?_
              refine pm_R_op pm_M156 (pc_q := 33) (st_q := [.int (-1)]) rfl rfl rfl ?_
              have px367 : cl_p37 f1 + h.2.1 ≤ cl_p37 f1 + h.2.1 := Nat.add_le_add_left ((cl_F.refl (ck := ck) (A := [32, 37, 38]) (n := 0) (s := 0) T.1).2.2.2.1) _
              exact pm_R_ret pm_M156 (r := some (.int (-1))) rfl rfl (K (-1) m h T ((cl_F.refl (ck := ck) (A := [32, 37, 38]) (n := 0) (s := 0) T.1).weak (by decide) (by decide)) (rf_W.refl [] m) (fun f0 ef => by rw [e2] at ef; cases ef; exact ⟨_, e2, px367⟩))
            · have B368 : sf_B 0 49 a1 := sf_ltL (Int32.not_le.mp c365) B364 sf_k50
              refine pm_R_op pm_M82 (pc_q := 11) (st_q := [.int 1]) rfl rfl rfl ?_
              refine pm_R_br pm_M82 (pc_q := 15) rfl rfl ?_
              refine pm_R_ret pm_M82 (r := some (.int 1)) rfl rfl ?_
              show pm_R _ 156 23 [.ref 16, .int a0, .int a1, .int a2, .int a3, .int a4, .int a5, .int (-1)] [.int 1] _ _
              refine pm_R_br pm_M156 (pc_q := 26) (st_q := []) rfl rfl ?_
              refine pm_R_lo pm_M156 (pc_q := 28) rfl rfl rfl ?_
              refine pm_R_op pm_M156 (pc_q := 29) (st_q := [.int (-1), .int (-1)]) rfl rfl rfl ?_
              refine pm_R_br pm_M156 (pc_q := 32) (st_q := []) rfl rfl ?_
              refine pm_R_op pm_M156 (pc_q := 33) (st_q := [.int (-1)]) rfl rfl rfl ?_
              have px369 : cl_p37 f1 + h.2.1 ≤ cl_p37 f1 + h.2.1 := Nat.add_le_add_left ((cl_F.refl (ck := ck) (A := [32, 37, 38]) (n := 0) (s := 0) T.1).2.2.2.1) _
              exact pm_R_ret pm_M156 (r := some (.int (-1))) rfl rfl (K (-1) m h T ((cl_F.refl (ck := ck) (A := [32, 37, 38]) (n := 0) (s := 0) T.1).weak (by decide) (by decide)) (rf_W.refl [] m) (fun f0 ef => by rw [e2] at ef; cases ef; exact ⟨_, e2, px369⟩))
        · skip
          refine pm_R_op pm_M62 (pc_q := 18) (st_q := [.null]) rfl rfl rfl ?_
          refine pm_R_br pm_M62 (pc_q := 30) rfl rfl ?_
          refine pm_R_ret pm_M62 (r := some (.null)) rfl rfl ?_
          show pm_R _ 156 16 [.ref 16, .int a0, .int a1, .int a2, .int a3, .int a4, .int a5, .int (-1)] [.null] _ _
          refine pm_R_br pm_M156 (pc_q := 32) rfl rfl ?_
          refine pm_R_op pm_M156 (pc_q := 33) (st_q := [.int (-1)]) rfl rfl rfl ?_
          have px370 : cl_p37 f1 + h.2.1 ≤ cl_p37 f1 + h.2.1 := Nat.add_le_add_left ((cl_F.refl (ck := ck) (A := [32, 37, 38]) (n := 0) (s := 0) T.1).2.2.2.1) _
          exact pm_R_ret pm_M156 (r := some (.int (-1))) rfl rfl (K (-1) m h T ((cl_F.refl (ck := ck) (A := [32, 37, 38]) (n := 0) (s := 0) T.1).weak (by decide) (by decide)) (rf_W.refl [] m) (fun f0 ef => by rw [e2] at ef; cases ef; exact ⟨_, e2, px370⟩))
