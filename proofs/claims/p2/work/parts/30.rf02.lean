set_option maxRecDepth 100000 in
set_option maxHeartbeats 4000000 in
/-- SilentTableModel.wear -/
theorem rf_c235 {d : Nat} {m : Nat → Int32} {w : Int64} {h : pm_H} {Q : Option Value → pm_H → Prop} {a0 : Int32} (T : rf_T m w h) (Ba0 : sf_B 0 9 a0) (K : ∀ (m' : Nat → Int32) (w' : Int64) (h' : pm_H), rf_T m' w' h' → rf_F h h' → rf_W [] m m' → Q none h') : pm_R (d + 1) 235 0 [.ref 41, .int a0, pm_no, pm_no, pm_no, pm_no] [] h Q := by
  refine pm_R_op pm_M235 (pc' := 1) (st' := [.int 0]) rfl rfl rfl ?_
  refine pm_R_lo pm_M235 (pc' := 2) (ls' := [.ref 41, .int a0, .int 0, pm_no, pm_no, pm_no]) (st' := []) rfl rfl rfl ?_
  have L_7041 : ∀ (N : Nat) (h_7041 : pm_H) (m_7041 : Nat → Int32) (w_7041 : Int64) (x2_7041 : Int32) (g3_7041 : Value) (g4_7041 : Value) (g5_7041 : Value), rf_T m_7041 w_7041 h_7041 → rf_F h h_7041 → rf_W [] m m_7041 → sf_B 0 9 x2_7041 → g3_7041.category = 1 → g4_7041.category = 1 → g5_7041.category = 1 → (9 - x2_7041.toInt).toNat = N → pm_R (d + 1) 235 2 [.ref 41, .int a0, .int x2_7041, g3_7041, g4_7041, g5_7041] [] h_7041 Q := by
    intro N
    induction N using Nat.strongRecOn with
    | ind N ih_7041 =>
      intro h_7041 m_7041 w_7041 x2_7041 g3_7041 g4_7041 g5_7041 T_7041 F_7041 W_7041 Bx2_7041 Cg3_7041 Cg4_7041 Cg5_7041 hN_7041
      have W7043 : rf_W [] m m_7041 := (rf_W.refl [] m).trans W_7041 (by decide)
      refine pm_R_lo pm_M235 (pc' := 3) rfl rfl rfl ?_
      refine pm_R_lo pm_M235 (pc' := 4) rfl rfl rfl ?_
      refine pm_R_icmp pm_M235 (t := 91) (pc' := 7) rfl rfl rfl (fun c7044 => ?_) (fun c7044 => ?_)
      · skip
        exact pm_R_ret pm_M235 (r := none) rfl rfl (K m_7041 w_7041 h_7041 T_7041 F_7041 W7043)
      · have B7045 : sf_B 0 8 x2_7041 := sf_ltL (Int32.not_le.mp c7044) Bx2_7041 Ba0
        have B7046 : sf_B 1 9 a0 := sf_ltR (Int32.not_le.mp c7044) Bx2_7041 Ba0
        refine pm_R_op pm_M235 (pc' := 8) (st' := [.int 0]) rfl rfl rfl ?_
        refine pm_R_lo pm_M235 (pc' := 9) (ls' := [.ref 41, .int a0, .int x2_7041, .int 0, g4_7041, g5_7041]) (st' := []) rfl rfl rfl ?_
        have L_8447 : ∀ (N : Nat) (h_8447 : pm_H) (m_8447 : Nat → Int32) (w_8447 : Int64) (x3_8447 : Int32) (g4_8447 : Value) (g5_8447 : Value), rf_T m_8447 w_8447 h_8447 → rf_F h h_8447 → rf_W [] m_7041 m_8447 → sf_B 0 12 x3_8447 → g4_8447.category = 1 → g5_8447.category = 1 → (12 - x3_8447.toInt).toNat = N → pm_R (d + 1) 235 9 [.ref 41, .int a0, .int x2_7041, .int x3_8447, g4_8447, g5_8447] [] h_8447 Q := by
          intro N
          induction N using Nat.strongRecOn with
          | ind N ih_8447 =>
            intro h_8447 m_8447 w_8447 x3_8447 g4_8447 g5_8447 T_8447 F_8447 W_8447 Bx3_8447 Cg4_8447 Cg5_8447 hN_8447
            have W8449 : rf_W [] m m_8447 := W7043.trans W_8447 (by decide)
            have W8450 : rf_W [] m m_8447 := W_7041.trans W_8447 (by decide)
            refine pm_R_lo pm_M235 (pc' := 10) rfl rfl rfl ?_
            refine pm_R_lo pm_M235 (pc' := 11) rfl rfl rfl ?_
            have B8451 : sf_B 0 12 (m_8447 24) := T_8447.2.2.1 24
            refine rf_R_get pm_M235 T_8447 (pc' := 14) (v := .int (m_8447 24)) rfl rfl rfl rfl ?_
            refine pm_R_icmp pm_M235 (t := 85) (pc' := 17) rfl rfl rfl (fun c8452 => ?_) (fun c8452 => ?_)
            · skip
              refine sf_R_iinc pm_M235 (pc' := 88) (ls' := fun z => [.ref 41, .int a0, .int z, .int x3_8447, g4_8447, g5_8447]) rfl B7045 rfl (by decide) (by decide) (by decide) (fun _ => rfl) rfl (fun z8453 e8454 B8455 => ?_)
              show pm_R _ 235 88 [.ref 41, .int a0, .int z8453, .int x3_8447, g4_8447, g5_8447] [] _ _
              refine pm_R_br pm_M235 (pc' := 2) rfl rfl ?_
              exact ih_7041 _ (sf_up hN_7041 e8454 B7045 (by decide) (by decide)) h_8447 m_8447 w_8447 z8453 (.int x3_8447) (g4_8447) (g5_8447) T_8447 F_8447 W8450 (sf_weak B8455 (by decide) (by decide)) rfl Cg4_8447 Cg5_8447 rfl
            · have B8456 : sf_B 0 11 x3_8447 := sf_ltL (Int32.not_le.mp c8452) Bx3_8447 B8451
              have B8457 : sf_B 1 12 (m_8447 24) := sf_ltR (Int32.not_le.mp c8452) Bx3_8447 B8451
              refine pm_R_lo pm_M235 (pc' := 18) rfl rfl rfl ?_
              refine rf_R_get pm_M235 T_8447 (pc' := 21) (v := .ref 53) rfl rfl rfl rfl ?_
              refine pm_R_lo pm_M235 (pc' := 22) rfl rfl rfl ?_
              obtain ⟨f8458, e8459⟩ := T_8447.2.2.2.1 53 (by decide) (by decide)
              refine rf_R_ild pm_M235 T_8447 (pc' := 23) rfl e8459 (by decide) (sf_in B8456 (by decide) (by decide)) rfl (fun z8461 ez8462 => ?_)
              refine pm_R_lo pm_M235 (pc' := 25) (ls' := [.ref 41, .int a0, .int x2_7041, .int x3_8447, .int z8461, g5_8447]) (st' := []) rfl rfl rfl ?_
              refine pm_R_op pm_M235 (pc' := 26) (st' := [.int 0]) rfl rfl rfl ?_
              refine pm_R_lo pm_M235 (pc' := 28) (ls' := [.ref 41, .int a0, .int x2_7041, .int x3_8447, .int z8461, .int 0]) (st' := []) rfl rfl rfl ?_
              have L_8727 : ∀ (N : Nat) (h_8727 : pm_H) (m_8727 : Nat → Int32) (w_8727 : Int64) (x4_8727 : Int32) (x5_8727 : Int32), rf_T m_8727 w_8727 h_8727 → rf_F h h_8727 → rf_W [] m_8447 m_8727 → sf_B (-2147483648) 2147483647 x4_8727 → sf_B 0 10 x5_8727 → (10 - x5_8727.toInt).toNat = N → pm_R (d + 1) 235 28 [.ref 41, .int a0, .int x2_7041, .int x3_8447, .int x4_8727, .int x5_8727] [] h_8727 Q := by
                intro N
                induction N using Nat.strongRecOn with
                | ind N ih_8727 =>
                  intro h_8727 m_8727 w_8727 x4_8727 x5_8727 T_8727 F_8727 W_8727 Bx4_8727 Bx5_8727 hN_8727
                  have B8729 : sf_B 1 12 (m_8727 24) := by rw [W_8727 24 (by decide)]; exact B8457
                  have W8730 : rf_W [] m m_8727 := W8449.trans W_8727 (by decide)
                  have W8731 : rf_W [] m m_8727 := W8450.trans W_8727 (by decide)
                  have W8732 : rf_W [] m_7041 m_8727 := W_8447.trans W_8727 (by decide)
                  refine pm_R_lo pm_M235 (pc' := 30) rfl rfl rfl ?_
                  refine pm_R_op pm_M235 (pc' := 32) (st' := [.int 10, .int x5_8727]) rfl rfl rfl ?_
                  refine pm_R_icmp pm_M235 (t := 71) (pc' := 35) rfl rfl rfl (fun c8733 => ?_) (fun c8733 => ?_)
                  · have B8734 : sf_B 10 10 x5_8727 := sf_leR c8733 sf_k10 Bx5_8727
                    refine pm_R_lo pm_M235 (pc' := 72) rfl rfl rfl ?_
                    refine rf_R_get pm_M235 T_8727 (pc' := 75) (v := .ref 53) rfl rfl rfl rfl ?_
                    refine pm_R_lo pm_M235 (pc' := 76) rfl rfl rfl ?_
                    refine pm_R_lo pm_M235 (pc' := 78) rfl rfl rfl ?_
                    obtain ⟨f8735, e8736⟩ := T_8727.2.2.2.1 53 (by decide) (by decide)
                    refine rf_R_ist pm_M235 T_8727 (pc' := 79) rfl e8736 (by decide) (by decide) (sf_in B8456 (by decide) (by decide)) ⟨_, rfl⟩ rfl (fun h8738 T8739 F8740 => ?_)
                    have F8741 := F_8727.trans F8740
                    refine sf_R_iinc pm_M235 (pc' := 82) (ls' := fun z => [.ref 41, .int a0, .int x2_7041, .int z, .int x4_8727, .int x5_8727]) rfl B8456 rfl (by decide) (by decide) (by decide) (fun _ => rfl) rfl (fun z8742 e8743 B8744 => ?_)
                    show pm_R _ 235 82 [.ref 41, .int a0, .int x2_7041, .int z8742, .int x4_8727, .int x5_8727] [] _ _
                    refine pm_R_br pm_M235 (pc' := 9) rfl rfl ?_
                    exact ih_8447 _ (sf_up hN_8447 e8743 B8456 (by decide) (by decide)) h8738 m_8727 w_8727 z8742 (.int x4_8727) (.int x5_8727) T8739 F8741 W8732 (sf_weak B8744 (by decide) (by decide)) rfl rfl rfl
                  · have B8745 : sf_B 0 9 x5_8727 := sf_ltL (Int32.not_le.mp c8733) Bx5_8727 sf_k10
                    refine pm_R_lo pm_M235 (pc' := 37) rfl rfl rfl ?_
                    refine pm_R_lo pm_M235 (pc' := 38) rfl rfl rfl ?_
                    refine rf_R_get pm_M235 T_8727 (pc' := 41) (v := .ref 53) rfl rfl rfl rfl ?_
                    refine pm_R_lo pm_M235 (pc' := 42) rfl rfl rfl ?_
                    obtain ⟨f8746, e8747⟩ := T_8727.2.2.2.1 53 (by decide) (by decide)
                    refine rf_R_ild pm_M235 T_8727 (pc' := 43) rfl e8747 (by decide) (sf_in B8456 (by decide) (by decide)) rfl (fun z8749 ez8750 => ?_)
                    refine sf_R_lany pm_M235 (pc' := 44) (st := [.int x4_8727]) rfl rfl rfl (fun z8751 => ?_)
                    refine pm_R_lo pm_M235 (pc' := 46) rfl rfl rfl ?_
                    refine pm_R_cs pm_M235 (pc' := 49) (ra := [.int x5_8727, .long z8751]) (rest := [.int x4_8727]) (ls' := [.long z8751, pm_no, .int x5_8727]) rfl rfl (Or.inl rfl) pm_M206 rfl rfl (Nat.le_of_ble_eq_true rfl) rfl rfl ?_
                    refine pm_R_lo pm_M206 (pc' := 1) rfl rfl rfl ?_
                    refine pm_R_lo pm_M206 (pc' := 2) rfl rfl rfl ?_
                    refine sf_R_lany pm_M206 (pc' := 3) (st := []) rfl rfl rfl (fun z8752 => ?_)
                    refine pm_R_op pm_M206 (pc' := 4) (st' := [.long 1, .long z8752]) rfl rfl rfl ?_
                    refine sf_R_lany pm_M206 (pc' := 5) (st := []) rfl rfl rfl (fun z8753 => ?_)
                    refine pm_R_op pm_M206 (pc' := 6) (st' := [.long 1, .long z8753]) rfl rfl rfl ?_
                    refine sf_R_lcmp pm_M206 (pc' := 7) rfl rfl (fun z8754 e8755 => ?_)
                    refine pm_R_ifc pm_M206 (t := 14) (pc' := 10) rfl rfl rfl (fun c8756 => ?_) (fun c8756 => ?_)
                    · have k8757 := sf_lneC e8755 c8756
                      refine pm_R_op pm_M206 (pc' := 15) (st' := [.int 0]) rfl rfl rfl ?_
                      refine pm_R_ret pm_M206 (r := some (.int 0)) rfl rfl ?_
                      show pm_R _ 235 49 [.ref 41, .int a0, .int x2_7041, .int x3_8447, .int x4_8727, .int x5_8727] [.int 0, .int x4_8727] _ _
                      refine pm_R_br pm_M235 (pc' := 61) (st' := [.int x4_8727]) rfl rfl ?_
                      refine pm_R_op pm_M235 (pc' := 62) (st' := [.int 0, .int x4_8727]) rfl rfl rfl ?_
                      refine sf_R_iany pm_M235 (pc' := 63) (st := []) rfl rfl rfl (fun z8761 => ?_)
                      refine pm_R_lo pm_M235 (pc' := 65) (ls' := [.ref 41, .int a0, .int x2_7041, .int x3_8447, .int z8761, .int x5_8727]) (st' := []) rfl rfl rfl ?_
                      refine sf_R_iinc pm_M235 (pc' := 68) (ls' := fun z => [.ref 41, .int a0, .int x2_7041, .int x3_8447, .int z8761, .int z]) rfl B8745 rfl (by decide) (by decide) (by decide) (fun _ => rfl) rfl (fun z8762 e8763 B8764 => ?_)
                      show pm_R _ 235 68 [.ref 41, .int a0, .int x2_7041, .int x3_8447, .int z8761, .int z8762] [] _ _
                      refine pm_R_br pm_M235 (pc' := 28) rfl rfl ?_
                      exact ih_8727 _ (sf_up hN_8727 e8763 B8745 (by decide) (by decide)) h_8727 m_8727 w_8727 z8761 z8762 T_8727 F_8727 W_8727 (sf_any z8761) (sf_weak B8764 (by decide) (by decide)) rfl
                    · have B8765 : sf_B 0 0 z8754 := sf_eqL (Classical.not_not.mp c8756) sf_k0
                      refine pm_R_op pm_M206 (pc' := 11) (st' := [.int 1]) rfl rfl rfl ?_
                      refine pm_R_br pm_M206 (pc' := 15) rfl rfl ?_
                      refine pm_R_ret pm_M206 (r := some (.int 1)) rfl rfl ?_
                      show pm_R _ 235 49 [.ref 41, .int a0, .int x2_7041, .int x3_8447, .int x4_8727, .int x5_8727] [.int 1, .int x4_8727] _ _
                      refine pm_R_br pm_M235 (pc' := 52) (st' := [.int x4_8727]) rfl rfl ?_
                      refine pm_R_lo pm_M235 (pc' := 53) rfl rfl rfl ?_
                      refine pm_R_lo pm_M235 (pc' := 55) rfl rfl rfl ?_
                      refine pm_R_cv pm_M235 (pc' := 58) (a := 41) (ra := [.int x5_8727]) (rest := [.int x4_8727]) (ls' := [.ref 41, .int x5_8727]) rfl rfl (Or.inl rfl) pm_M236 T_8727.2.1 rfl (by decide) (Nat.lt_of_lt_of_le (by decide) T_8727.1) rfl rfl (Nat.le_of_ble_eq_true rfl) rfl rfl ?_
                      refine pm_R_lo pm_M236 (pc' := 1) rfl rfl rfl ?_
                      refine rf_R_get pm_M236 T_8727 (pc' := 4) (v := .ref 47) rfl rfl rfl rfl ?_
                      refine pm_R_op pm_M236 (pc' := 6) (st' := [.int 100, .ref 47]) rfl rfl rfl ?_
                      refine pm_R_lo pm_M236 (pc' := 7) rfl rfl rfl ?_
                      have B8766 : sf_B 0 1 (m_8727 23) := T_8727.2.2.1 23
                      refine rf_R_get pm_M236 T_8727 (pc' := 10) (v := .int (m_8727 23)) rfl rfl rfl rfl ?_
                      refine sf_R_imul pm_M236 (pc' := 11) rfl rfl sf_k100 B8766 (by decide) (by decide) (by decide) (fun z8767 e8768 B8769 => ?_)
                      refine pm_R_op pm_M236 (pc' := 13) (st' := [.int 90, .int z8767, .ref 47]) rfl rfl rfl ?_
                      refine sf_R_iadd pm_M236 (pc' := 14) rfl rfl B8769 sf_k90 (by decide) (by decide) (fun z8770 e8771 B8772 => ?_)
                      refine pm_R_lo pm_M236 (pc' := 15) rfl rfl rfl ?_
                      refine sf_R_iadd pm_M236 (pc' := 16) rfl rfl B8772 B8745 (by decide) (by decide) (fun z8773 e8774 B8775 => ?_)
                      obtain ⟨f8776, e8777, b8778⟩ := T_8727.2.2.2.1 47 (by decide) (by decide)
                      refine rf_R_ild pm_M236 T_8727 (pc' := 17) rfl e8777 (by decide) (sf_in B8775 (by decide) (by decide)) rfl (fun z8779 ez8780 => ?_)
                      have e8781 : (z8773).toInt = 100 * ((m_8727 23)).toInt + 1 * (x5_8727).toInt + 90 := by
                        have q0 := e8768
                        have q1 := e8771
                        have q2 := e8774
                        simp only [(show (90 : Int32).toInt = 90 from rfl), (show (100 : Int32).toInt = 100 from rfl)] at q0 q1 q2
                        omega
                      have B8782 : sf_B 0 1023 z8779 := ez8780 ▸ rf_p47n b8778 e8781 B8766 B8745 (by decide) (by decide) (by decide)
                      refine pm_R_ret pm_M236 (r := some (.int z8779)) rfl (pm_ret_i _) ?_
                      show pm_R _ 235 58 [.ref 41, .int a0, .int x2_7041, .int x3_8447, .int x4_8727, .int x5_8727] [.int z8779, .int x4_8727] _ _
                      refine pm_R_br pm_M235 (pc' := 62) rfl rfl ?_
                      refine sf_R_iany pm_M235 (pc' := 63) (st := []) rfl rfl rfl (fun z8786 => ?_)
                      refine pm_R_lo pm_M235 (pc' := 65) (ls' := [.ref 41, .int a0, .int x2_7041, .int x3_8447, .int z8786, .int x5_8727]) (st' := []) rfl rfl rfl ?_
                      refine sf_R_iinc pm_M235 (pc' := 68) (ls' := fun z => [.ref 41, .int a0, .int x2_7041, .int x3_8447, .int z8786, .int z]) rfl B8745 rfl (by decide) (by decide) (by decide) (fun _ => rfl) rfl (fun z8787 e8788 B8789 => ?_)
                      show pm_R _ 235 68 [.ref 41, .int a0, .int x2_7041, .int x3_8447, .int z8786, .int z8787] [] _ _
                      refine pm_R_br pm_M235 (pc' := 28) rfl rfl ?_
                      exact ih_8727 _ (sf_up hN_8727 e8788 B8745 (by decide) (by decide)) h_8727 m_8727 w_8727 z8786 z8787 T_8727 F_8727 W_8727 (sf_any z8786) (sf_weak B8789 (by decide) (by decide)) rfl
              exact L_8727 _ h_8447 m_8447 w_8447 z8461 0 T_8447 F_8447 (rf_W.refl _ _) (sf_any z8461) (sf_weak sf_k0 (by decide) (by decide)) rfl
        exact L_8447 _ h_7041 m_7041 w_7041 0 (g4_7041) (g5_7041) T_7041 F_7041 (rf_W.refl _ _) (sf_weak sf_k0 (by decide) (by decide)) Cg4_7041 Cg5_7041 rfl
  exact L_7041 _ h m w 0 (pm_no) (pm_no) (pm_no) T (rf_F.refl h) (rf_W.refl _ _) (sf_weak sf_k0 (by decide) (by decide)) rfl rfl rfl rfl

set_option maxRecDepth 100000 in
set_option maxHeartbeats 4000000 in
/-- SilentTableModel.meanings -/
theorem rf_c215 {d : Nat} {m : Nat → Int32} {w : Int64} {h : pm_H} {Q : Option Value → pm_H → Prop}  (T : rf_T m w h) (Bf24 : sf_B 1 12 (m 24)) (K : ∀ (r : Int64) (m' : Nat → Int32) (w' : Int64) (h' : pm_H), rf_T m' w' h' → rf_F h h' → rf_W [] m m' → Q (some (.long r)) h') : pm_R (d + 5) 215 0 [.ref 41] [] h Q := by
  refine pm_R_lo pm_M215 (pc' := 1) rfl rfl rfl ?_
  refine pm_R_cv pm_M215 (pc' := 4) (a := 41) (ra := []) (rest := []) (ls' := [.ref 41, pm_no, pm_no, pm_no, pm_no, pm_no]) rfl rfl (Or.inl rfl) pm_M216 T.2.1 rfl (by decide) (Nat.lt_of_lt_of_le (by decide) T.1) rfl rfl (Nat.le_of_ble_eq_true rfl) rfl rfl ?_
  refine rf_c216 (d := d + 0) T  (fun m3 w4 h5 T6 F7 W8 => ?_)
  have F9 := (rf_F.refl h).trans F7
  have B10 : sf_B 1 12 (m3 24) := by rw [W8 24 (by decide)]; exact Bf24
  have W11 : rf_W [] m m3 := (rf_W.refl [] m).trans W8 (by decide)
  show pm_R _ 215 4 [.ref 41] [] _ _
  refine pm_R_lo pm_M215 (pc' := 5) rfl rfl rfl ?_
  refine rf_R_get pm_M215 T6 (pc' := 8) (v := .ref 54) rfl rfl rfl rfl ?_
  refine pm_R_op pm_M215 (pc' := 9) (st' := [.int 0, .ref 54]) rfl rfl rfl ?_
  refine pm_R_op pm_M215 (pc' := 10) (st' := [.int 0, .int 0, .ref 54]) rfl rfl rfl ?_
  refine pm_R_lo pm_M215 (pc' := 11) rfl rfl rfl ?_
  refine rf_R_get pm_M215 T6 (pc' := 14) (v := .int (m3 24)) rfl rfl rfl rfl ?_
  refine pm_R_op pm_M215 (pc' := 15) (st' := [.int 1, .int (m3 24), .int 0, .int 0, .ref 54]) rfl rfl rfl ?_
  refine sf_R_isub pm_M215 (pc' := 16) rfl rfl B10 sf_k1 (by decide) (by decide) (fun z12 e13 B14 => ?_)
  refine pm_R_cs pm_M215 (pc' := 19) (ra := [.int z12, .int 0, .int 0]) (rest := [.ref 54]) (ls' := [.int 0, .int 0, .int z12]) rfl rfl (Or.inl rfl) pm_M207 rfl rfl (Nat.le_of_ble_eq_true rfl) rfl rfl ?_
  refine pm_R_op pm_M207 (pc' := 3) (st' := [.int 144]) rfl rfl rfl ?_
  refine pm_R_lo pm_M207 (pc' := 4) rfl rfl rfl ?_
  refine pm_R_op pm_M207 (pc' := 5) (st' := [.int 0]) rfl rfl rfl ?_
  refine pm_R_op pm_M207 (pc' := 7) (st' := [.int 12, .int 0]) rfl rfl rfl ?_
  refine pm_R_lo pm_M207 (pc' := 8) rfl rfl rfl ?_
  refine pm_R_op pm_M207 (pc' := 9) (st' := [.int 0, .int 0]) rfl rfl rfl ?_
  refine pm_R_op pm_M207 (pc' := 10) (st' := [.int 0]) rfl rfl rfl ?_
  refine pm_R_lo pm_M207 (pc' := 11) rfl rfl rfl ?_
  refine sf_R_iadd pm_M207 (pc' := 12) rfl rfl sf_k0 B14 (by decide) (by decide) (fun z15 e16 B17 => ?_)
  refine pm_R_ret pm_M207 (r := some (.int z15)) rfl (pm_ret_i _) ?_
  show pm_R _ 215 19 [.ref 41] [.int z15, .ref 54] _ _
  obtain ⟨f18, e19⟩ := T6.2.2.2.1 54 (by decide) (by decide)
  refine rf_R_lld pm_M215 T6 (pc' := 20) rfl e19 (by decide) (by decide) (sf_in B17 (by decide) (by decide)) rfl (fun z21 ez22 => ?_)
  exact pm_R_ret pm_M215 (r := some (.long z21)) rfl rfl (K z21 m3 w4 h5 T6 F9 W11)

set_option maxRecDepth 100000 in
set_option maxHeartbeats 4000000 in
/-- SilentTableModel.layNumber -/
theorem rf_c244 {d : Nat} {m : Nat → Int32} {w : Int64} {h : pm_H} {Q : Option Value → pm_H → Prop} {a0 : Int32} {a1 : Int32} (T : rf_T m w h) (Ba0 : sf_B 1 4 a0) (Ba1 : sf_B 0 2147483647 a1) (K : ∀ (m' : Nat → Int32) (w' : Int64) (h' : pm_H), rf_T m' w' h' → rf_F h h' → rf_W [24, 26] m m' → sf_B 1 4 (m' 24) → Q none h') : pm_R (d + 0) 244 0 [.ref 41, .int a0, .int a1, pm_no, pm_no] [] h Q := by
  refine pm_R_lo pm_M244 (pc' := 1) rfl rfl rfl ?_
  refine pm_R_lo pm_M244 (pc' := 2) rfl rfl rfl ?_
  refine rf_R_put pm_M244 T (pc' := 5) rfl rfl rfl (by decide) rfl rfl (sf_weak Ba0 (by decide) (by decide)) rfl rfl (fun h1 m4 em5 T2 F3 => ?_)
  have F6 := (rf_F.refl h).trans F3
  have B7 : sf_B 1 4 (m4 24) := by rw [em5]; exact Ba0
  have W8 : rf_W [24, 26] m m4 := by rw [em5]; exact (rf_W.refl [24, 26] m).put (by decide)
  refine pm_R_lo pm_M244 (pc' := 6) rfl rfl rfl ?_
  refine pm_R_op pm_M244 (pc' := 7) (st' := [.int (-1), .ref 41]) rfl rfl rfl ?_
  refine rf_R_put pm_M244 T2 (pc' := 10) rfl rfl rfl (by decide) rfl rfl (sf_weak sf_kn1 (by decide) (by decide)) rfl rfl (fun h9 m12 em13 T10 F11 => ?_)
  have F14 := F6.trans F11
  have B15 : sf_B 1 4 (m12 24) := by rw [em13]; exact B7
  have B16 : sf_B (-1) (-1) (m12 26) := by rw [em13]; exact sf_kn1
  have W17 : rf_W [24, 26] m m12 := by rw [em13]; exact W8.put (by decide)
  refine pm_R_lo pm_M244 (pc' := 11) rfl rfl rfl ?_
  refine pm_R_lo pm_M244 (pc' := 12) (ls' := [.ref 41, .int a0, .int a1, .int a1, pm_no]) (st' := []) rfl rfl rfl ?_
  refine pm_R_lo pm_M244 (pc' := 13) rfl rfl rfl ?_
  refine pm_R_op pm_M244 (pc' := 14) (st' := [.int 1, .int a0]) rfl rfl rfl ?_
  refine sf_R_isub pm_M244 (pc' := 15) rfl rfl Ba0 sf_k1 (by decide) (by decide) (fun z18 e19 B20 => ?_)
  refine pm_R_lo pm_M244 (pc' := 17) (ls' := [.ref 41, .int a0, .int a1, .int a1, .int z18]) (st' := []) rfl rfl rfl ?_
  have L_97 : ∀ (N : Nat) (h_97 : pm_H) (m_97 : Nat → Int32) (w_97 : Int64) (x3_97 : Int32) (x4_97 : Int32), rf_T m_97 w_97 h_97 → rf_F h h_97 → rf_W [] m12 m_97 → sf_B 0 2147483647 x3_97 → sf_B (-1) 3 x4_97 → (x4_97.toInt - (-1)).toNat = N → pm_R (d + 0) 244 17 [.ref 41, .int a0, .int a1, .int x3_97, .int x4_97] [] h_97 Q := by
    intro N
    induction N using Nat.strongRecOn with
    | ind N ih_97 =>
      intro h_97 m_97 w_97 x3_97 x4_97 T_97 F_97 W_97 Bx3_97 Bx4_97 hN_97
      have B99 : sf_B 1 4 (m_97 24) := by rw [W_97 24 (by decide)]; exact B15
      have B100 : sf_B (-1) (-1) (m_97 26) := by rw [W_97 26 (by decide)]; exact B16
      have W101 : rf_W [24, 26] m m_97 := W17.trans W_97 (by decide)
      refine pm_R_lo pm_M244 (pc' := 19) rfl rfl rfl ?_
      refine pm_R_ifc pm_M244 (t := 46) (pc' := 22) rfl rfl rfl (fun c102 => ?_) (fun c102 => ?_)
      · have B103 : sf_B (-1) (-1) x4_97 := sf_ltL c102 Bx4_97 sf_k0
        exact pm_R_ret pm_M244 (r := none) rfl rfl (K m_97 w_97 h_97 T_97 F_97 W101 B99)
      · have B104 : sf_B 0 3 x4_97 := sf_leR (Int32.not_lt.mp c102) sf_k0 Bx4_97
        refine pm_R_lo pm_M244 (pc' := 23) rfl rfl rfl ?_
        refine rf_R_get pm_M244 T_97 (pc' := 26) (v := .ref 53) rfl rfl rfl rfl ?_
        refine pm_R_lo pm_M244 (pc' := 28) rfl rfl rfl ?_
        refine pm_R_op pm_M244 (pc' := 29) (st' := [.int 1, .int x4_97, .ref 53]) rfl rfl rfl ?_
        refine pm_R_lo pm_M244 (pc' := 30) rfl rfl rfl ?_
        refine pm_R_op pm_M244 (pc' := 32) (st' := [.int 10, .int x3_97, .int 1, .int x4_97, .ref 53]) rfl rfl rfl ?_
        refine sf_R_irem pm_M244 (pc' := 33) rfl rfl Bx3_97 sf_k10 (by decide) (by decide) (fun z105 e106 B107 => ?_)
        refine sf_R_iany pm_M244 (pc' := 34) (st := [.int x4_97, .ref 53]) rfl rfl rfl (fun z111 => ?_)
        obtain ⟨f112, e113⟩ := T_97.2.2.2.1 53 (by decide) (by decide)
        refine rf_R_ist pm_M244 T_97 (pc' := 35) rfl e113 (by decide) (by decide) (sf_in B104 (by decide) (by decide)) ⟨_, rfl⟩ rfl (fun h115 T116 F117 => ?_)
        have F118 := F_97.trans F117
        refine pm_R_lo pm_M244 (pc' := 36) rfl rfl rfl ?_
        refine pm_R_op pm_M244 (pc' := 38) (st' := [.int 10, .int x3_97]) rfl rfl rfl ?_
        refine sf_R_idiv pm_M244 (pc' := 39) rfl rfl Bx3_97 sf_k10 (by decide) (by decide) (fun z119 e120 B121 => ?_)
        refine pm_R_lo pm_M244 (pc' := 40) (ls' := [.ref 41, .int a0, .int a1, .int z119, .int x4_97]) (st' := []) rfl rfl rfl ?_
        refine sf_R_iinc pm_M244 (pc' := 43) (ls' := fun z => [.ref 41, .int a0, .int a1, .int z119, .int z]) rfl B104 rfl (by decide) (by decide) (by decide) (fun _ => rfl) rfl (fun z122 e123 B124 => ?_)
        show pm_R _ 244 43 [.ref 41, .int a0, .int a1, .int z119, .int z122] [] _ _
        refine pm_R_br pm_M244 (pc' := 17) rfl rfl ?_
        exact ih_97 _ (sf_dn hN_97 e123 B104 (by decide) (by decide)) h115 m_97 w_97 z119 z122 T116 F118 W_97 (sf_weak B121 (by decide) (by decide)) (sf_weak B124 (by decide) (by decide)) rfl
  exact L_97 _ h9 m12 w a1 z18 T10 F14 (rf_W.refl _ _) Ba1 (sf_weak B20 (by decide) (by decide)) rfl

set_option maxRecDepth 100000 in
set_option maxHeartbeats 4000000 in
/-- SilentTableModel.keepFound -/
theorem rf_c245 {d : Nat} {m : Nat → Int32} {w : Int64} {h : pm_H} {Q : Option Value → pm_H → Prop} {a0 : Int32} {a1 : Int32} (T : rf_T m w h) (Ba0 : sf_B 1 4 a0) (Ba1 : sf_B 0 2147483647 a1) (K : ∀ (m' : Nat → Int32) (w' : Int64) (h' : pm_H), rf_T m' w' h' → rf_F h h' → rf_W [] m m' → Q none h') : pm_R (d + 0) 245 0 [.ref 41, .int a0, .int a1, pm_no, pm_no] [] h Q := by
  refine pm_R_lo pm_M245 (pc' := 1) rfl rfl rfl ?_
  refine pm_R_lo pm_M245 (pc' := 2) (ls' := [.ref 41, .int a0, .int a1, .int a1, pm_no]) (st' := []) rfl rfl rfl ?_
  refine pm_R_lo pm_M245 (pc' := 3) rfl rfl rfl ?_
  refine rf_R_get pm_M245 T (pc' := 6) (v := .ref 66) rfl rfl rfl rfl ?_
  refine pm_R_op pm_M245 (pc' := 7) (st' := [.int 0, .ref 66]) rfl rfl rfl ?_
  refine pm_R_lo pm_M245 (pc' := 8) rfl rfl rfl ?_
  obtain ⟨f1, e2, b3⟩ := T.2.2.2.1 66 (by decide) (by decide)
  refine rf_R_ist pm_M245 T (pc' := 9) rfl e2 (by decide) (by decide) rfl ⟨_, rfl, rf_u66 b3 (sf_weak Ba0 (by decide) (by decide))⟩ rfl (fun h4 T5 F6 => ?_)
  have F7 := (rf_F.refl h).trans F6
  refine pm_R_lo pm_M245 (pc' := 10) rfl rfl rfl ?_
  refine pm_R_lo pm_M245 (pc' := 12) (ls' := [.ref 41, .int a0, .int a1, .int a1, .int a0]) (st' := []) rfl rfl rfl ?_
  have L_72 : ∀ (N : Nat) (h_72 : pm_H) (m_72 : Nat → Int32) (w_72 : Int64) (x3_72 : Int32) (x4_72 : Int32), rf_T m_72 w_72 h_72 → rf_F h h_72 → rf_W [] m m_72 → sf_B 0 2147483647 x3_72 → sf_B 0 4 x4_72 → (x4_72.toInt - 0).toNat = N → pm_R (d + 0) 245 12 [.ref 41, .int a0, .int a1, .int x3_72, .int x4_72] [] h_72 Q := by
    intro N
    induction N using Nat.strongRecOn with
    | ind N ih_72 =>
      intro h_72 m_72 w_72 x3_72 x4_72 T_72 F_72 W_72 Bx3_72 Bx4_72 hN_72
      have W74 : rf_W [] m m_72 := (rf_W.refl [] m).trans W_72 (by decide)
      refine pm_R_lo pm_M245 (pc' := 14) rfl rfl rfl ?_
      refine pm_R_ifc pm_M245 (t := 39) (pc' := 17) rfl rfl rfl (fun c75 => ?_) (fun c75 => ?_)
      · have B76 : sf_B 0 0 x4_72 := sf_leL c75 Bx4_72 sf_k0
        exact pm_R_ret pm_M245 (r := none) rfl rfl (K m_72 w_72 h_72 T_72 F_72 W74)
      · have B77 : sf_B 1 4 x4_72 := sf_ltR (Int32.not_le.mp c75) sf_k0 Bx4_72
        refine pm_R_lo pm_M245 (pc' := 18) rfl rfl rfl ?_
        refine rf_R_get pm_M245 T_72 (pc' := 21) (v := .ref 66) rfl rfl rfl rfl ?_
        refine pm_R_lo pm_M245 (pc' := 23) rfl rfl rfl ?_
        refine pm_R_lo pm_M245 (pc' := 24) rfl rfl rfl ?_
        refine pm_R_op pm_M245 (pc' := 26) (st' := [.int 10, .int x3_72, .int x4_72, .ref 66]) rfl rfl rfl ?_
        refine sf_R_irem pm_M245 (pc' := 27) rfl rfl Bx3_72 sf_k10 (by decide) (by decide) (fun z78 e79 B80 => ?_)
        obtain ⟨f81, e82, b83⟩ := T_72.2.2.2.1 66 (by decide) (by decide)
        refine rf_R_ist pm_M245 T_72 (pc' := 28) rfl e82 (by decide) (by decide) (sf_in B77 (by decide) (by decide)) ⟨_, rfl, rf_v66 b83 B80 B77 (by decide)⟩ rfl (fun h84 T85 F86 => ?_)
        have F87 := F_72.trans F86
        refine pm_R_lo pm_M245 (pc' := 29) rfl rfl rfl ?_
        refine pm_R_op pm_M245 (pc' := 31) (st' := [.int 10, .int x3_72]) rfl rfl rfl ?_
        refine sf_R_idiv pm_M245 (pc' := 32) rfl rfl Bx3_72 sf_k10 (by decide) (by decide) (fun z88 e89 B90 => ?_)
        refine pm_R_lo pm_M245 (pc' := 33) (ls' := [.ref 41, .int a0, .int a1, .int z88, .int x4_72]) (st' := []) rfl rfl rfl ?_
        refine sf_R_iinc pm_M245 (pc' := 36) (ls' := fun z => [.ref 41, .int a0, .int a1, .int z88, .int z]) rfl B77 rfl (by decide) (by decide) (by decide) (fun _ => rfl) rfl (fun z91 e92 B93 => ?_)
        show pm_R _ 245 36 [.ref 41, .int a0, .int a1, .int z88, .int z91] [] _ _
        refine pm_R_br pm_M245 (pc' := 12) rfl rfl ?_
        exact ih_72 _ (sf_dn hN_72 e92 B77 (by decide) (by decide)) h84 m_72 w_72 z88 z91 T85 F87 W_72 (sf_weak B90 (by decide) (by decide)) (sf_weak B93 (by decide) (by decide)) rfl
  exact L_72 _ h4 m w a1 a0 T5 F7 (rf_W.refl _ _) Ba1 (sf_weak Ba0 (by decide) (by decide)) rfl

set_option maxRecDepth 100000 in
set_option maxHeartbeats 4000000 in
/-- SilentTableModel.isBrief -/
theorem rf_c243 {d : Nat} {m : Nat → Int32} {w : Int64} {h : pm_H} {Q : Option Value → pm_H → Prop} {a0 : Int32} {a1 : Int32} {a2 : Int32} {a3 : Int32} (T : rf_T m w h) (Ba0 : sf_B 1 4 a0) (Ba1 : sf_B 0 2147483647 a1) (Ba2 : sf_B 0 49 a2) (Ba3 : sf_B (-1) 9 a3) (K : ∀ (r : Int32) (m' : Nat → Int32) (w' : Int64) (h' : pm_H), rf_T m' w' h' → rf_F h h' → rf_W [24, 26] m m' → sf_B 0 1 r → Q (some (.int r)) h') : pm_R (d + 7) 243 0 [.ref 41, .int a0, .int a1, .int a2, .int a3] [] h Q := by
  refine pm_R_lo pm_M243 (pc' := 1) rfl rfl rfl ?_
  refine pm_R_lo pm_M243 (pc' := 2) rfl rfl rfl ?_
  refine pm_R_lo pm_M243 (pc' := 3) rfl rfl rfl ?_
  refine pm_R_cv pm_M243 (pc' := 6) (a := 41) (ra := [.int a1, .int a0]) (rest := []) (ls' := [.ref 41, .int a0, .int a1, pm_no, pm_no]) rfl rfl (Or.inl rfl) pm_M244 T.2.1 rfl (by decide) (Nat.lt_of_lt_of_le (by decide) T.1) rfl rfl (Nat.le_of_ble_eq_true rfl) rfl rfl ?_
  refine rf_c244 (d := d + 6) T Ba0 Ba1 (fun m3 w4 h5 T6 F7 W8 B9 => ?_)
  have F10 := (rf_F.refl h).trans F7
  have W11 : rf_W [24, 26] m m3 := (rf_W.refl [24, 26] m).trans W8 (by decide)
  show pm_R _ 243 6 [.ref 41, .int a0, .int a1, .int a2, .int a3] [] _ _
  refine pm_R_lo pm_M243 (pc' := 7) rfl rfl rfl ?_
  refine pm_R_cv pm_M243 (pc' := 10) (a := 41) (ra := []) (rest := []) (ls' := [.ref 41, pm_no, pm_no, pm_no, pm_no, pm_no]) rfl rfl (Or.inl rfl) pm_M202 T6.2.1 rfl (by decide) (Nat.lt_of_lt_of_le (by decide) T6.1) rfl rfl (Nat.le_of_ble_eq_true rfl) rfl rfl ?_
  refine rf_c202 (d := d + 2) T6  (fun m14 w15 h16 T17 F18 W19 => ?_)
  have F20 := F10.trans F18
  have B21 : sf_B 1 4 (m14 24) := by rw [W19 24 (by decide)]; exact B9
  have W22 : rf_W [24, 26] m m14 := W11.trans W19 (by decide)
  show pm_R _ 243 10 [.ref 41, .int a0, .int a1, .int a2, .int a3] [] _ _
  refine pm_R_lo pm_M243 (pc' := 11) rfl rfl rfl ?_
  refine rf_R_get pm_M243 T17 (pc' := 14) (v := .ref 55) rfl rfl rfl rfl ?_
  refine pm_R_op pm_M243 (pc' := 15) (st' := [.int 0, .ref 55]) rfl rfl rfl ?_
  refine pm_R_op pm_M243 (pc' := 16) (st' := [.int 0, .int 0, .ref 55]) rfl rfl rfl ?_
  refine pm_R_lo pm_M243 (pc' := 17) rfl rfl rfl ?_
  refine pm_R_op pm_M243 (pc' := 18) (st' := [.int 1, .int a0, .int 0, .int 0, .ref 55]) rfl rfl rfl ?_
  refine sf_R_isub pm_M243 (pc' := 19) rfl rfl Ba0 sf_k1 (by decide) (by decide) (fun z23 e24 B25 => ?_)
  refine pm_R_cs pm_M243 (pc' := 22) (ra := [.int z23, .int 0, .int 0]) (rest := [.ref 55]) (ls' := [.int 0, .int 0, .int z23]) rfl rfl (Or.inl rfl) pm_M207 rfl rfl (Nat.le_of_ble_eq_true rfl) rfl rfl ?_
  refine pm_R_op pm_M207 (pc' := 3) (st' := [.int 144]) rfl rfl rfl ?_
  refine pm_R_lo pm_M207 (pc' := 4) rfl rfl rfl ?_
  refine pm_R_op pm_M207 (pc' := 5) (st' := [.int 0]) rfl rfl rfl ?_
  refine pm_R_op pm_M207 (pc' := 7) (st' := [.int 12, .int 0]) rfl rfl rfl ?_
  refine pm_R_lo pm_M207 (pc' := 8) rfl rfl rfl ?_
  refine pm_R_op pm_M207 (pc' := 9) (st' := [.int 0, .int 0]) rfl rfl rfl ?_
  refine pm_R_op pm_M207 (pc' := 10) (st' := [.int 0]) rfl rfl rfl ?_
  refine pm_R_lo pm_M207 (pc' := 11) rfl rfl rfl ?_
  refine sf_R_iadd pm_M207 (pc' := 12) rfl rfl sf_k0 B25 (by decide) (by decide) (fun z26 e27 B28 => ?_)
  refine pm_R_ret pm_M207 (r := some (.int z26)) rfl (pm_ret_i _) ?_
  show pm_R _ 243 22 [.ref 41, .int a0, .int a1, .int a2, .int a3] [.int z26, .ref 55] _ _
  obtain ⟨f29, e30⟩ := T17.2.2.2.1 55 (by decide) (by decide)
  refine rf_R_lld pm_M243 T17 (pc' := 23) rfl e30 (by decide) (by decide) (sf_in B28 (by decide) (by decide)) rfl (fun z32 ez33 => ?_)
  refine pm_R_op pm_M243 (pc' := 24) (st' := [.long 1, .long z32]) rfl rfl rfl ?_
  refine sf_R_lcmp pm_M243 (pc' := 25) rfl rfl (fun z34 e35 => ?_)
  refine pm_R_ifc pm_M243 (t := 39) (pc' := 28) rfl rfl rfl (fun c36 => ?_) (fun c36 => ?_)
  · have k37 := sf_lneC e35 c36
    refine pm_R_op pm_M243 (pc' := 40) (st' := [.int 0]) rfl rfl rfl ?_
    exact pm_R_ret pm_M243 (r := some (.int 0)) rfl rfl (K 0 m14 w15 h16 T17 F20 W22 (sf_weak sf_k0 (by decide) (by decide)))
  · have B38 : sf_B 0 0 z34 := sf_eqL (Classical.not_not.mp c36) sf_k0
    refine pm_R_lo pm_M243 (pc' := 29) rfl rfl rfl ?_
    refine pm_R_cv pm_M243 (pc' := 32) (a := 41) (ra := []) (rest := []) (ls' := [.ref 41]) rfl rfl (Or.inl rfl) pm_M215 T17.2.1 rfl (by decide) (Nat.lt_of_lt_of_le (by decide) T17.1) rfl rfl (Nat.le_of_ble_eq_true rfl) rfl rfl ?_
    refine rf_c215 (d := d + 1) T17 (sf_weak B21 (by decide) (by decide)) (fun r39 m41 w42 h43 T44 F45 W46 => ?_)
    have F47 := F20.trans F45
    have B48 : sf_B 1 4 (m41 24) := by rw [W46 24 (by decide)]; exact B21
    have W49 : rf_W [24, 26] m m41 := W22.trans W46 (by decide)
    show pm_R _ 243 32 [.ref 41, .int a0, .int a1, .int a2, .int a3] [.long r39] _ _
    refine pm_R_op pm_M243 (pc' := 33) (st' := [.long 1, .long r39]) rfl rfl rfl ?_
    refine pm_R_lo pm_M243 (pc' := 34) rfl rfl rfl ?_
    refine sf_R_lany pm_M243 (pc' := 35) (st := [.long r39]) rfl rfl rfl (fun z50 => ?_)
    refine sf_R_lcmp pm_M243 (pc' := 36) rfl rfl (fun z51 e52 => ?_)
    refine pm_R_ifc pm_M243 (t := 41) (pc' := 39) rfl rfl rfl (fun c53 => ?_) (fun c53 => ?_)
    · have B54 : sf_B 0 0 z51 := sf_eqL c53 sf_k0
      refine pm_R_lo pm_M243 (pc' := 43) rfl rfl rfl ?_
      refine pm_R_op pm_M243 (pc' := 44) (st' := [.int (-1), .int a3]) rfl rfl rfl ?_
      refine pm_R_icmp pm_M243 (t := 60) (pc' := 47) rfl rfl rfl (fun c55 => ?_) (fun c55 => ?_)
      · have B56 : sf_B (-1) (-1) a3 := sf_eqL c55 sf_kn1
        refine pm_R_op pm_M243 (pc' := 61) (st' := [.int 1]) rfl rfl rfl ?_
        refine pm_R_br pm_M243 (pc' := 65) rfl rfl ?_
        exact pm_R_ret pm_M243 (r := some (.int 1)) rfl rfl (K 1 m41 w42 h43 T44 F47 W49 (sf_weak sf_k1 (by decide) (by decide)))
      · have B57 : sf_B 0 9 a3 := sf_neL0 c55 sf_kn1 Ba3
        refine pm_R_lo pm_M243 (pc' := 48) rfl rfl rfl ?_
        refine pm_R_lo pm_M243 (pc' := 50) rfl rfl rfl ?_
        refine pm_R_cv pm_M243 (pc' := 53) (a := 41) (ra := [.int a3]) (rest := []) (ls' := [.ref 41, .int a3]) rfl rfl (Or.inl rfl) pm_M234 T44.2.1 rfl (by decide) (Nat.lt_of_lt_of_le (by decide) T44.1) rfl rfl (Nat.le_of_ble_eq_true rfl) rfl rfl ?_
        refine pm_R_lo pm_M234 (pc' := 1) rfl rfl rfl ?_
        refine pm_R_lo pm_M234 (pc' := 2) rfl rfl rfl ?_
        refine pm_R_cv pm_M234 (pc' := 5) (a := 41) (ra := [.int a3]) (rest := []) (ls' := [.ref 41, .int a3, pm_no, pm_no, pm_no, pm_no]) rfl rfl (Or.inl rfl) pm_M235 T44.2.1 rfl (by decide) (Nat.lt_of_lt_of_le (by decide) T44.1) rfl rfl (Nat.le_of_ble_eq_true rfl) rfl rfl ?_
        refine rf_c235 (d := d + 4) T44 B57 (fun m60 w61 h62 T63 F64 W65 => ?_)
        have F66 := F47.trans F64
        have B67 : sf_B 1 4 (m60 24) := by rw [W65 24 (by decide)]; exact B48
        have W68 : rf_W [24, 26] m m60 := W49.trans W65 (by decide)
        show pm_R _ 234 5 [.ref 41, .int a3] [] _ _
        refine pm_R_lo pm_M234 (pc' := 6) rfl rfl rfl ?_
        refine pm_R_cv pm_M234 (pc' := 9) (a := 41) (ra := []) (rest := []) (ls' := [.ref 41]) rfl rfl (Or.inl rfl) pm_M215 T63.2.1 rfl (by decide) (Nat.lt_of_lt_of_le (by decide) T63.1) rfl rfl (Nat.le_of_ble_eq_true rfl) rfl rfl ?_
        refine rf_c215 (d := d + 0) T63 (sf_weak B67 (by decide) (by decide)) (fun r69 m71 w72 h73 T74 F75 W76 => ?_)
        have F77 := F66.trans F75
        have B78 : sf_B 1 4 (m71 24) := by rw [W76 24 (by decide)]; exact B67
        have W79 : rf_W [24, 26] m m71 := W68.trans W76 (by decide)
        show pm_R _ 234 9 [.ref 41, .int a3] [.long r69] _ _
        refine pm_R_ret pm_M234 (r := some (.long r69)) rfl rfl ?_
        show pm_R _ 243 53 [.ref 41, .int a0, .int a1, .int a2, .int a3] [.long r69] _ _
        refine pm_R_op pm_M243 (pc' := 54) (st' := [.long 1, .long r69]) rfl rfl rfl ?_
        refine pm_R_lo pm_M243 (pc' := 55) rfl rfl rfl ?_
        refine sf_R_lany pm_M243 (pc' := 56) (st := [.long r69]) rfl rfl rfl (fun z80 => ?_)
        refine sf_R_lcmp pm_M243 (pc' := 57) rfl rfl (fun z81 e82 => ?_)
        refine pm_R_ifc pm_M243 (t := 64) (pc' := 60) rfl rfl rfl (fun c83 => ?_) (fun c83 => ?_)
        · have k84 := sf_lneC e82 c83
          refine pm_R_op pm_M243 (pc' := 65) (st' := [.int 0]) rfl rfl rfl ?_
          exact pm_R_ret pm_M243 (r := some (.int 0)) rfl rfl (K 0 m71 w72 h73 T74 F77 W79 (sf_weak sf_k0 (by decide) (by decide)))
        · have B85 : sf_B 0 0 z81 := sf_eqL (Classical.not_not.mp c83) sf_k0
          refine pm_R_op pm_M243 (pc' := 61) (st' := [.int 1]) rfl rfl rfl ?_
          refine pm_R_br pm_M243 (pc' := 65) rfl rfl ?_
          exact pm_R_ret pm_M243 (r := some (.int 1)) rfl rfl (K 1 m71 w72 h73 T74 F77 W79 (sf_weak sf_k1 (by decide) (by decide)))
    · have k86 := sf_lneC e52 c53
      refine pm_R_op pm_M243 (pc' := 40) (st' := [.int 0]) rfl rfl rfl ?_
      exact pm_R_ret pm_M243 (r := some (.int 0)) rfl rfl (K 0 m41 w42 h43 T44 F47 W49 (sf_weak sf_k0 (by decide) (by decide)))

set_option maxRecDepth 100000 in
set_option maxHeartbeats 4000000 in
/-- SilentTableModel.findBrief -/
theorem rf_c241 {d : Nat} {m : Nat → Int32} {w : Int64} {h : pm_H} {Q : Option Value → pm_H → Prop} {a0 : Int32} {a1 : Int32} (T : rf_T m w h) (Ba0 : sf_B 0 49 a0) (Ba1 : sf_B (-1) 9 a1) (K : ∀ (r : Int32) (m' : Nat → Int32) (w' : Int64) (h' : pm_H), rf_T m' w' h' → rf_F h h' → rf_W [24, 26] m m' → sf_B 0 1 r → Q (some (.int r)) h') : pm_R (d + 8) 241 0 [.ref 41, .int a0, .int a1, pm_no, pm_no] [] h Q := by
  refine pm_R_op pm_M241 (pc' := 1) (st' := [.int 1]) rfl rfl rfl ?_
  refine pm_R_lo pm_M241 (pc' := 2) (ls' := [.ref 41, .int a0, .int a1, .int 1, pm_no]) (st' := []) rfl rfl rfl ?_
  have L_1289 : ∀ (N : Nat) (h_1289 : pm_H) (m_1289 : Nat → Int32) (w_1289 : Int64) (x3_1289 : Int32) (g4_1289 : Value), rf_T m_1289 w_1289 h_1289 → rf_F h h_1289 → rf_W [24, 26] m m_1289 → sf_B 1 5 x3_1289 → g4_1289.category = 1 → (5 - x3_1289.toInt).toNat = N → pm_R (d + 8) 241 2 [.ref 41, .int a0, .int a1, .int x3_1289, g4_1289] [] h_1289 Q := by
    intro N
    induction N using Nat.strongRecOn with
    | ind N ih_1289 =>
      intro h_1289 m_1289 w_1289 x3_1289 g4_1289 T_1289 F_1289 W_1289 Bx3_1289 Cg4_1289 hN_1289
      have W1291 : rf_W [24, 26] m m_1289 := (rf_W.refl [24, 26] m).trans W_1289 (by decide)
      refine pm_R_lo pm_M241 (pc' := 3) rfl rfl rfl ?_
      refine pm_R_op pm_M241 (pc' := 4) (st' := [.int 4, .int x3_1289]) rfl rfl rfl ?_
      refine pm_R_icmp pm_M241 (t := 52) (pc' := 7) rfl rfl rfl (fun c1292 => ?_) (fun c1292 => ?_)
      · have B1293 : sf_B 5 5 x3_1289 := sf_ltR c1292 sf_k4 Bx3_1289
        refine pm_R_op pm_M241 (pc' := 53) (st' := [.int 0]) rfl rfl rfl ?_
        exact pm_R_ret pm_M241 (r := some (.int 0)) rfl rfl (K 0 m_1289 w_1289 h_1289 T_1289 F_1289 W1291 (sf_weak sf_k0 (by decide) (by decide)))
      · have B1294 : sf_B 1 4 x3_1289 := sf_leL (Int32.not_lt.mp c1292) Bx3_1289 sf_k4
        refine pm_R_op pm_M241 (pc' := 8) (st' := [.int 0]) rfl rfl rfl ?_
        refine pm_R_lo pm_M241 (pc' := 10) (ls' := [.ref 41, .int a0, .int a1, .int x3_1289, .int 0]) (st' := []) rfl rfl rfl ?_
        have L_1515 : ∀ (N : Nat) (h_1515 : pm_H) (m_1515 : Nat → Int32) (w_1515 : Int64) (x4_1515 : Int32), rf_T m_1515 w_1515 h_1515 → rf_F h h_1515 → rf_W [24, 26] m_1289 m_1515 → sf_B 0 2147483647 x4_1515 → (2147483647 - x4_1515.toInt).toNat = N → pm_R (d + 8) 241 10 [.ref 41, .int a0, .int a1, .int x3_1289, .int x4_1515] [] h_1515 Q := by
          intro N
          induction N using Nat.strongRecOn with
          | ind N ih_1515 =>
            intro h_1515 m_1515 w_1515 x4_1515 T_1515 F_1515 W_1515 Bx4_1515 hN_1515
            have W1517 : rf_W [24, 26] m m_1515 := W1291.trans W_1515 (by decide)
            have W1518 : rf_W [24, 26] m m_1515 := W_1289.trans W_1515 (by decide)
            refine pm_R_lo pm_M241 (pc' := 12) rfl rfl rfl ?_
            refine pm_R_lo pm_M241 (pc' := 13) rfl rfl rfl ?_
            refine pm_R_cs pm_M241 (pc' := 16) (ra := [.int x3_1289]) (rest := [.int x4_1515]) (ls' := [.int x3_1289, pm_no, pm_no]) rfl rfl (Or.inl rfl) pm_M242 rfl rfl (Nat.le_of_ble_eq_true rfl) rfl rfl ?_
            refine rf_c242 (d := d + 7) (sf_weak B1294 (by decide) (by decide)) (fun r1519 => ?_)
            show pm_R _ 241 16 [.ref 41, .int a0, .int a1, .int x3_1289, .int x4_1515] [.int r1519, .int x4_1515] _ _
            refine pm_R_icmp pm_M241 (t := 46) (pc' := 19) rfl rfl rfl (fun c1527 => ?_) (fun c1527 => ?_)
            · skip
              refine sf_R_iinc pm_M241 (pc' := 49) (ls' := fun z => [.ref 41, .int a0, .int a1, .int z, .int x4_1515]) rfl B1294 rfl (by decide) (by decide) (by decide) (fun _ => rfl) rfl (fun z1528 e1529 B1530 => ?_)
              show pm_R _ 241 49 [.ref 41, .int a0, .int a1, .int z1528, .int x4_1515] [] _ _
              refine pm_R_br pm_M241 (pc' := 2) rfl rfl ?_
              exact ih_1289 _ (sf_up hN_1289 e1529 B1294 (by decide) (by decide)) h_1515 m_1515 w_1515 z1528 (.int x4_1515) T_1515 F_1515 W1518 (sf_weak B1530 (by decide) (by decide)) rfl rfl
            · have B1531 : sf_B 0 2147483646 x4_1515 := sf_ltL (Int32.not_le.mp c1527) Bx4_1515 (sf_any r1519)
              have B1532 : sf_B 1 2147483647 r1519 := sf_ltR (Int32.not_le.mp c1527) Bx4_1515 (sf_any r1519)
              refine pm_R_lo pm_M241 (pc' := 20) rfl rfl rfl ?_
              refine pm_R_lo pm_M241 (pc' := 21) rfl rfl rfl ?_
              refine pm_R_lo pm_M241 (pc' := 23) rfl rfl rfl ?_
              refine pm_R_lo pm_M241 (pc' := 24) rfl rfl rfl ?_
              refine pm_R_lo pm_M241 (pc' := 25) rfl rfl rfl ?_
              refine pm_R_cv pm_M241 (pc' := 28) (a := 41) (ra := [.int a1, .int a0, .int x4_1515, .int x3_1289]) (rest := []) (ls' := [.ref 41, .int x3_1289, .int x4_1515, .int a0, .int a1]) rfl rfl (Or.inl rfl) pm_M243 T_1515.2.1 rfl (by decide) (Nat.lt_of_lt_of_le (by decide) T_1515.1) rfl rfl (Nat.le_of_ble_eq_true rfl) rfl rfl ?_
              refine rf_c243 (d := d + 0) T_1515 B1294 (sf_weak B1531 (by decide) (by decide)) Ba0 Ba1 (fun r1533 m1535 w1536 h1537 T1538 F1539 W1540 B1534 => ?_)
              have F1541 := F_1515.trans F1539
              have W1542 : rf_W [24, 26] m m1535 := W1517.trans W1540 (by decide)
              have W1543 : rf_W [24, 26] m m1535 := W1518.trans W1540 (by decide)
              have W1544 : rf_W [24, 26] m_1289 m1535 := W_1515.trans W1540 (by decide)
              show pm_R _ 241 28 [.ref 41, .int a0, .int a1, .int x3_1289, .int x4_1515] [.int r1533] _ _
              refine pm_R_ifc pm_M241 (t := 40) (pc' := 31) rfl rfl rfl (fun c1545 => ?_) (fun c1545 => ?_)
              · have B1546 : sf_B 0 0 r1533 := sf_eqL c1545 sf_k0
                refine sf_R_iinc pm_M241 (pc' := 43) (ls' := fun z => [.ref 41, .int a0, .int a1, .int x3_1289, .int z]) rfl B1531 rfl (by decide) (by decide) (by decide) (fun _ => rfl) rfl (fun z1547 e1548 B1549 => ?_)
                show pm_R _ 241 43 [.ref 41, .int a0, .int a1, .int x3_1289, .int z1547] [] _ _
                refine pm_R_br pm_M241 (pc' := 10) rfl rfl ?_
                exact ih_1515 _ (sf_up hN_1515 e1548 B1531 (by decide) (by decide)) h1537 m1535 w1536 z1547 T1538 F1541 W1544 (sf_weak B1549 (by decide) (by decide)) rfl
              · have B1550 : sf_B 1 1 r1533 := sf_neL0 c1545 sf_k0 B1534
                refine pm_R_lo pm_M241 (pc' := 32) rfl rfl rfl ?_
                refine pm_R_lo pm_M241 (pc' := 33) rfl rfl rfl ?_
                refine pm_R_lo pm_M241 (pc' := 35) rfl rfl rfl ?_
                refine pm_R_cv pm_M241 (pc' := 38) (a := 41) (ra := [.int x4_1515, .int x3_1289]) (rest := []) (ls' := [.ref 41, .int x3_1289, .int x4_1515, pm_no, pm_no]) rfl rfl (Or.inl rfl) pm_M245 T1538.2.1 rfl (by decide) (Nat.lt_of_lt_of_le (by decide) T1538.1) rfl rfl (Nat.le_of_ble_eq_true rfl) rfl rfl ?_
                refine rf_c245 (d := d + 7) T1538 B1294 (sf_weak B1531 (by decide) (by decide)) (fun m1553 w1554 h1555 T1556 F1557 W1558 => ?_)
                have F1559 := F1541.trans F1557
                have W1560 : rf_W [24, 26] m m1553 := W1542.trans W1558 (by decide)
                have W1561 : rf_W [24, 26] m m1553 := W1543.trans W1558 (by decide)
                have W1562 : rf_W [24, 26] m_1289 m1553 := W1544.trans W1558 (by decide)
                show pm_R _ 241 38 [.ref 41, .int a0, .int a1, .int x3_1289, .int x4_1515] [] _ _
                refine pm_R_op pm_M241 (pc' := 39) (st' := [.int 1]) rfl rfl rfl ?_
                exact pm_R_ret pm_M241 (r := some (.int 1)) rfl rfl (K 1 m1553 w1554 h1555 T1556 F1559 W1560 (sf_weak sf_k1 (by decide) (by decide)))
        exact L_1515 _ h_1289 m_1289 w_1289 0 T_1289 F_1289 (rf_W.refl _ _) (sf_weak sf_k0 (by decide) (by decide)) rfl
  exact L_1289 _ h m w 1 (pm_no) T (rf_F.refl h) (rf_W.refl _ _) (sf_weak sf_k1 (by decide) (by decide)) rfl rfl

set_option maxRecDepth 100000 in
set_option maxHeartbeats 4000000 in
/-- SilentTableModel.layMeal -/
theorem rf_c254 {d : Nat} {m : Nat → Int32} {w : Int64} {h : pm_H} {Q : Option Value → pm_H → Prop} {a0 : Int32} (T : rf_T m w h)  (K : ∀ (r : Int32) (m' : Nat → Int32) (w' : Int64) (h' : pm_H), rf_T m' w' h' → rf_F h h' → rf_W [42, 43, 44] m m' → sf_B 0 1 r → Q (some (.int r)) h') : pm_R (d + 2) 254 0 [.ref 41, .int a0, pm_no, pm_no, pm_no, pm_no] [] h Q := by
  refine pm_R_lo pm_M254 (pc' := 1) rfl rfl rfl ?_
  refine pm_R_op pm_M254 (pc' := 2) (st' := [.int 2, .ref 41]) rfl rfl rfl ?_
  refine pm_R_lo pm_M254 (pc' := 3) rfl rfl rfl ?_
  refine pm_R_cv pm_M254 (pc' := 6) (a := 41) (ra := [.int a0, .int 2]) (rest := []) (ls' := [.ref 41, .int 2, .int a0]) rfl rfl (Or.inl rfl) pm_M177 T.2.1 rfl (by decide) (Nat.lt_of_lt_of_le (by decide) T.1) rfl rfl (Nat.le_of_ble_eq_true rfl) rfl rfl ?_
  refine pm_R_lo pm_M177 (pc' := 1) rfl rfl rfl ?_
  refine pm_R_op pm_M177 (pc' := 2) (st' := [.int 0, .int a0]) rfl rfl rfl ?_
  refine pm_R_lo pm_M177 (pc' := 3) rfl rfl rfl ?_
  refine rf_R_get pm_M177 T (pc' := 6) (v := .ref 46) rfl rfl rfl rfl ?_
  refine pm_R_lo pm_M177 (pc' := 7) rfl rfl rfl ?_
  obtain ⟨f1, e2, b3⟩ := T.2.2.2.1 46 (by decide) (by decide)
  refine rf_R_ild pm_M177 T (pc' := 8) rfl e2 (by decide) rfl rfl (fun z4 ez5 => ?_)
  have B6 : sf_B 0 2 z4 := ez5 ▸ (b3 2)
  refine pm_R_op pm_M177 (pc' := 9) (st' := [.int 1, .int z4, .int 0, .int a0]) rfl rfl rfl ?_
  refine sf_R_isub pm_M177 (pc' := 10) rfl rfl B6 sf_k1 (by decide) (by decide) (fun z7 e8 B9 => ?_)
  refine pm_R_cs pm_M177 (pc' := 13) (ra := [.int z7, .int 0, .int a0]) (rest := []) (ls' := [.int a0, .int 0, .int z7]) rfl rfl (Or.inl rfl) pm_M174 rfl rfl (Nat.le_of_ble_eq_true rfl) rfl rfl ?_
  refine pm_R_lo pm_M174 (pc' := 1) rfl rfl rfl ?_
  refine pm_R_lo pm_M174 (pc' := 2) rfl rfl rfl ?_
  refine pm_R_icmp pm_M174 (t := 14) (pc' := 5) rfl rfl rfl (fun c10 => ?_) (fun c10 => ?_)
  · have B11 : sf_B (-2147483648) (-1) a0 := sf_ltL c10 (sf_any a0) sf_k0
    refine pm_R_op pm_M174 (pc' := 15) (st' := [.int 0]) rfl rfl rfl ?_
    refine pm_R_ret pm_M174 (r := some (.int 0)) rfl rfl ?_
    show pm_R _ 177 13 [.ref 41, .int 2, .int a0] [.int 0] _ _
    refine pm_R_ret pm_M177 (r := some (.int 0)) rfl rfl ?_
    show pm_R _ 254 6 [.ref 41, .int a0, pm_no, pm_no, pm_no, pm_no] [.int 0] _ _
    refine pm_R_br pm_M254 (pc' := 9) (st' := []) rfl rfl ?_
    refine pm_R_op pm_M254 (pc' := 10) (st' := [.int 0]) rfl rfl rfl ?_
    exact pm_R_ret pm_M254 (r := some (.int 0)) rfl rfl (K 0 m w h T (rf_F.refl h) (rf_W.refl [42, 43, 44] m) (sf_weak sf_k0 (by decide) (by decide)))
  · have B12 : sf_B 0 2147483647 a0 := sf_leR (Int32.not_lt.mp c10) sf_k0 (sf_any a0)
    refine pm_R_lo pm_M174 (pc' := 6) rfl rfl rfl ?_
    refine pm_R_lo pm_M174 (pc' := 7) rfl rfl rfl ?_
    refine pm_R_icmp pm_M174 (t := 14) (pc' := 10) rfl rfl rfl (fun c13 => ?_) (fun c13 => ?_)
    · skip
      refine pm_R_op pm_M174 (pc' := 15) (st' := [.int 0]) rfl rfl rfl ?_
      refine pm_R_ret pm_M174 (r := some (.int 0)) rfl rfl ?_
      show pm_R _ 177 13 [.ref 41, .int 2, .int a0] [.int 0] _ _
      refine pm_R_ret pm_M177 (r := some (.int 0)) rfl rfl ?_
      show pm_R _ 254 6 [.ref 41, .int a0, pm_no, pm_no, pm_no, pm_no] [.int 0] _ _
      refine pm_R_br pm_M254 (pc' := 9) (st' := []) rfl rfl ?_
      refine pm_R_op pm_M254 (pc' := 10) (st' := [.int 0]) rfl rfl rfl ?_
      exact pm_R_ret pm_M254 (r := some (.int 0)) rfl rfl (K 0 m w h T (rf_F.refl h) (rf_W.refl [42, 43, 44] m) (sf_weak sf_k0 (by decide) (by decide)))
    · have B14 : sf_B 0 1 a0 := sf_leL (Int32.not_lt.mp c13) B12 B9
      have B15 : sf_B 0 1 z7 := sf_leR (Int32.not_lt.mp c13) B12 B9
      refine pm_R_op pm_M174 (pc' := 11) (st' := [.int 1]) rfl rfl rfl ?_
      refine pm_R_br pm_M174 (pc' := 15) rfl rfl ?_
      refine pm_R_ret pm_M174 (r := some (.int 1)) rfl rfl ?_
      show pm_R _ 177 13 [.ref 41, .int 2, .int a0] [.int 1] _ _
      refine pm_R_ret pm_M177 (r := some (.int 1)) rfl rfl ?_
      show pm_R _ 254 6 [.ref 41, .int a0, pm_no, pm_no, pm_no, pm_no] [.int 1] _ _
      refine pm_R_br pm_M254 (pc' := 11) (st' := []) rfl rfl ?_
      refine pm_R_lo pm_M254 (pc' := 12) rfl rfl rfl ?_
      refine pm_R_lo pm_M254 (pc' := 13) rfl rfl rfl ?_
      refine rf_R_put pm_M254 T (pc' := 16) rfl rfl rfl (by decide) rfl rfl B14 rfl rfl (fun h16 m19 em20 T17 F18 => ?_)
      have F21 := (rf_F.refl h).trans F18
      have B22 : sf_B 0 1 (m19 44) := by rw [em20]; exact B14
      have W23 : rf_W [42, 43, 44] m m19 := by rw [em20]; exact (rf_W.refl [42, 43, 44] m).put (by decide)
      refine pm_R_lo pm_M254 (pc' := 17) rfl rfl rfl ?_
      refine pm_R_lo pm_M254 (pc' := 18) rfl rfl rfl ?_
      refine rf_R_get pm_M254 T17 (pc' := 21) (v := .ref 49) rfl rfl rfl rfl ?_
      refine pm_R_op pm_M254 (pc' := 24) (st' := [.int 152, .ref 49, .ref 41]) rfl rfl rfl ?_
      refine pm_R_lo pm_M254 (pc' := 25) rfl rfl rfl ?_
      refine sf_R_imul pm_M254 (pc' := 26) rfl rfl sf_k152 B14 (by decide) (by decide) (by decide) (fun z24 e25 B26 => ?_)
      obtain ⟨f27, e28, b29⟩ := T17.2.2.2.1 49 (by decide) (by decide)
      refine rf_R_ild pm_M254 T17 (pc' := 27) rfl e28 (by decide) (sf_in B26 (by decide) (by decide)) rfl (fun z30 ez31 => ?_)
      have e32 : (z24).toInt = 152 * (a0).toInt + 0 := by
        have q0 := e25
        simp only [(show (152 : Int32).toInt = 152 from rfl)] at q0
        omega
      have B33 : sf_B 0 6 z30 := ez31 ▸ rf_p49a b29 e32 B14 (by decide)
      refine rf_R_put pm_M254 T17 (pc' := 30) rfl rfl rfl (by decide) rfl rfl B33 rfl rfl (fun h34 m37 em38 T35 F36 => ?_)
      have F39 := F21.trans F36
      have B40 : sf_B 0 6 (m37 42) := by rw [em38]; exact B33
      have W41 : rf_W [42, 43, 44] m m37 := by rw [em38]; exact W23.put (by decide)
      refine pm_R_lo pm_M254 (pc' := 31) rfl rfl rfl ?_
      refine pm_R_lo pm_M254 (pc' := 32) rfl rfl rfl ?_
      refine rf_R_get pm_M254 T35 (pc' := 35) (v := .ref 49) rfl rfl rfl rfl ?_
      refine pm_R_op pm_M254 (pc' := 38) (st' := [.int 152, .ref 49, .ref 41]) rfl rfl rfl ?_
      refine pm_R_lo pm_M254 (pc' := 39) rfl rfl rfl ?_
      refine sf_R_imul pm_M254 (pc' := 40) rfl rfl sf_k152 B14 (by decide) (by decide) (by decide) (fun z42 e43 B44 => ?_)
      refine pm_R_op pm_M254 (pc' := 41) (st' := [.int 1, .int z42, .ref 49, .ref 41]) rfl rfl rfl ?_
      refine sf_R_iadd pm_M254 (pc' := 42) rfl rfl B44 sf_k1 (by decide) (by decide) (fun z45 e46 B47 => ?_)
      obtain ⟨f48, e49, b50⟩ := T35.2.2.2.1 49 (by decide) (by decide)
      refine rf_R_ild pm_M254 T35 (pc' := 43) rfl e49 (by decide) (sf_in B47 (by decide) (by decide)) rfl (fun z51 ez52 => ?_)
      have e53 : (z45).toInt = 152 * (a0).toInt + 1 := by
        have q0 := e43
        have q1 := e46
        simp only [(show (1 : Int32).toInt = 1 from rfl), (show (152 : Int32).toInt = 152 from rfl)] at q0 q1
        omega
      have B54 : sf_B 0 50 z51 := ez52 ▸ rf_p49b b50 e53 B14 (by decide)
      refine rf_R_put pm_M254 T35 (pc' := 46) rfl rfl rfl (by decide) rfl rfl B54 rfl rfl (fun h55 m58 em59 T56 F57 => ?_)
      have F60 := F39.trans F57
      have B61 : sf_B 0 50 (m58 43) := by rw [em59]; exact B54
      have W62 : rf_W [42, 43, 44] m m58 := by rw [em59]; exact W41.put (by decide)
      refine pm_R_op pm_M254 (pc' := 47) (st' := [.int 0]) rfl rfl rfl ?_
      refine pm_R_lo pm_M254 (pc' := 48) (ls' := [.ref 41, .int a0, .int 0, pm_no, pm_no, pm_no]) (st' := []) rfl rfl rfl ?_
      have L_26082 : ∀ (N : Nat) (h_26082 : pm_H) (m_26082 : Nat → Int32) (w_26082 : Int64) (x2_26082 : Int32), rf_T m_26082 w_26082 h_26082 → rf_F h h_26082 → rf_W [] m58 m_26082 → sf_B 0 6 x2_26082 → (6 - x2_26082.toInt).toNat = N → pm_R (d + 2) 254 48 [.ref 41, .int a0, .int x2_26082, pm_no, pm_no, pm_no] [] h_26082 Q := by
        intro N
        induction N using Nat.strongRecOn with
        | ind N ih_26082 =>
          intro h_26082 m_26082 w_26082 x2_26082 T_26082 F_26082 W_26082 Bx2_26082 hN_26082
          have W26084 : rf_W [42, 43, 44] m m_26082 := W62.trans W_26082 (by decide)
          refine pm_R_lo pm_M254 (pc' := 49) rfl rfl rfl ?_
          refine pm_R_op pm_M254 (pc' := 51) (st' := [.int 6, .int x2_26082]) rfl rfl rfl ?_
          refine pm_R_icmp pm_M254 (t := 67) (pc' := 54) rfl rfl rfl (fun c26085 => ?_) (fun c26085 => ?_)
          · have B26086 : sf_B 6 6 x2_26082 := sf_leR c26085 sf_k6 Bx2_26082
            refine pm_R_op pm_M254 (pc' := 68) (st' := [.int 0]) rfl rfl rfl ?_
            refine pm_R_lo pm_M254 (pc' := 69) (ls' := [.ref 41, .int a0, .int 0, pm_no, pm_no, pm_no]) (st' := []) rfl rfl rfl ?_
            have L_39067 : ∀ (N : Nat) (h_39067 : pm_H) (m_39067 : Nat → Int32) (w_39067 : Int64) (x2_39067 : Int32) (g3_39067 : Value) (g4_39067 : Value) (g5_39067 : Value), rf_T m_39067 w_39067 h_39067 → rf_F h h_39067 → rf_W [] m_26082 m_39067 → sf_B 0 50 x2_39067 → g3_39067.category = 1 → g4_39067.category = 1 → g5_39067.category = 1 → (50 - x2_39067.toInt).toNat = N → pm_R (d + 2) 254 69 [.ref 41, .int a0, .int x2_39067, g3_39067, g4_39067, g5_39067] [] h_39067 Q := by
              intro N
              induction N using Nat.strongRecOn with
              | ind N ih_39067 =>
                intro h_39067 m_39067 w_39067 x2_39067 g3_39067 g4_39067 g5_39067 T_39067 F_39067 W_39067 Bx2_39067 Cg3_39067 Cg4_39067 Cg5_39067 hN_39067
                have W39069 : rf_W [42, 43, 44] m m_39067 := W26084.trans W_39067 (by decide)
                have W39070 : rf_W [] m58 m_39067 := W_26082.trans W_39067 (by decide)
                refine pm_R_lo pm_M254 (pc' := 70) rfl rfl rfl ?_
                refine pm_R_lo pm_M254 (pc' := 71) rfl rfl rfl ?_
                have B39071 : sf_B 0 50 (m_39067 43) := T_39067.2.2.1 43
                refine rf_R_get pm_M254 T_39067 (pc' := 74) (v := .int (m_39067 43)) rfl rfl rfl rfl ?_
                refine pm_R_icmp pm_M254 (t := 214) (pc' := 77) rfl rfl rfl (fun c39072 => ?_) (fun c39072 => ?_)
                · skip
                  refine pm_R_op pm_M254 (pc' := 215) (st' := [.int 1]) (pm_q254_2 (Nat.le_of_ble_eq_true rfl)) rfl rfl ?_
                  exact pm_R_ret pm_M254 (r := some (.int 1)) (pm_q254_2 (Nat.le_of_ble_eq_true rfl)) rfl (K 1 m_39067 w_39067 h_39067 T_39067 F_39067 W39069 (sf_weak sf_k1 (by decide) (by decide)))
                · have B39073 : sf_B 0 49 x2_39067 := sf_ltL (Int32.not_le.mp c39072) Bx2_39067 B39071
                  have B39074 : sf_B 1 50 (m_39067 43) := sf_ltR (Int32.not_le.mp c39072) Bx2_39067 B39071
                  refine pm_R_lo pm_M254 (pc' := 78) rfl rfl rfl ?_
                  refine pm_R_lo pm_M254 (pc' := 79) rfl rfl rfl ?_
                  refine pm_R_op pm_M254 (pc' := 80) (st' := [.int 1, .int x2_39067, .ref 41]) rfl rfl rfl ?_
                  refine pm_R_cv pm_M254 (pc' := 83) (a := 41) (ra := [.int 1, .int x2_39067]) (rest := []) (ls' := [.ref 41, .int x2_39067, .int 1]) rfl rfl (Or.inl rfl) pm_M255 T_39067.2.1 rfl (by decide) (Nat.lt_of_lt_of_le (by decide) T_39067.1) rfl rfl (Nat.le_of_ble_eq_true rfl) rfl rfl ?_
                  refine pm_R_lo pm_M255 (pc' := 1) rfl rfl rfl ?_
                  refine rf_R_get pm_M255 T_39067 (pc' := 4) (v := .ref 49) rfl rfl rfl rfl ?_
                  refine pm_R_op pm_M255 (pc' := 7) (st' := [.int 152, .ref 49]) rfl rfl rfl ?_
                  refine pm_R_lo pm_M255 (pc' := 8) rfl rfl rfl ?_
                  have B39075 : sf_B 0 1 (m_39067 44) := T_39067.2.2.1 44
                  refine rf_R_get pm_M255 T_39067 (pc' := 11) (v := .int (m_39067 44)) rfl rfl rfl rfl ?_
                  refine sf_R_imul pm_M255 (pc' := 12) rfl rfl sf_k152 B39075 (by decide) (by decide) (by decide) (fun z39076 e39077 B39078 => ?_)
                  refine pm_R_op pm_M255 (pc' := 13) (st' := [.int 2, .int z39076, .ref 49]) rfl rfl rfl ?_
                  refine sf_R_iadd pm_M255 (pc' := 14) rfl rfl B39078 sf_k2 (by decide) (by decide) (fun z39079 e39080 B39081 => ?_)
                  refine pm_R_op pm_M255 (pc' := 15) (st' := [.int 3, .int z39079, .ref 49]) rfl rfl rfl ?_
                  refine pm_R_lo pm_M255 (pc' := 16) rfl rfl rfl ?_
                  refine sf_R_imul pm_M255 (pc' := 17) rfl rfl sf_k3 B39073 (by decide) (by decide) (by decide) (fun z39082 e39083 B39084 => ?_)
                  refine sf_R_iadd pm_M255 (pc' := 18) rfl rfl B39081 B39084 (by decide) (by decide) (fun z39085 e39086 B39087 => ?_)
                  refine pm_R_lo pm_M255 (pc' := 19) rfl rfl rfl ?_
                  refine sf_R_iadd pm_M255 (pc' := 20) rfl rfl B39087 sf_k1 (by decide) (by decide) (fun z39088 e39089 B39090 => ?_)
                  obtain ⟨f39091, e39092, b39093⟩ := T_39067.2.2.2.1 49 (by decide) (by decide)
                  refine rf_R_ild pm_M255 T_39067 (pc' := 21) rfl e39092 (by decide) (sf_in B39090 (by decide) (by decide)) rfl (fun z39094 ez39095 => ?_)
                  have e39096 : (z39088).toInt = 152 * ((m_39067 44)).toInt + 3 * (x2_39067).toInt + 3 := by
                    have q0 := e39077
                    have q1 := e39080
                    have q2 := e39083
                    have q3 := e39086
                    have q4 := e39089
                    simp only [(show (1 : Int32).toInt = 1 from rfl), (show (2 : Int32).toInt = 2 from rfl), (show (3 : Int32).toInt = 3 from rfl), (show (152 : Int32).toInt = 152 from rfl)] at q0 q1 q2 q3 q4
                    omega
                  have B39097 : sf_B 0 5 z39094 := ez39095 ▸ rf_p49w b39093 e39096 B39075 B39073 (by decide) (by decide) (by decide)
                  refine pm_R_ret pm_M255 (r := some (.int z39094)) rfl (pm_ret_i _) ?_
                  show pm_R _ 254 83 [.ref 41, .int a0, .int x2_39067, g3_39067, g4_39067, g5_39067] [.int z39094] _ _
                  refine pm_R_lo pm_M254 (pc' := 84) (ls' := [.ref 41, .int a0, .int x2_39067, .int z39094, g4_39067, g5_39067]) (st' := []) rfl rfl rfl ?_
                  refine pm_R_lo pm_M254 (pc' := 85) rfl rfl rfl ?_
                  refine rf_R_get pm_M254 T_39067 (pc' := 88) (v := .ref 68) rfl rfl rfl rfl ?_
                  refine pm_R_lo pm_M254 (pc' := 89) rfl rfl rfl ?_
                  refine pm_R_op pm_M254 (pc' := 90) (st' := [.int 0, .int x2_39067, .ref 68]) rfl rfl rfl ?_
                  obtain ⟨f39098, e39099⟩ := T_39067.2.2.2.1 68 (by decide) (by decide)
                  refine rf_R_ist pm_M254 T_39067 (pc' := 91) rfl e39099 (by decide) (by decide) (sf_in B39073 (by decide) (by decide)) ⟨_, rfl⟩ rfl (fun h39101 T39102 F39103 => ?_)
                  have F39104 := F_39067.trans F39103
                  refine pm_R_op pm_M254 (pc' := 92) (st' := [.int 0]) rfl rfl rfl ?_
                  refine pm_R_lo pm_M254 (pc' := 94) (ls' := [.ref 41, .int a0, .int x2_39067, .int z39094, .int 0, g5_39067]) (st' := []) rfl rfl rfl ?_
                  have L_41662 : ∀ (N : Nat) (h_41662 : pm_H) (m_41662 : Nat → Int32) (w_41662 : Int64) (x4_41662 : Int32) (g5_41662 : Value), rf_T m_41662 w_41662 h_41662 → rf_F h h_41662 → rf_W [] m_39067 m_41662 → sf_B 0 6 x4_41662 → g5_41662.category = 1 → (6 - x4_41662.toInt).toNat = N → pm_R (d + 2) 254 94 [.ref 41, .int a0, .int x2_39067, .int z39094, .int x4_41662, g5_41662] [] h_41662 Q := by
                    intro N
                    induction N using Nat.strongRecOn with
                    | ind N ih_41662 =>
                      intro h_41662 m_41662 w_41662 x4_41662 g5_41662 T_41662 F_41662 W_41662 Bx4_41662 Cg5_41662 hN_41662
                      have B41664 : sf_B 1 50 (m_41662 43) := by rw [W_41662 43 (by decide)]; exact B39074
                      have W41665 : rf_W [42, 43, 44] m m_41662 := W39069.trans W_41662 (by decide)
                      have W41666 : rf_W [] m58 m_41662 := W39070.trans W_41662 (by decide)
                      have W41667 : rf_W [] m_26082 m_41662 := W_39067.trans W_41662 (by decide)
                      refine pm_R_lo pm_M254 (pc' := 96) rfl rfl rfl ?_
                      refine pm_R_op pm_M254 (pc' := 98) (st' := [.int 6, .int x4_41662]) rfl rfl rfl ?_
                      refine pm_R_icmp pm_M254 (t := 208) (pc' := 101) (pm_q254_1 (Nat.le_of_ble_eq_true rfl)) rfl rfl (fun c41668 => ?_) (fun c41668 => ?_)
                      · have B41669 : sf_B 6 6 x4_41662 := sf_leR c41668 sf_k6 Bx4_41662
                        refine sf_R_iinc pm_M254 (pc' := 211) (ls' := fun z => [.ref 41, .int a0, .int z, .int z39094, .int x4_41662, g5_41662]) (pm_q254_2 (Nat.le_of_ble_eq_true rfl)) B39073 rfl (by decide) (by decide) (by decide) (fun _ => rfl) rfl (fun z41670 e41671 B41672 => ?_)
                        show pm_R _ 254 211 [.ref 41, .int a0, .int z41670, .int z39094, .int x4_41662, g5_41662] [] _ _
                        refine pm_R_br pm_M254 (pc' := 69) (pm_q254_2 (Nat.le_of_ble_eq_true rfl)) rfl ?_
                        exact ih_39067 _ (sf_up hN_39067 e41671 B39073 (by decide) (by decide)) h_41662 m_41662 w_41662 z41670 (.int z39094) (.int x4_41662) (g5_41662) T_41662 F_41662 W41667 (sf_weak B41672 (by decide) (by decide)) rfl rfl Cg5_41662 rfl
                      · have B41673 : sf_B 0 5 x4_41662 := sf_ltL (Int32.not_le.mp c41668) Bx4_41662 sf_k6
                        refine pm_R_lo pm_M254 (pc' := 102) (pm_q254_1 (Nat.le_of_ble_eq_true rfl)) rfl rfl ?_
                        refine rf_R_get pm_M254 T_41662 (pc' := 105) (v := .ref 67) (pm_q254_1 (Nat.le_of_ble_eq_true rfl)) rfl rfl rfl ?_
                        refine pm_R_op pm_M254 (pc' := 107) (st' := [.int 6, .ref 67]) (pm_q254_1 (Nat.le_of_ble_eq_true rfl)) rfl rfl ?_
                        refine pm_R_lo pm_M254 (pc' := 108) (pm_q254_1 (Nat.le_of_ble_eq_true rfl)) rfl rfl ?_
                        refine sf_R_imul pm_M254 (pc' := 109) (pm_q254_1 (Nat.le_of_ble_eq_true rfl)) rfl sf_k6 B39073 (by decide) (by decide) (by decide) (fun z41674 e41675 B41676 => ?_)
                        refine pm_R_lo pm_M254 (pc' := 111) (pm_q254_1 (Nat.le_of_ble_eq_true rfl)) rfl rfl ?_
                        refine sf_R_iadd pm_M254 (pc' := 112) (pm_q254_1 (Nat.le_of_ble_eq_true rfl)) rfl B41676 B41673 (by decide) (by decide) (fun z41677 e41678 B41679 => ?_)
                        obtain ⟨f41680, e41681⟩ := T_41662.2.2.2.1 67 (by decide) (by decide)
                        refine rf_R_ild pm_M254 T_41662 (pc' := 113) (pm_q254_1 (Nat.le_of_ble_eq_true rfl)) e41681 (by decide) (sf_in B41679 (by decide) (by decide)) rfl (fun z41683 ez41684 => ?_)
                        refine pm_R_lo pm_M254 (pc' := 115) (ls' := [.ref 41, .int a0, .int x2_39067, .int z39094, .int x4_41662, .int z41683]) (st' := []) (pm_q254_1 (Nat.le_of_ble_eq_true rfl)) rfl rfl ?_
                        refine pm_R_lo pm_M254 (pc' := 116) (pm_q254_1 (Nat.le_of_ble_eq_true rfl)) rfl rfl ?_
                        refine rf_R_get pm_M254 T_41662 (pc' := 119) (v := .ref 68) (pm_q254_1 (Nat.le_of_ble_eq_true rfl)) rfl rfl rfl ?_
                        refine pm_R_lo pm_M254 (pc' := 120) (pm_q254_1 (Nat.le_of_ble_eq_true rfl)) rfl rfl ?_
                        refine pm_R_op pm_M254 (pc' := 121) (st' := [.int x2_39067, .ref 68, .int x2_39067, .ref 68]) (pm_q254_1 (Nat.le_of_ble_eq_true rfl)) rfl rfl ?_
                        obtain ⟨f41685, e41686⟩ := T_41662.2.2.2.1 68 (by decide) (by decide)
                        refine rf_R_ild pm_M254 T_41662 (pc' := 122) (pm_q254_1 (Nat.le_of_ble_eq_true rfl)) e41686 (by decide) (sf_in B39073 (by decide) (by decide)) rfl (fun z41688 ez41689 => ?_)
                        refine pm_R_lo pm_M254 (pc' := 123) (pm_q254_1 (Nat.le_of_ble_eq_true rfl)) rfl rfl ?_
                        refine pm_R_lo pm_M254 (pc' := 124) (pm_q254_1 (Nat.le_of_ble_eq_true rfl)) rfl rfl ?_
                        refine pm_R_op pm_M254 (pc' := 125) (st' := [.int 0, .int x2_39067, .ref 41, .int z41688, .int x2_39067, .ref 68]) (pm_q254_1 (Nat.le_of_ble_eq_true rfl)) rfl rfl ?_
                        refine pm_R_cv pm_M254 (pc' := 128) (a := 41) (ra := [.int 0, .int x2_39067]) (rest := [.int z41688, .int x2_39067, .ref 68]) (ls' := [.ref 41, .int x2_39067, .int 0]) (pm_q254_1 (Nat.le_of_ble_eq_true rfl)) rfl (Or.inl rfl) pm_M255 T_41662.2.1 rfl (by decide) (Nat.lt_of_lt_of_le (by decide) T_41662.1) rfl rfl (Nat.le_of_ble_eq_true rfl) rfl rfl ?_
                        refine pm_R_lo pm_M255 (pc' := 1) rfl rfl rfl ?_
                        refine rf_R_get pm_M255 T_41662 (pc' := 4) (v := .ref 49) rfl rfl rfl rfl ?_
                        refine pm_R_op pm_M255 (pc' := 7) (st' := [.int 152, .ref 49]) rfl rfl rfl ?_
                        refine pm_R_lo pm_M255 (pc' := 8) rfl rfl rfl ?_
                        have B41690 : sf_B 0 1 (m_41662 44) := T_41662.2.2.1 44
                        refine rf_R_get pm_M255 T_41662 (pc' := 11) (v := .int (m_41662 44)) rfl rfl rfl rfl ?_
                        refine sf_R_imul pm_M255 (pc' := 12) rfl rfl sf_k152 B41690 (by decide) (by decide) (by decide) (fun z41691 e41692 B41693 => ?_)
                        refine pm_R_op pm_M255 (pc' := 13) (st' := [.int 2, .int z41691, .ref 49]) rfl rfl rfl ?_
                        refine sf_R_iadd pm_M255 (pc' := 14) rfl rfl B41693 sf_k2 (by decide) (by decide) (fun z41694 e41695 B41696 => ?_)
                        refine pm_R_op pm_M255 (pc' := 15) (st' := [.int 3, .int z41694, .ref 49]) rfl rfl rfl ?_
                        refine pm_R_lo pm_M255 (pc' := 16) rfl rfl rfl ?_
                        refine sf_R_imul pm_M255 (pc' := 17) rfl rfl sf_k3 B39073 (by decide) (by decide) (by decide) (fun z41697 e41698 B41699 => ?_)
                        refine sf_R_iadd pm_M255 (pc' := 18) rfl rfl B41696 B41699 (by decide) (by decide) (fun z41700 e41701 B41702 => ?_)
                        refine pm_R_lo pm_M255 (pc' := 19) rfl rfl rfl ?_
                        refine sf_R_iadd pm_M255 (pc' := 20) rfl rfl B41702 sf_k0 (by decide) (by decide) (fun z41703 e41704 B41705 => ?_)
                        obtain ⟨f41706, e41707, b41708⟩ := T_41662.2.2.2.1 49 (by decide) (by decide)
                        refine rf_R_ild pm_M255 T_41662 (pc' := 21) rfl e41707 (by decide) (sf_in B41705 (by decide) (by decide)) rfl (fun z41709 ez41710 => ?_)
                        have e41711 : (z41703).toInt = 152 * ((m_41662 44)).toInt + 3 * (x2_39067).toInt + 2 := by
                          have q0 := e41692
                          have q1 := e41695
                          have q2 := e41698
                          have q3 := e41701
                          have q4 := e41704
                          simp only [(show (0 : Int32).toInt = 0 from rfl), (show (2 : Int32).toInt = 2 from rfl), (show (3 : Int32).toInt = 3 from rfl), (show (152 : Int32).toInt = 152 from rfl)] at q0 q1 q2 q3 q4
                          omega
                        have B41712 : sf_B 0 2 z41709 := ez41710 ▸ rf_p49s b41708 e41711 B41690 B39073 (by decide) (by decide) (by decide)
                        refine pm_R_ret pm_M255 (r := some (.int z41709)) rfl (pm_ret_i _) ?_
                        show pm_R _ 254 128 [.ref 41, .int a0, .int x2_39067, .int z39094, .int x4_41662, .int z41683] [.int z41709, .int z41688, .int x2_39067, .ref 68] _ _
                        refine pm_R_op pm_M254 (pc' := 129) (st' := [.int 2, .int z41709, .int z41688, .int x2_39067, .ref 68]) (pm_q254_1 (Nat.le_of_ble_eq_true rfl)) rfl rfl ?_
                        refine pm_R_icmp pm_M254 (t := 145) (pc' := 132) (pm_q254_1 (Nat.le_of_ble_eq_true rfl)) rfl rfl (fun c41713 => ?_) (fun c41713 => ?_)
                        · have B41714 : sf_B 0 1 z41709 := sf_neH0 c41713 sf_k2 B41712
                          refine pm_R_op pm_M254 (pc' := 146) (st' := [.int 0, .int z41688, .int x2_39067, .ref 68]) (pm_q254_1 (Nat.le_of_ble_eq_true rfl)) rfl rfl ?_
                          refine sf_R_iany pm_M254 (pc' := 147) (st := [.int x2_39067, .ref 68]) (pm_q254_1 (Nat.le_of_ble_eq_true rfl)) rfl rfl (fun z41718 => ?_)
                          refine rf_R_ist pm_M254 T_41662 (pc' := 148) (pm_q254_1 (Nat.le_of_ble_eq_true rfl)) e41686 (by decide) (by decide) (sf_in B39073 (by decide) (by decide)) ⟨_, rfl⟩ rfl (fun h41719 T41720 F41721 => ?_)
                          have F41722 := F_41662.trans F41721
                          refine pm_R_lo pm_M254 (pc' := 149) (pm_q254_1 (Nat.le_of_ble_eq_true rfl)) rfl rfl ?_
                          refine rf_R_get pm_M254 T41720 (pc' := 152) (v := .ref 67) (pm_q254_1 (Nat.le_of_ble_eq_true rfl)) rfl rfl rfl ?_
                          refine pm_R_op pm_M254 (pc' := 154) (st' := [.int 6, .ref 67]) (pm_q254_1 (Nat.le_of_ble_eq_true rfl)) rfl rfl ?_
                          refine pm_R_lo pm_M254 (pc' := 155) (pm_q254_1 (Nat.le_of_ble_eq_true rfl)) rfl rfl ?_
                          refine pm_R_op pm_M254 (pc' := 156) (st' := [.int 1, .int x2_39067, .int 6, .ref 67]) (pm_q254_1 (Nat.le_of_ble_eq_true rfl)) rfl rfl ?_
                          refine sf_R_iadd pm_M254 (pc' := 157) (pm_q254_1 (Nat.le_of_ble_eq_true rfl)) rfl B39073 sf_k1 (by decide) (by decide) (fun z41723 e41724 B41725 => ?_)
                          refine sf_R_imul pm_M254 (pc' := 158) (pm_q254_1 (Nat.le_of_ble_eq_true rfl)) rfl sf_k6 B41725 (by decide) (by decide) (by decide) (fun z41726 e41727 B41728 => ?_)
                          refine pm_R_lo pm_M254 (pc' := 160) (pm_q254_1 (Nat.le_of_ble_eq_true rfl)) rfl rfl ?_
                          refine sf_R_iadd pm_M254 (pc' := 161) (pm_q254_1 (Nat.le_of_ble_eq_true rfl)) rfl B41728 B41673 (by decide) (by decide) (fun z41729 e41730 B41731 => ?_)
                          refine pm_R_lo pm_M254 (pc' := 163) (pm_q254_1 (Nat.le_of_ble_eq_true rfl)) rfl rfl ?_
                          refine pm_R_lo pm_M254 (pc' := 164) (pm_q254_1 (Nat.le_of_ble_eq_true rfl)) rfl rfl ?_
                          refine pm_R_icmp pm_M254 (t := 177) (pc' := 167) (pm_q254_1 (Nat.le_of_ble_eq_true rfl)) rfl rfl (fun c41732 => ?_) (fun c41732 => ?_)
                          · skip
                            refine pm_R_lo pm_M254 (pc' := 179) (pm_q254_1 (Nat.le_of_ble_eq_true rfl)) rfl rfl ?_
                            refine pm_R_br pm_M254 (pc' := 201) (pm_q254_1 (Nat.le_of_ble_eq_true rfl)) rfl ?_
                            obtain ⟨f41733, e41734⟩ := T41720.2.2.2.1 67 (by decide) (by decide)
                            refine rf_R_ist pm_M254 T41720 (pc' := 202) (pm_q254_2 (Nat.le_of_ble_eq_true rfl)) e41734 (by decide) (by decide) (sf_in B41731 (by decide) (by decide)) ⟨_, rfl⟩ rfl (fun h41736 T41737 F41738 => ?_)
                            have F41739 := F41722.trans F41738
                            refine sf_R_iinc pm_M254 (pc' := 205) (ls' := fun z => [.ref 41, .int a0, .int x2_39067, .int z39094, .int z, .int z41683]) (pm_q254_2 (Nat.le_of_ble_eq_true rfl)) B41673 rfl (by decide) (by decide) (by decide) (fun _ => rfl) rfl (fun z41740 e41741 B41742 => ?_)
                            show pm_R _ 254 205 [.ref 41, .int a0, .int x2_39067, .int z39094, .int z41740, .int z41683] [] _ _
                            refine pm_R_br pm_M254 (pc' := 94) (pm_q254_2 (Nat.le_of_ble_eq_true rfl)) rfl ?_
                            exact ih_41662 _ (sf_up hN_41662 e41741 B41673 (by decide) (by decide)) h41736 m_41662 w_41662 z41740 (.int z41683) T41737 F41739 W_41662 (sf_weak B41742 (by decide) (by decide)) rfl rfl
                          · refine pm_R_lo pm_M254 (pc' := 168) (pm_q254_1 (Nat.le_of_ble_eq_true rfl)) rfl rfl ?_
                            refine pm_R_lo pm_M254 (pc' := 169) (pm_q254_1 (Nat.le_of_ble_eq_true rfl)) rfl rfl ?_
                            refine pm_R_op pm_M254 (pc' := 170) (st' := [.int 0, .int x2_39067, .ref 41, .int z41729, .ref 67]) (pm_q254_1 (Nat.le_of_ble_eq_true rfl)) rfl rfl ?_
                            refine pm_R_cv pm_M254 (pc' := 173) (a := 41) (ra := [.int 0, .int x2_39067]) (rest := [.int z41729, .ref 67]) (ls' := [.ref 41, .int x2_39067, .int 0]) (pm_q254_1 (Nat.le_of_ble_eq_true rfl)) rfl (Or.inl rfl) pm_M255 T41720.2.1 rfl (by decide) (Nat.lt_of_lt_of_le (by decide) T41720.1) rfl rfl (Nat.le_of_ble_eq_true rfl) rfl rfl ?_
                            refine pm_R_lo pm_M255 (pc' := 1) rfl rfl rfl ?_
                            refine rf_R_get pm_M255 T41720 (pc' := 4) (v := .ref 49) rfl rfl rfl rfl ?_
                            refine pm_R_op pm_M255 (pc' := 7) (st' := [.int 152, .ref 49]) rfl rfl rfl ?_
                            refine pm_R_lo pm_M255 (pc' := 8) rfl rfl rfl ?_
                            refine rf_R_get pm_M255 T41720 (pc' := 11) (v := .int (m_41662 44)) rfl rfl rfl rfl ?_
                            refine sf_R_imul pm_M255 (pc' := 12) rfl rfl sf_k152 B41690 (by decide) (by decide) (by decide) (fun z41743 e41744 B41745 => ?_)
                            refine pm_R_op pm_M255 (pc' := 13) (st' := [.int 2, .int z41743, .ref 49]) rfl rfl rfl ?_
                            refine sf_R_iadd pm_M255 (pc' := 14) rfl rfl B41745 sf_k2 (by decide) (by decide) (fun z41746 e41747 B41748 => ?_)
                            refine pm_R_op pm_M255 (pc' := 15) (st' := [.int 3, .int z41746, .ref 49]) rfl rfl rfl ?_
                            refine pm_R_lo pm_M255 (pc' := 16) rfl rfl rfl ?_
                            refine sf_R_imul pm_M255 (pc' := 17) rfl rfl sf_k3 B39073 (by decide) (by decide) (by decide) (fun z41749 e41750 B41751 => ?_)
                            refine sf_R_iadd pm_M255 (pc' := 18) rfl rfl B41748 B41751 (by decide) (by decide) (fun z41752 e41753 B41754 => ?_)
                            refine pm_R_lo pm_M255 (pc' := 19) rfl rfl rfl ?_
                            refine sf_R_iadd pm_M255 (pc' := 20) rfl rfl B41754 sf_k0 (by decide) (by decide) (fun z41755 e41756 B41757 => ?_)
                            obtain ⟨f41758, e41759, b41760⟩ := T41720.2.2.2.1 49 (by decide) (by decide)
                            refine rf_R_ild pm_M255 T41720 (pc' := 21) rfl e41759 (by decide) (sf_in B41757 (by decide) (by decide)) rfl (fun z41761 ez41762 => ?_)
                            have e41763 : (z41755).toInt = 152 * ((m_41662 44)).toInt + 3 * (x2_39067).toInt + 2 := by
                              have q0 := e41744
                              have q1 := e41747
                              have q2 := e41750
                              have q3 := e41753
                              have q4 := e41756
                              simp only [(show (0 : Int32).toInt = 0 from rfl), (show (2 : Int32).toInt = 2 from rfl), (show (3 : Int32).toInt = 3 from rfl), (show (152 : Int32).toInt = 152 from rfl)] at q0 q1 q2 q3 q4
                              omega
                            have B41764 : sf_B 0 2 z41761 := ez41762 ▸ rf_p49s b41760 e41763 B41690 B39073 (by decide) (by decide) (by decide)
                            refine pm_R_ret pm_M255 (r := some (.int z41761)) rfl (pm_ret_i _) ?_
                            show pm_R _ 254 173 [.ref 41, .int a0, .int x2_39067, .int z39094, .int x4_41662, .int z41683] [.int z41761, .int z41729, .ref 67] _ _
                            refine pm_R_op pm_M254 (pc' := 174) (st' := [.int 2, .int z41761, .int z41729, .ref 67]) (pm_q254_1 (Nat.le_of_ble_eq_true rfl)) rfl rfl ?_
                            refine pm_R_icmp pm_M254 (t := 182) (pc' := 177) (pm_q254_1 (Nat.le_of_ble_eq_true rfl)) rfl rfl (fun c41765 => ?_) (fun c41765 => ?_)
                            · have B41766 : sf_B 0 1 z41761 := sf_neH0 c41765 sf_k2 B41764
                              refine pm_R_lo pm_M254 (pc' := 183) (pm_q254_1 (Nat.le_of_ble_eq_true rfl)) rfl rfl ?_
                              refine pm_R_lo pm_M254 (pc' := 184) (pm_q254_1 (Nat.le_of_ble_eq_true rfl)) rfl rfl ?_
                              refine pm_R_op pm_M254 (pc' := 185) (st' := [.int 0, .int x2_39067, .ref 41, .int z41729, .ref 67]) (pm_q254_1 (Nat.le_of_ble_eq_true rfl)) rfl rfl ?_
                              refine pm_R_cv pm_M254 (pc' := 188) (a := 41) (ra := [.int 0, .int x2_39067]) (rest := [.int z41729, .ref 67]) (ls' := [.ref 41, .int x2_39067, .int 0]) (pm_q254_1 (Nat.le_of_ble_eq_true rfl)) rfl (Or.inl rfl) pm_M255 T41720.2.1 rfl (by decide) (Nat.lt_of_lt_of_le (by decide) T41720.1) rfl rfl (Nat.le_of_ble_eq_true rfl) rfl rfl ?_
                              refine pm_R_lo pm_M255 (pc' := 1) rfl rfl rfl ?_
                              refine rf_R_get pm_M255 T41720 (pc' := 4) (v := .ref 49) rfl rfl rfl rfl ?_
                              refine pm_R_op pm_M255 (pc' := 7) (st' := [.int 152, .ref 49]) rfl rfl rfl ?_
                              refine pm_R_lo pm_M255 (pc' := 8) rfl rfl rfl ?_
                              refine rf_R_get pm_M255 T41720 (pc' := 11) (v := .int (m_41662 44)) rfl rfl rfl rfl ?_
                              refine sf_R_imul pm_M255 (pc' := 12) rfl rfl sf_k152 B41690 (by decide) (by decide) (by decide) (fun z41767 e41768 B41769 => ?_)
                              refine pm_R_op pm_M255 (pc' := 13) (st' := [.int 2, .int z41767, .ref 49]) rfl rfl rfl ?_
                              refine sf_R_iadd pm_M255 (pc' := 14) rfl rfl B41769 sf_k2 (by decide) (by decide) (fun z41770 e41771 B41772 => ?_)
                              refine pm_R_op pm_M255 (pc' := 15) (st' := [.int 3, .int z41770, .ref 49]) rfl rfl rfl ?_
                              refine pm_R_lo pm_M255 (pc' := 16) rfl rfl rfl ?_
                              refine sf_R_imul pm_M255 (pc' := 17) rfl rfl sf_k3 B39073 (by decide) (by decide) (by decide) (fun z41773 e41774 B41775 => ?_)
                              refine sf_R_iadd pm_M255 (pc' := 18) rfl rfl B41772 B41775 (by decide) (by decide) (fun z41776 e41777 B41778 => ?_)
                              refine pm_R_lo pm_M255 (pc' := 19) rfl rfl rfl ?_
                              refine sf_R_iadd pm_M255 (pc' := 20) rfl rfl B41778 sf_k0 (by decide) (by decide) (fun z41779 e41780 B41781 => ?_)
                              refine rf_R_ild pm_M255 T41720 (pc' := 21) rfl e41759 (by decide) (sf_in B41781 (by decide) (by decide)) rfl (fun z41782 ez41783 => ?_)
                              have e41784 : (z41779).toInt = 152 * ((m_41662 44)).toInt + 3 * (x2_39067).toInt + 2 := by
                                have q0 := e41768
                                have q1 := e41771
                                have q2 := e41774
                                have q3 := e41777
                                have q4 := e41780
                                simp only [(show (0 : Int32).toInt = 0 from rfl), (show (2 : Int32).toInt = 2 from rfl), (show (3 : Int32).toInt = 3 from rfl), (show (152 : Int32).toInt = 152 from rfl)] at q0 q1 q2 q3 q4
                                omega
                              have B41785 : sf_B 0 2 z41782 := ez41783 ▸ rf_p49s b41760 e41784 B41690 B39073 (by decide) (by decide) (by decide)
                              refine pm_R_ret pm_M255 (r := some (.int z41782)) rfl (pm_ret_i _) ?_
                              show pm_R _ 254 188 [.ref 41, .int a0, .int x2_39067, .int z39094, .int x4_41662, .int z41683] [.int z41782, .int z41729, .ref 67] _ _
                              refine pm_R_ifc pm_M254 (t := 200) (pc' := 191) (pm_q254_1 (Nat.le_of_ble_eq_true rfl)) rfl rfl (fun c41786 => ?_) (fun c41786 => ?_)
                              · have B41787 : sf_B 1 2 z41782 := sf_neL0 c41786 sf_k0 B41785
                                refine pm_R_op pm_M254 (pc' := 201) (st' := [.int (-1), .int z41729, .ref 67]) (pm_q254_2 (Nat.le_of_ble_eq_true rfl)) rfl rfl ?_
                                obtain ⟨f41788, e41789⟩ := T41720.2.2.2.1 67 (by decide) (by decide)
                                refine rf_R_ist pm_M254 T41720 (pc' := 202) (pm_q254_2 (Nat.le_of_ble_eq_true rfl)) e41789 (by decide) (by decide) (sf_in B41731 (by decide) (by decide)) ⟨_, rfl⟩ rfl (fun h41791 T41792 F41793 => ?_)
                                have F41794 := F41722.trans F41793
                                refine sf_R_iinc pm_M254 (pc' := 205) (ls' := fun z => [.ref 41, .int a0, .int x2_39067, .int z39094, .int z, .int z41683]) (pm_q254_2 (Nat.le_of_ble_eq_true rfl)) B41673 rfl (by decide) (by decide) (by decide) (fun _ => rfl) rfl (fun z41795 e41796 B41797 => ?_)
                                show pm_R _ 254 205 [.ref 41, .int a0, .int x2_39067, .int z39094, .int z41795, .int z41683] [] _ _
                                refine pm_R_br pm_M254 (pc' := 94) (pm_q254_2 (Nat.le_of_ble_eq_true rfl)) rfl ?_
                                exact ih_41662 _ (sf_up hN_41662 e41796 B41673 (by decide) (by decide)) h41791 m_41662 w_41662 z41795 (.int z41683) T41792 F41794 W_41662 (sf_weak B41797 (by decide) (by decide)) rfl rfl
                              · have B41798 : sf_B 0 0 z41782 := sf_eqL (Classical.not_not.mp c41786) sf_k0
                                refine pm_R_lo pm_M254 (pc' := 192) (pm_q254_1 (Nat.le_of_ble_eq_true rfl)) rfl rfl ?_
                                refine pm_R_lo pm_M254 (pc' := 193) (pm_q254_1 (Nat.le_of_ble_eq_true rfl)) rfl rfl ?_
                                refine pm_R_op pm_M254 (pc' := 194) (st' := [.int 2, .int x2_39067, .ref 41, .int z41729, .ref 67]) (pm_q254_1 (Nat.le_of_ble_eq_true rfl)) rfl rfl ?_
                                refine pm_R_cv pm_M254 (pc' := 197) (a := 41) (ra := [.int 2, .int x2_39067]) (rest := [.int z41729, .ref 67]) (ls' := [.ref 41, .int x2_39067, .int 2]) (pm_q254_1 (Nat.le_of_ble_eq_true rfl)) rfl (Or.inl rfl) pm_M255 T41720.2.1 rfl (by decide) (Nat.lt_of_lt_of_le (by decide) T41720.1) rfl rfl (Nat.le_of_ble_eq_true rfl) rfl rfl ?_
                                refine pm_R_lo pm_M255 (pc' := 1) rfl rfl rfl ?_
                                refine rf_R_get pm_M255 T41720 (pc' := 4) (v := .ref 49) rfl rfl rfl rfl ?_
                                refine pm_R_op pm_M255 (pc' := 7) (st' := [.int 152, .ref 49]) rfl rfl rfl ?_
                                refine pm_R_lo pm_M255 (pc' := 8) rfl rfl rfl ?_
                                refine rf_R_get pm_M255 T41720 (pc' := 11) (v := .int (m_41662 44)) rfl rfl rfl rfl ?_
                                refine sf_R_imul pm_M255 (pc' := 12) rfl rfl sf_k152 B41690 (by decide) (by decide) (by decide) (fun z41799 e41800 B41801 => ?_)
                                refine pm_R_op pm_M255 (pc' := 13) (st' := [.int 2, .int z41799, .ref 49]) rfl rfl rfl ?_
                                refine sf_R_iadd pm_M255 (pc' := 14) rfl rfl B41801 sf_k2 (by decide) (by decide) (fun z41802 e41803 B41804 => ?_)
                                refine pm_R_op pm_M255 (pc' := 15) (st' := [.int 3, .int z41802, .ref 49]) rfl rfl rfl ?_
                                refine pm_R_lo pm_M255 (pc' := 16) rfl rfl rfl ?_
                                refine sf_R_imul pm_M255 (pc' := 17) rfl rfl sf_k3 B39073 (by decide) (by decide) (by decide) (fun z41805 e41806 B41807 => ?_)
                                refine sf_R_iadd pm_M255 (pc' := 18) rfl rfl B41804 B41807 (by decide) (by decide) (fun z41808 e41809 B41810 => ?_)
                                refine pm_R_lo pm_M255 (pc' := 19) rfl rfl rfl ?_
                                refine sf_R_iadd pm_M255 (pc' := 20) rfl rfl B41810 sf_k2 (by decide) (by decide) (fun z41811 e41812 B41813 => ?_)
                                refine rf_R_ild pm_M255 T41720 (pc' := 21) rfl e41759 (by decide) (sf_in B41813 (by decide) (by decide)) rfl (fun z41814 ez41815 => ?_)
                                have e41816 : (z41811).toInt = 152 * ((m_41662 44)).toInt + 3 * (x2_39067).toInt + 4 := by
                                  have q0 := e41800
                                  have q1 := e41803
                                  have q2 := e41806
                                  have q3 := e41809
                                  have q4 := e41812
                                  simp only [(show (2 : Int32).toInt = 2 from rfl), (show (3 : Int32).toInt = 3 from rfl), (show (152 : Int32).toInt = 152 from rfl)] at q0 q1 q2 q3 q4
                                  omega
                                have B41817 : sf_B (-1) 9 z41814 := ez41815 ▸ rf_p49o b41760 e41816 B41690 B39073 (by decide) (by decide) (by decide)
                                refine pm_R_ret pm_M255 (r := some (.int z41814)) rfl (pm_ret_i _) ?_
                                show pm_R _ 254 197 [.ref 41, .int a0, .int x2_39067, .int z39094, .int x4_41662, .int z41683] [.int z41814, .int z41729, .ref 67] _ _
                                refine pm_R_br pm_M254 (pc' := 201) (pm_q254_2 (Nat.le_of_ble_eq_true rfl)) rfl ?_
                                obtain ⟨f41818, e41819⟩ := T41720.2.2.2.1 67 (by decide) (by decide)
                                refine rf_R_ist pm_M254 T41720 (pc' := 202) (pm_q254_2 (Nat.le_of_ble_eq_true rfl)) e41819 (by decide) (by decide) (sf_in B41731 (by decide) (by decide)) ⟨_, rfl⟩ rfl (fun h41821 T41822 F41823 => ?_)
                                have F41824 := F41722.trans F41823
                                refine sf_R_iinc pm_M254 (pc' := 205) (ls' := fun z => [.ref 41, .int a0, .int x2_39067, .int z39094, .int z, .int z41683]) (pm_q254_2 (Nat.le_of_ble_eq_true rfl)) B41673 rfl (by decide) (by decide) (by decide) (fun _ => rfl) rfl (fun z41825 e41826 B41827 => ?_)
                                show pm_R _ 254 205 [.ref 41, .int a0, .int x2_39067, .int z39094, .int z41825, .int z41683] [] _ _
                                refine pm_R_br pm_M254 (pc' := 94) (pm_q254_2 (Nat.le_of_ble_eq_true rfl)) rfl ?_
                                exact ih_41662 _ (sf_up hN_41662 e41826 B41673 (by decide) (by decide)) h41821 m_41662 w_41662 z41825 (.int z41683) T41822 F41824 W_41662 (sf_weak B41827 (by decide) (by decide)) rfl rfl
                            · have B41828 : sf_B 2 2 z41761 := sf_eqL (Classical.not_not.mp c41765) sf_k2
                              refine pm_R_lo pm_M254 (pc' := 179) (pm_q254_1 (Nat.le_of_ble_eq_true rfl)) rfl rfl ?_
                              refine pm_R_br pm_M254 (pc' := 201) (pm_q254_1 (Nat.le_of_ble_eq_true rfl)) rfl ?_
                              obtain ⟨f41829, e41830⟩ := T41720.2.2.2.1 67 (by decide) (by decide)
                              refine rf_R_ist pm_M254 T41720 (pc' := 202) (pm_q254_2 (Nat.le_of_ble_eq_true rfl)) e41830 (by decide) (by decide) (sf_in B41731 (by decide) (by decide)) ⟨_, rfl⟩ rfl (fun h41832 T41833 F41834 => ?_)
                              have F41835 := F41722.trans F41834
                              refine sf_R_iinc pm_M254 (pc' := 205) (ls' := fun z => [.ref 41, .int a0, .int x2_39067, .int z39094, .int z, .int z41683]) (pm_q254_2 (Nat.le_of_ble_eq_true rfl)) B41673 rfl (by decide) (by decide) (by decide) (fun _ => rfl) rfl (fun z41836 e41837 B41838 => ?_)
                              show pm_R _ 254 205 [.ref 41, .int a0, .int x2_39067, .int z39094, .int z41836, .int z41683] [] _ _
                              refine pm_R_br pm_M254 (pc' := 94) (pm_q254_2 (Nat.le_of_ble_eq_true rfl)) rfl ?_
                              exact ih_41662 _ (sf_up hN_41662 e41837 B41673 (by decide) (by decide)) h41832 m_41662 w_41662 z41836 (.int z41683) T41833 F41835 W_41662 (sf_weak B41838 (by decide) (by decide)) rfl rfl
                        · have B41839 : sf_B 2 2 z41709 := sf_eqL (Classical.not_not.mp c41713) sf_k2
                          refine pm_R_lo pm_M254 (pc' := 134) (pm_q254_1 (Nat.le_of_ble_eq_true rfl)) rfl rfl ?_
                          refine pm_R_lo pm_M254 (pc' := 135) (pm_q254_1 (Nat.le_of_ble_eq_true rfl)) rfl rfl ?_
                          refine pm_R_icmp pm_M254 (t := 145) (pc' := 138) (pm_q254_1 (Nat.le_of_ble_eq_true rfl)) rfl rfl (fun c41840 => ?_) (fun c41840 => ?_)
                          · skip
                            refine pm_R_op pm_M254 (pc' := 146) (st' := [.int 0, .int z41688, .int x2_39067, .ref 68]) (pm_q254_1 (Nat.le_of_ble_eq_true rfl)) rfl rfl ?_
                            refine sf_R_iany pm_M254 (pc' := 147) (st := [.int x2_39067, .ref 68]) (pm_q254_1 (Nat.le_of_ble_eq_true rfl)) rfl rfl (fun z41844 => ?_)
                            refine rf_R_ist pm_M254 T_41662 (pc' := 148) (pm_q254_1 (Nat.le_of_ble_eq_true rfl)) e41686 (by decide) (by decide) (sf_in B39073 (by decide) (by decide)) ⟨_, rfl⟩ rfl (fun h41845 T41846 F41847 => ?_)
                            have F41848 := F_41662.trans F41847
                            refine pm_R_lo pm_M254 (pc' := 149) (pm_q254_1 (Nat.le_of_ble_eq_true rfl)) rfl rfl ?_
                            refine rf_R_get pm_M254 T41846 (pc' := 152) (v := .ref 67) (pm_q254_1 (Nat.le_of_ble_eq_true rfl)) rfl rfl rfl ?_
                            refine pm_R_op pm_M254 (pc' := 154) (st' := [.int 6, .ref 67]) (pm_q254_1 (Nat.le_of_ble_eq_true rfl)) rfl rfl ?_
                            refine pm_R_lo pm_M254 (pc' := 155) (pm_q254_1 (Nat.le_of_ble_eq_true rfl)) rfl rfl ?_
                            refine pm_R_op pm_M254 (pc' := 156) (st' := [.int 1, .int x2_39067, .int 6, .ref 67]) (pm_q254_1 (Nat.le_of_ble_eq_true rfl)) rfl rfl ?_
                            refine sf_R_iadd pm_M254 (pc' := 157) (pm_q254_1 (Nat.le_of_ble_eq_true rfl)) rfl B39073 sf_k1 (by decide) (by decide) (fun z41849 e41850 B41851 => ?_)
                            refine sf_R_imul pm_M254 (pc' := 158) (pm_q254_1 (Nat.le_of_ble_eq_true rfl)) rfl sf_k6 B41851 (by decide) (by decide) (by decide) (fun z41852 e41853 B41854 => ?_)
                            refine pm_R_lo pm_M254 (pc' := 160) (pm_q254_1 (Nat.le_of_ble_eq_true rfl)) rfl rfl ?_
                            refine sf_R_iadd pm_M254 (pc' := 161) (pm_q254_1 (Nat.le_of_ble_eq_true rfl)) rfl B41854 B41673 (by decide) (by decide) (fun z41855 e41856 B41857 => ?_)
                            refine pm_R_lo pm_M254 (pc' := 163) (pm_q254_1 (Nat.le_of_ble_eq_true rfl)) rfl rfl ?_
                            refine pm_R_lo pm_M254 (pc' := 164) (pm_q254_1 (Nat.le_of_ble_eq_true rfl)) rfl rfl ?_
                            refine pm_R_icmp pm_M254 (t := 177) (pc' := 167) (pm_q254_1 (Nat.le_of_ble_eq_true rfl)) rfl rfl (fun c41858 => ?_) (fun c41858 => ?_)
                            · skip
                              refine pm_R_lo pm_M254 (pc' := 179) (pm_q254_1 (Nat.le_of_ble_eq_true rfl)) rfl rfl ?_
                              refine pm_R_br pm_M254 (pc' := 201) (pm_q254_1 (Nat.le_of_ble_eq_true rfl)) rfl ?_
                              obtain ⟨f41859, e41860⟩ := T41846.2.2.2.1 67 (by decide) (by decide)
                              refine rf_R_ist pm_M254 T41846 (pc' := 202) (pm_q254_2 (Nat.le_of_ble_eq_true rfl)) e41860 (by decide) (by decide) (sf_in B41857 (by decide) (by decide)) ⟨_, rfl⟩ rfl (fun h41862 T41863 F41864 => ?_)
                              have F41865 := F41848.trans F41864
                              refine sf_R_iinc pm_M254 (pc' := 205) (ls' := fun z => [.ref 41, .int a0, .int x2_39067, .int z39094, .int z, .int z41683]) (pm_q254_2 (Nat.le_of_ble_eq_true rfl)) B41673 rfl (by decide) (by decide) (by decide) (fun _ => rfl) rfl (fun z41866 e41867 B41868 => ?_)
                              show pm_R _ 254 205 [.ref 41, .int a0, .int x2_39067, .int z39094, .int z41866, .int z41683] [] _ _
                              refine pm_R_br pm_M254 (pc' := 94) (pm_q254_2 (Nat.le_of_ble_eq_true rfl)) rfl ?_
                              exact ih_41662 _ (sf_up hN_41662 e41867 B41673 (by decide) (by decide)) h41862 m_41662 w_41662 z41866 (.int z41683) T41863 F41865 W_41662 (sf_weak B41868 (by decide) (by decide)) rfl rfl
                            · refine pm_R_lo pm_M254 (pc' := 168) (pm_q254_1 (Nat.le_of_ble_eq_true rfl)) rfl rfl ?_
                              refine pm_R_lo pm_M254 (pc' := 169) (pm_q254_1 (Nat.le_of_ble_eq_true rfl)) rfl rfl ?_
                              refine pm_R_op pm_M254 (pc' := 170) (st' := [.int 0, .int x2_39067, .ref 41, .int z41855, .ref 67]) (pm_q254_1 (Nat.le_of_ble_eq_true rfl)) rfl rfl ?_
                              refine pm_R_cv pm_M254 (pc' := 173) (a := 41) (ra := [.int 0, .int x2_39067]) (rest := [.int z41855, .ref 67]) (ls' := [.ref 41, .int x2_39067, .int 0]) (pm_q254_1 (Nat.le_of_ble_eq_true rfl)) rfl (Or.inl rfl) pm_M255 T41846.2.1 rfl (by decide) (Nat.lt_of_lt_of_le (by decide) T41846.1) rfl rfl (Nat.le_of_ble_eq_true rfl) rfl rfl ?_
                              refine pm_R_lo pm_M255 (pc' := 1) rfl rfl rfl ?_
                              refine rf_R_get pm_M255 T41846 (pc' := 4) (v := .ref 49) rfl rfl rfl rfl ?_
                              refine pm_R_op pm_M255 (pc' := 7) (st' := [.int 152, .ref 49]) rfl rfl rfl ?_
                              refine pm_R_lo pm_M255 (pc' := 8) rfl rfl rfl ?_
                              refine rf_R_get pm_M255 T41846 (pc' := 11) (v := .int (m_41662 44)) rfl rfl rfl rfl ?_
                              refine sf_R_imul pm_M255 (pc' := 12) rfl rfl sf_k152 B41690 (by decide) (by decide) (by decide) (fun z41869 e41870 B41871 => ?_)
                              refine pm_R_op pm_M255 (pc' := 13) (st' := [.int 2, .int z41869, .ref 49]) rfl rfl rfl ?_
                              refine sf_R_iadd pm_M255 (pc' := 14) rfl rfl B41871 sf_k2 (by decide) (by decide) (fun z41872 e41873 B41874 => ?_)
                              refine pm_R_op pm_M255 (pc' := 15) (st' := [.int 3, .int z41872, .ref 49]) rfl rfl rfl ?_
                              refine pm_R_lo pm_M255 (pc' := 16) rfl rfl rfl ?_
                              refine sf_R_imul pm_M255 (pc' := 17) rfl rfl sf_k3 B39073 (by decide) (by decide) (by decide) (fun z41875 e41876 B41877 => ?_)
                              refine sf_R_iadd pm_M255 (pc' := 18) rfl rfl B41874 B41877 (by decide) (by decide) (fun z41878 e41879 B41880 => ?_)
                              refine pm_R_lo pm_M255 (pc' := 19) rfl rfl rfl ?_
                              refine sf_R_iadd pm_M255 (pc' := 20) rfl rfl B41880 sf_k0 (by decide) (by decide) (fun z41881 e41882 B41883 => ?_)
                              obtain ⟨f41884, e41885, b41886⟩ := T41846.2.2.2.1 49 (by decide) (by decide)
                              refine rf_R_ild pm_M255 T41846 (pc' := 21) rfl e41885 (by decide) (sf_in B41883 (by decide) (by decide)) rfl (fun z41887 ez41888 => ?_)
                              have e41889 : (z41881).toInt = 152 * ((m_41662 44)).toInt + 3 * (x2_39067).toInt + 2 := by
                                have q0 := e41870
                                have q1 := e41873
                                have q2 := e41876
                                have q3 := e41879
                                have q4 := e41882
                                simp only [(show (0 : Int32).toInt = 0 from rfl), (show (2 : Int32).toInt = 2 from rfl), (show (3 : Int32).toInt = 3 from rfl), (show (152 : Int32).toInt = 152 from rfl)] at q0 q1 q2 q3 q4
                                omega
                              have B41890 : sf_B 0 2 z41887 := ez41888 ▸ rf_p49s b41886 e41889 B41690 B39073 (by decide) (by decide) (by decide)
                              refine pm_R_ret pm_M255 (r := some (.int z41887)) rfl (pm_ret_i _) ?_
                              show pm_R _ 254 173 [.ref 41, .int a0, .int x2_39067, .int z39094, .int x4_41662, .int z41683] [.int z41887, .int z41855, .ref 67] _ _
                              refine pm_R_op pm_M254 (pc' := 174) (st' := [.int 2, .int z41887, .int z41855, .ref 67]) (pm_q254_1 (Nat.le_of_ble_eq_true rfl)) rfl rfl ?_
                              refine pm_R_icmp pm_M254 (t := 182) (pc' := 177) (pm_q254_1 (Nat.le_of_ble_eq_true rfl)) rfl rfl (fun c41891 => ?_) (fun c41891 => ?_)
                              · have B41892 : sf_B 0 1 z41887 := sf_neH0 c41891 sf_k2 B41890
                                refine pm_R_lo pm_M254 (pc' := 183) (pm_q254_1 (Nat.le_of_ble_eq_true rfl)) rfl rfl ?_
                                refine pm_R_lo pm_M254 (pc' := 184) (pm_q254_1 (Nat.le_of_ble_eq_true rfl)) rfl rfl ?_
                                refine pm_R_op pm_M254 (pc' := 185) (st' := [.int 0, .int x2_39067, .ref 41, .int z41855, .ref 67]) (pm_q254_1 (Nat.le_of_ble_eq_true rfl)) rfl rfl ?_
                                refine pm_R_cv pm_M254 (pc' := 188) (a := 41) (ra := [.int 0, .int x2_39067]) (rest := [.int z41855, .ref 67]) (ls' := [.ref 41, .int x2_39067, .int 0]) (pm_q254_1 (Nat.le_of_ble_eq_true rfl)) rfl (Or.inl rfl) pm_M255 T41846.2.1 rfl (by decide) (Nat.lt_of_lt_of_le (by decide) T41846.1) rfl rfl (Nat.le_of_ble_eq_true rfl) rfl rfl ?_
                                refine pm_R_lo pm_M255 (pc' := 1) rfl rfl rfl ?_
                                refine rf_R_get pm_M255 T41846 (pc' := 4) (v := .ref 49) rfl rfl rfl rfl ?_
                                refine pm_R_op pm_M255 (pc' := 7) (st' := [.int 152, .ref 49]) rfl rfl rfl ?_
                                refine pm_R_lo pm_M255 (pc' := 8) rfl rfl rfl ?_
                                refine rf_R_get pm_M255 T41846 (pc' := 11) (v := .int (m_41662 44)) rfl rfl rfl rfl ?_
                                refine sf_R_imul pm_M255 (pc' := 12) rfl rfl sf_k152 B41690 (by decide) (by decide) (by decide) (fun z41893 e41894 B41895 => ?_)
                                refine pm_R_op pm_M255 (pc' := 13) (st' := [.int 2, .int z41893, .ref 49]) rfl rfl rfl ?_
                                refine sf_R_iadd pm_M255 (pc' := 14) rfl rfl B41895 sf_k2 (by decide) (by decide) (fun z41896 e41897 B41898 => ?_)
                                refine pm_R_op pm_M255 (pc' := 15) (st' := [.int 3, .int z41896, .ref 49]) rfl rfl rfl ?_
                                refine pm_R_lo pm_M255 (pc' := 16) rfl rfl rfl ?_
                                refine sf_R_imul pm_M255 (pc' := 17) rfl rfl sf_k3 B39073 (by decide) (by decide) (by decide) (fun z41899 e41900 B41901 => ?_)
                                refine sf_R_iadd pm_M255 (pc' := 18) rfl rfl B41898 B41901 (by decide) (by decide) (fun z41902 e41903 B41904 => ?_)
                                refine pm_R_lo pm_M255 (pc' := 19) rfl rfl rfl ?_
                                refine sf_R_iadd pm_M255 (pc' := 20) rfl rfl B41904 sf_k0 (by decide) (by decide) (fun z41905 e41906 B41907 => ?_)
                                refine rf_R_ild pm_M255 T41846 (pc' := 21) rfl e41885 (by decide) (sf_in B41907 (by decide) (by decide)) rfl (fun z41908 ez41909 => ?_)
                                have e41910 : (z41905).toInt = 152 * ((m_41662 44)).toInt + 3 * (x2_39067).toInt + 2 := by
                                  have q0 := e41894
                                  have q1 := e41897
                                  have q2 := e41900
                                  have q3 := e41903
                                  have q4 := e41906
                                  simp only [(show (0 : Int32).toInt = 0 from rfl), (show (2 : Int32).toInt = 2 from rfl), (show (3 : Int32).toInt = 3 from rfl), (show (152 : Int32).toInt = 152 from rfl)] at q0 q1 q2 q3 q4
                                  omega
                                have B41911 : sf_B 0 2 z41908 := ez41909 ▸ rf_p49s b41886 e41910 B41690 B39073 (by decide) (by decide) (by decide)
                                refine pm_R_ret pm_M255 (r := some (.int z41908)) rfl (pm_ret_i _) ?_
                                show pm_R _ 254 188 [.ref 41, .int a0, .int x2_39067, .int z39094, .int x4_41662, .int z41683] [.int z41908, .int z41855, .ref 67] _ _
                                refine pm_R_ifc pm_M254 (t := 200) (pc' := 191) (pm_q254_1 (Nat.le_of_ble_eq_true rfl)) rfl rfl (fun c41912 => ?_) (fun c41912 => ?_)
                                · have B41913 : sf_B 1 2 z41908 := sf_neL0 c41912 sf_k0 B41911
                                  refine pm_R_op pm_M254 (pc' := 201) (st' := [.int (-1), .int z41855, .ref 67]) (pm_q254_2 (Nat.le_of_ble_eq_true rfl)) rfl rfl ?_
                                  obtain ⟨f41914, e41915⟩ := T41846.2.2.2.1 67 (by decide) (by decide)
                                  refine rf_R_ist pm_M254 T41846 (pc' := 202) (pm_q254_2 (Nat.le_of_ble_eq_true rfl)) e41915 (by decide) (by decide) (sf_in B41857 (by decide) (by decide)) ⟨_, rfl⟩ rfl (fun h41917 T41918 F41919 => ?_)
                                  have F41920 := F41848.trans F41919
                                  refine sf_R_iinc pm_M254 (pc' := 205) (ls' := fun z => [.ref 41, .int a0, .int x2_39067, .int z39094, .int z, .int z41683]) (pm_q254_2 (Nat.le_of_ble_eq_true rfl)) B41673 rfl (by decide) (by decide) (by decide) (fun _ => rfl) rfl (fun z41921 e41922 B41923 => ?_)
                                  show pm_R _ 254 205 [.ref 41, .int a0, .int x2_39067, .int z39094, .int z41921, .int z41683] [] _ _
                                  refine pm_R_br pm_M254 (pc' := 94) (pm_q254_2 (Nat.le_of_ble_eq_true rfl)) rfl ?_
                                  exact ih_41662 _ (sf_up hN_41662 e41922 B41673 (by decide) (by decide)) h41917 m_41662 w_41662 z41921 (.int z41683) T41918 F41920 W_41662 (sf_weak B41923 (by decide) (by decide)) rfl rfl
                                · have B41924 : sf_B 0 0 z41908 := sf_eqL (Classical.not_not.mp c41912) sf_k0
                                  refine pm_R_lo pm_M254 (pc' := 192) (pm_q254_1 (Nat.le_of_ble_eq_true rfl)) rfl rfl ?_
                                  refine pm_R_lo pm_M254 (pc' := 193) (pm_q254_1 (Nat.le_of_ble_eq_true rfl)) rfl rfl ?_
                                  refine pm_R_op pm_M254 (pc' := 194) (st' := [.int 2, .int x2_39067, .ref 41, .int z41855, .ref 67]) (pm_q254_1 (Nat.le_of_ble_eq_true rfl)) rfl rfl ?_
                                  refine pm_R_cv pm_M254 (pc' := 197) (a := 41) (ra := [.int 2, .int x2_39067]) (rest := [.int z41855, .ref 67]) (ls' := [.ref 41, .int x2_39067, .int 2]) (pm_q254_1 (Nat.le_of_ble_eq_true rfl)) rfl (Or.inl rfl) pm_M255 T41846.2.1 rfl (by decide) (Nat.lt_of_lt_of_le (by decide) T41846.1) rfl rfl (Nat.le_of_ble_eq_true rfl) rfl rfl ?_
                                  refine pm_R_lo pm_M255 (pc' := 1) rfl rfl rfl ?_
                                  refine rf_R_get pm_M255 T41846 (pc' := 4) (v := .ref 49) rfl rfl rfl rfl ?_
                                  refine pm_R_op pm_M255 (pc' := 7) (st' := [.int 152, .ref 49]) rfl rfl rfl ?_
                                  refine pm_R_lo pm_M255 (pc' := 8) rfl rfl rfl ?_
                                  refine rf_R_get pm_M255 T41846 (pc' := 11) (v := .int (m_41662 44)) rfl rfl rfl rfl ?_
                                  refine sf_R_imul pm_M255 (pc' := 12) rfl rfl sf_k152 B41690 (by decide) (by decide) (by decide) (fun z41925 e41926 B41927 => ?_)
                                  refine pm_R_op pm_M255 (pc' := 13) (st' := [.int 2, .int z41925, .ref 49]) rfl rfl rfl ?_
                                  refine sf_R_iadd pm_M255 (pc' := 14) rfl rfl B41927 sf_k2 (by decide) (by decide) (fun z41928 e41929 B41930 => ?_)
                                  refine pm_R_op pm_M255 (pc' := 15) (st' := [.int 3, .int z41928, .ref 49]) rfl rfl rfl ?_
                                  refine pm_R_lo pm_M255 (pc' := 16) rfl rfl rfl ?_
                                  refine sf_R_imul pm_M255 (pc' := 17) rfl rfl sf_k3 B39073 (by decide) (by decide) (by decide) (fun z41931 e41932 B41933 => ?_)
                                  refine sf_R_iadd pm_M255 (pc' := 18) rfl rfl B41930 B41933 (by decide) (by decide) (fun z41934 e41935 B41936 => ?_)
                                  refine pm_R_lo pm_M255 (pc' := 19) rfl rfl rfl ?_
                                  refine sf_R_iadd pm_M255 (pc' := 20) rfl rfl B41936 sf_k2 (by decide) (by decide) (fun z41937 e41938 B41939 => ?_)
                                  refine rf_R_ild pm_M255 T41846 (pc' := 21) rfl e41885 (by decide) (sf_in B41939 (by decide) (by decide)) rfl (fun z41940 ez41941 => ?_)
                                  have e41942 : (z41937).toInt = 152 * ((m_41662 44)).toInt + 3 * (x2_39067).toInt + 4 := by
                                    have q0 := e41926
                                    have q1 := e41929
                                    have q2 := e41932
                                    have q3 := e41935
                                    have q4 := e41938
                                    simp only [(show (2 : Int32).toInt = 2 from rfl), (show (3 : Int32).toInt = 3 from rfl), (show (152 : Int32).toInt = 152 from rfl)] at q0 q1 q2 q3 q4
                                    omega
                                  have B41943 : sf_B (-1) 9 z41940 := ez41941 ▸ rf_p49o b41886 e41942 B41690 B39073 (by decide) (by decide) (by decide)
                                  refine pm_R_ret pm_M255 (r := some (.int z41940)) rfl (pm_ret_i _) ?_
                                  show pm_R _ 254 197 [.ref 41, .int a0, .int x2_39067, .int z39094, .int x4_41662, .int z41683] [.int z41940, .int z41855, .ref 67] _ _
                                  refine pm_R_br pm_M254 (pc' := 201) (pm_q254_2 (Nat.le_of_ble_eq_true rfl)) rfl ?_
                                  obtain ⟨f41944, e41945⟩ := T41846.2.2.2.1 67 (by decide) (by decide)
                                  refine rf_R_ist pm_M254 T41846 (pc' := 202) (pm_q254_2 (Nat.le_of_ble_eq_true rfl)) e41945 (by decide) (by decide) (sf_in B41857 (by decide) (by decide)) ⟨_, rfl⟩ rfl (fun h41947 T41948 F41949 => ?_)
                                  have F41950 := F41848.trans F41949
                                  refine sf_R_iinc pm_M254 (pc' := 205) (ls' := fun z => [.ref 41, .int a0, .int x2_39067, .int z39094, .int z, .int z41683]) (pm_q254_2 (Nat.le_of_ble_eq_true rfl)) B41673 rfl (by decide) (by decide) (by decide) (fun _ => rfl) rfl (fun z41951 e41952 B41953 => ?_)
                                  show pm_R _ 254 205 [.ref 41, .int a0, .int x2_39067, .int z39094, .int z41951, .int z41683] [] _ _
                                  refine pm_R_br pm_M254 (pc' := 94) (pm_q254_2 (Nat.le_of_ble_eq_true rfl)) rfl ?_
                                  exact ih_41662 _ (sf_up hN_41662 e41952 B41673 (by decide) (by decide)) h41947 m_41662 w_41662 z41951 (.int z41683) T41948 F41950 W_41662 (sf_weak B41953 (by decide) (by decide)) rfl rfl
                              · have B41954 : sf_B 2 2 z41887 := sf_eqL (Classical.not_not.mp c41891) sf_k2
                                refine pm_R_lo pm_M254 (pc' := 179) (pm_q254_1 (Nat.le_of_ble_eq_true rfl)) rfl rfl ?_
                                refine pm_R_br pm_M254 (pc' := 201) (pm_q254_1 (Nat.le_of_ble_eq_true rfl)) rfl ?_
                                obtain ⟨f41955, e41956⟩ := T41846.2.2.2.1 67 (by decide) (by decide)
                                refine rf_R_ist pm_M254 T41846 (pc' := 202) (pm_q254_2 (Nat.le_of_ble_eq_true rfl)) e41956 (by decide) (by decide) (sf_in B41857 (by decide) (by decide)) ⟨_, rfl⟩ rfl (fun h41958 T41959 F41960 => ?_)
                                have F41961 := F41848.trans F41960
                                refine sf_R_iinc pm_M254 (pc' := 205) (ls' := fun z => [.ref 41, .int a0, .int x2_39067, .int z39094, .int z, .int z41683]) (pm_q254_2 (Nat.le_of_ble_eq_true rfl)) B41673 rfl (by decide) (by decide) (by decide) (fun _ => rfl) rfl (fun z41962 e41963 B41964 => ?_)
                                show pm_R _ 254 205 [.ref 41, .int a0, .int x2_39067, .int z39094, .int z41962, .int z41683] [] _ _
                                refine pm_R_br pm_M254 (pc' := 94) (pm_q254_2 (Nat.le_of_ble_eq_true rfl)) rfl ?_
                                exact ih_41662 _ (sf_up hN_41662 e41963 B41673 (by decide) (by decide)) h41958 m_41662 w_41662 z41962 (.int z41683) T41959 F41961 W_41662 (sf_weak B41964 (by decide) (by decide)) rfl rfl
                          · have B41965 : sf_B 0 5 z41683 := sf_eqL (Classical.not_not.mp c41840) B39097
                            refine pm_R_op pm_M254 (pc' := 139) (st' := [.int 1, .int z41688, .int x2_39067, .ref 68]) (pm_q254_1 (Nat.le_of_ble_eq_true rfl)) rfl rfl ?_
                            refine pm_R_lo pm_M254 (pc' := 141) (pm_q254_1 (Nat.le_of_ble_eq_true rfl)) rfl rfl ?_
                            refine sf_R_iany pm_M254 (pc' := 142) (st := [.int z41688, .int x2_39067, .ref 68]) (pm_q254_1 (Nat.le_of_ble_eq_true rfl)) rfl rfl (fun z41969 => ?_)
                            refine pm_R_br pm_M254 (pc' := 146) (pm_q254_1 (Nat.le_of_ble_eq_true rfl)) rfl ?_
                            refine sf_R_iany pm_M254 (pc' := 147) (st := [.int x2_39067, .ref 68]) (pm_q254_1 (Nat.le_of_ble_eq_true rfl)) rfl rfl (fun z41973 => ?_)
                            refine rf_R_ist pm_M254 T_41662 (pc' := 148) (pm_q254_1 (Nat.le_of_ble_eq_true rfl)) e41686 (by decide) (by decide) (sf_in B39073 (by decide) (by decide)) ⟨_, rfl⟩ rfl (fun h41974 T41975 F41976 => ?_)
                            have F41977 := F_41662.trans F41976
                            refine pm_R_lo pm_M254 (pc' := 149) (pm_q254_1 (Nat.le_of_ble_eq_true rfl)) rfl rfl ?_
                            refine rf_R_get pm_M254 T41975 (pc' := 152) (v := .ref 67) (pm_q254_1 (Nat.le_of_ble_eq_true rfl)) rfl rfl rfl ?_
                            refine pm_R_op pm_M254 (pc' := 154) (st' := [.int 6, .ref 67]) (pm_q254_1 (Nat.le_of_ble_eq_true rfl)) rfl rfl ?_
                            refine pm_R_lo pm_M254 (pc' := 155) (pm_q254_1 (Nat.le_of_ble_eq_true rfl)) rfl rfl ?_
                            refine pm_R_op pm_M254 (pc' := 156) (st' := [.int 1, .int x2_39067, .int 6, .ref 67]) (pm_q254_1 (Nat.le_of_ble_eq_true rfl)) rfl rfl ?_
                            refine sf_R_iadd pm_M254 (pc' := 157) (pm_q254_1 (Nat.le_of_ble_eq_true rfl)) rfl B39073 sf_k1 (by decide) (by decide) (fun z41978 e41979 B41980 => ?_)
                            refine sf_R_imul pm_M254 (pc' := 158) (pm_q254_1 (Nat.le_of_ble_eq_true rfl)) rfl sf_k6 B41980 (by decide) (by decide) (by decide) (fun z41981 e41982 B41983 => ?_)
                            refine pm_R_lo pm_M254 (pc' := 160) (pm_q254_1 (Nat.le_of_ble_eq_true rfl)) rfl rfl ?_
                            refine sf_R_iadd pm_M254 (pc' := 161) (pm_q254_1 (Nat.le_of_ble_eq_true rfl)) rfl B41983 B41673 (by decide) (by decide) (fun z41984 e41985 B41986 => ?_)
                            refine pm_R_lo pm_M254 (pc' := 163) (pm_q254_1 (Nat.le_of_ble_eq_true rfl)) rfl rfl ?_
                            refine pm_R_lo pm_M254 (pc' := 164) (pm_q254_1 (Nat.le_of_ble_eq_true rfl)) rfl rfl ?_
                            refine pm_R_icmp pm_M254 (t := 177) (pc' := 167) (pm_q254_1 (Nat.le_of_ble_eq_true rfl)) rfl rfl (fun c41987 => ?_) (fun c41987 => ?_)
                            · skip
                              refine pm_R_lo pm_M254 (pc' := 179) (pm_q254_1 (Nat.le_of_ble_eq_true rfl)) rfl rfl ?_
                              refine pm_R_br pm_M254 (pc' := 201) (pm_q254_1 (Nat.le_of_ble_eq_true rfl)) rfl ?_
                              obtain ⟨f41988, e41989⟩ := T41975.2.2.2.1 67 (by decide) (by decide)
                              refine rf_R_ist pm_M254 T41975 (pc' := 202) (pm_q254_2 (Nat.le_of_ble_eq_true rfl)) e41989 (by decide) (by decide) (sf_in B41986 (by decide) (by decide)) ⟨_, rfl⟩ rfl (fun h41991 T41992 F41993 => ?_)
                              have F41994 := F41977.trans F41993
                              refine sf_R_iinc pm_M254 (pc' := 205) (ls' := fun z => [.ref 41, .int a0, .int x2_39067, .int z39094, .int z, .int z41683]) (pm_q254_2 (Nat.le_of_ble_eq_true rfl)) B41673 rfl (by decide) (by decide) (by decide) (fun _ => rfl) rfl (fun z41995 e41996 B41997 => ?_)
                              show pm_R _ 254 205 [.ref 41, .int a0, .int x2_39067, .int z39094, .int z41995, .int z41683] [] _ _
                              refine pm_R_br pm_M254 (pc' := 94) (pm_q254_2 (Nat.le_of_ble_eq_true rfl)) rfl ?_
                              exact ih_41662 _ (sf_up hN_41662 e41996 B41673 (by decide) (by decide)) h41991 m_41662 w_41662 z41995 (.int z41683) T41992 F41994 W_41662 (sf_weak B41997 (by decide) (by decide)) rfl rfl
                            · refine pm_R_lo pm_M254 (pc' := 168) (pm_q254_1 (Nat.le_of_ble_eq_true rfl)) rfl rfl ?_
                              refine pm_R_lo pm_M254 (pc' := 169) (pm_q254_1 (Nat.le_of_ble_eq_true rfl)) rfl rfl ?_
                              refine pm_R_op pm_M254 (pc' := 170) (st' := [.int 0, .int x2_39067, .ref 41, .int z41984, .ref 67]) (pm_q254_1 (Nat.le_of_ble_eq_true rfl)) rfl rfl ?_
                              refine pm_R_cv pm_M254 (pc' := 173) (a := 41) (ra := [.int 0, .int x2_39067]) (rest := [.int z41984, .ref 67]) (ls' := [.ref 41, .int x2_39067, .int 0]) (pm_q254_1 (Nat.le_of_ble_eq_true rfl)) rfl (Or.inl rfl) pm_M255 T41975.2.1 rfl (by decide) (Nat.lt_of_lt_of_le (by decide) T41975.1) rfl rfl (Nat.le_of_ble_eq_true rfl) rfl rfl ?_
                              refine pm_R_lo pm_M255 (pc' := 1) rfl rfl rfl ?_
                              refine rf_R_get pm_M255 T41975 (pc' := 4) (v := .ref 49) rfl rfl rfl rfl ?_
                              refine pm_R_op pm_M255 (pc' := 7) (st' := [.int 152, .ref 49]) rfl rfl rfl ?_
                              refine pm_R_lo pm_M255 (pc' := 8) rfl rfl rfl ?_
                              refine rf_R_get pm_M255 T41975 (pc' := 11) (v := .int (m_41662 44)) rfl rfl rfl rfl ?_
                              refine sf_R_imul pm_M255 (pc' := 12) rfl rfl sf_k152 B41690 (by decide) (by decide) (by decide) (fun z41998 e41999 B42000 => ?_)
                              refine pm_R_op pm_M255 (pc' := 13) (st' := [.int 2, .int z41998, .ref 49]) rfl rfl rfl ?_
                              refine sf_R_iadd pm_M255 (pc' := 14) rfl rfl B42000 sf_k2 (by decide) (by decide) (fun z42001 e42002 B42003 => ?_)
                              refine pm_R_op pm_M255 (pc' := 15) (st' := [.int 3, .int z42001, .ref 49]) rfl rfl rfl ?_
                              refine pm_R_lo pm_M255 (pc' := 16) rfl rfl rfl ?_
                              refine sf_R_imul pm_M255 (pc' := 17) rfl rfl sf_k3 B39073 (by decide) (by decide) (by decide) (fun z42004 e42005 B42006 => ?_)
                              refine sf_R_iadd pm_M255 (pc' := 18) rfl rfl B42003 B42006 (by decide) (by decide) (fun z42007 e42008 B42009 => ?_)
                              refine pm_R_lo pm_M255 (pc' := 19) rfl rfl rfl ?_
                              refine sf_R_iadd pm_M255 (pc' := 20) rfl rfl B42009 sf_k0 (by decide) (by decide) (fun z42010 e42011 B42012 => ?_)
                              obtain ⟨f42013, e42014, b42015⟩ := T41975.2.2.2.1 49 (by decide) (by decide)
                              refine rf_R_ild pm_M255 T41975 (pc' := 21) rfl e42014 (by decide) (sf_in B42012 (by decide) (by decide)) rfl (fun z42016 ez42017 => ?_)
                              have e42018 : (z42010).toInt = 152 * ((m_41662 44)).toInt + 3 * (x2_39067).toInt + 2 := by
                                have q0 := e41999
                                have q1 := e42002
                                have q2 := e42005
                                have q3 := e42008
                                have q4 := e42011
                                simp only [(show (0 : Int32).toInt = 0 from rfl), (show (2 : Int32).toInt = 2 from rfl), (show (3 : Int32).toInt = 3 from rfl), (show (152 : Int32).toInt = 152 from rfl)] at q0 q1 q2 q3 q4
                                omega
                              have B42019 : sf_B 0 2 z42016 := ez42017 ▸ rf_p49s b42015 e42018 B41690 B39073 (by decide) (by decide) (by decide)
                              refine pm_R_ret pm_M255 (r := some (.int z42016)) rfl (pm_ret_i _) ?_
                              show pm_R _ 254 173 [.ref 41, .int a0, .int x2_39067, .int z39094, .int x4_41662, .int z41683] [.int z42016, .int z41984, .ref 67] _ _
                              refine pm_R_op pm_M254 (pc' := 174) (st' := [.int 2, .int z42016, .int z41984, .ref 67]) (pm_q254_1 (Nat.le_of_ble_eq_true rfl)) rfl rfl ?_
                              refine pm_R_icmp pm_M254 (t := 182) (pc' := 177) (pm_q254_1 (Nat.le_of_ble_eq_true rfl)) rfl rfl (fun c42020 => ?_) (fun c42020 => ?_)
                              · have B42021 : sf_B 0 1 z42016 := sf_neH0 c42020 sf_k2 B42019
                                refine pm_R_lo pm_M254 (pc' := 183) (pm_q254_1 (Nat.le_of_ble_eq_true rfl)) rfl rfl ?_
                                refine pm_R_lo pm_M254 (pc' := 184) (pm_q254_1 (Nat.le_of_ble_eq_true rfl)) rfl rfl ?_
                                refine pm_R_op pm_M254 (pc' := 185) (st' := [.int 0, .int x2_39067, .ref 41, .int z41984, .ref 67]) (pm_q254_1 (Nat.le_of_ble_eq_true rfl)) rfl rfl ?_
                                refine pm_R_cv pm_M254 (pc' := 188) (a := 41) (ra := [.int 0, .int x2_39067]) (rest := [.int z41984, .ref 67]) (ls' := [.ref 41, .int x2_39067, .int 0]) (pm_q254_1 (Nat.le_of_ble_eq_true rfl)) rfl (Or.inl rfl) pm_M255 T41975.2.1 rfl (by decide) (Nat.lt_of_lt_of_le (by decide) T41975.1) rfl rfl (Nat.le_of_ble_eq_true rfl) rfl rfl ?_
                                refine pm_R_lo pm_M255 (pc' := 1) rfl rfl rfl ?_
                                refine rf_R_get pm_M255 T41975 (pc' := 4) (v := .ref 49) rfl rfl rfl rfl ?_
                                refine pm_R_op pm_M255 (pc' := 7) (st' := [.int 152, .ref 49]) rfl rfl rfl ?_
                                refine pm_R_lo pm_M255 (pc' := 8) rfl rfl rfl ?_
                                refine rf_R_get pm_M255 T41975 (pc' := 11) (v := .int (m_41662 44)) rfl rfl rfl rfl ?_
                                refine sf_R_imul pm_M255 (pc' := 12) rfl rfl sf_k152 B41690 (by decide) (by decide) (by decide) (fun z42022 e42023 B42024 => ?_)
                                refine pm_R_op pm_M255 (pc' := 13) (st' := [.int 2, .int z42022, .ref 49]) rfl rfl rfl ?_
                                refine sf_R_iadd pm_M255 (pc' := 14) rfl rfl B42024 sf_k2 (by decide) (by decide) (fun z42025 e42026 B42027 => ?_)
                                refine pm_R_op pm_M255 (pc' := 15) (st' := [.int 3, .int z42025, .ref 49]) rfl rfl rfl ?_
                                refine pm_R_lo pm_M255 (pc' := 16) rfl rfl rfl ?_
                                refine sf_R_imul pm_M255 (pc' := 17) rfl rfl sf_k3 B39073 (by decide) (by decide) (by decide) (fun z42028 e42029 B42030 => ?_)
                                refine sf_R_iadd pm_M255 (pc' := 18) rfl rfl B42027 B42030 (by decide) (by decide) (fun z42031 e42032 B42033 => ?_)
                                refine pm_R_lo pm_M255 (pc' := 19) rfl rfl rfl ?_
                                refine sf_R_iadd pm_M255 (pc' := 20) rfl rfl B42033 sf_k0 (by decide) (by decide) (fun z42034 e42035 B42036 => ?_)
                                refine rf_R_ild pm_M255 T41975 (pc' := 21) rfl e42014 (by decide) (sf_in B42036 (by decide) (by decide)) rfl (fun z42037 ez42038 => ?_)
                                have e42039 : (z42034).toInt = 152 * ((m_41662 44)).toInt + 3 * (x2_39067).toInt + 2 := by
                                  have q0 := e42023
                                  have q1 := e42026
                                  have q2 := e42029
                                  have q3 := e42032
                                  have q4 := e42035
                                  simp only [(show (0 : Int32).toInt = 0 from rfl), (show (2 : Int32).toInt = 2 from rfl), (show (3 : Int32).toInt = 3 from rfl), (show (152 : Int32).toInt = 152 from rfl)] at q0 q1 q2 q3 q4
                                  omega
                                have B42040 : sf_B 0 2 z42037 := ez42038 ▸ rf_p49s b42015 e42039 B41690 B39073 (by decide) (by decide) (by decide)
                                refine pm_R_ret pm_M255 (r := some (.int z42037)) rfl (pm_ret_i _) ?_
                                show pm_R _ 254 188 [.ref 41, .int a0, .int x2_39067, .int z39094, .int x4_41662, .int z41683] [.int z42037, .int z41984, .ref 67] _ _
                                refine pm_R_ifc pm_M254 (t := 200) (pc' := 191) (pm_q254_1 (Nat.le_of_ble_eq_true rfl)) rfl rfl (fun c42041 => ?_) (fun c42041 => ?_)
                                · have B42042 : sf_B 1 2 z42037 := sf_neL0 c42041 sf_k0 B42040
                                  refine pm_R_op pm_M254 (pc' := 201) (st' := [.int (-1), .int z41984, .ref 67]) (pm_q254_2 (Nat.le_of_ble_eq_true rfl)) rfl rfl ?_
                                  obtain ⟨f42043, e42044⟩ := T41975.2.2.2.1 67 (by decide) (by decide)
                                  refine rf_R_ist pm_M254 T41975 (pc' := 202) (pm_q254_2 (Nat.le_of_ble_eq_true rfl)) e42044 (by decide) (by decide) (sf_in B41986 (by decide) (by decide)) ⟨_, rfl⟩ rfl (fun h42046 T42047 F42048 => ?_)
                                  have F42049 := F41977.trans F42048
                                  refine sf_R_iinc pm_M254 (pc' := 205) (ls' := fun z => [.ref 41, .int a0, .int x2_39067, .int z39094, .int z, .int z41683]) (pm_q254_2 (Nat.le_of_ble_eq_true rfl)) B41673 rfl (by decide) (by decide) (by decide) (fun _ => rfl) rfl (fun z42050 e42051 B42052 => ?_)
                                  show pm_R _ 254 205 [.ref 41, .int a0, .int x2_39067, .int z39094, .int z42050, .int z41683] [] _ _
                                  refine pm_R_br pm_M254 (pc' := 94) (pm_q254_2 (Nat.le_of_ble_eq_true rfl)) rfl ?_
                                  exact ih_41662 _ (sf_up hN_41662 e42051 B41673 (by decide) (by decide)) h42046 m_41662 w_41662 z42050 (.int z41683) T42047 F42049 W_41662 (sf_weak B42052 (by decide) (by decide)) rfl rfl
                                · have B42053 : sf_B 0 0 z42037 := sf_eqL (Classical.not_not.mp c42041) sf_k0
                                  refine pm_R_lo pm_M254 (pc' := 192) (pm_q254_1 (Nat.le_of_ble_eq_true rfl)) rfl rfl ?_
                                  refine pm_R_lo pm_M254 (pc' := 193) (pm_q254_1 (Nat.le_of_ble_eq_true rfl)) rfl rfl ?_
                                  refine pm_R_op pm_M254 (pc' := 194) (st' := [.int 2, .int x2_39067, .ref 41, .int z41984, .ref 67]) (pm_q254_1 (Nat.le_of_ble_eq_true rfl)) rfl rfl ?_
                                  refine pm_R_cv pm_M254 (pc' := 197) (a := 41) (ra := [.int 2, .int x2_39067]) (rest := [.int z41984, .ref 67]) (ls' := [.ref 41, .int x2_39067, .int 2]) (pm_q254_1 (Nat.le_of_ble_eq_true rfl)) rfl (Or.inl rfl) pm_M255 T41975.2.1 rfl (by decide) (Nat.lt_of_lt_of_le (by decide) T41975.1) rfl rfl (Nat.le_of_ble_eq_true rfl) rfl rfl ?_
                                  refine pm_R_lo pm_M255 (pc' := 1) rfl rfl rfl ?_
                                  refine rf_R_get pm_M255 T41975 (pc' := 4) (v := .ref 49) rfl rfl rfl rfl ?_
                                  refine pm_R_op pm_M255 (pc' := 7) (st' := [.int 152, .ref 49]) rfl rfl rfl ?_
                                  refine pm_R_lo pm_M255 (pc' := 8) rfl rfl rfl ?_
                                  refine rf_R_get pm_M255 T41975 (pc' := 11) (v := .int (m_41662 44)) rfl rfl rfl rfl ?_
                                  refine sf_R_imul pm_M255 (pc' := 12) rfl rfl sf_k152 B41690 (by decide) (by decide) (by decide) (fun z42054 e42055 B42056 => ?_)
                                  refine pm_R_op pm_M255 (pc' := 13) (st' := [.int 2, .int z42054, .ref 49]) rfl rfl rfl ?_
                                  refine sf_R_iadd pm_M255 (pc' := 14) rfl rfl B42056 sf_k2 (by decide) (by decide) (fun z42057 e42058 B42059 => ?_)
                                  refine pm_R_op pm_M255 (pc' := 15) (st' := [.int 3, .int z42057, .ref 49]) rfl rfl rfl ?_
                                  refine pm_R_lo pm_M255 (pc' := 16) rfl rfl rfl ?_
                                  refine sf_R_imul pm_M255 (pc' := 17) rfl rfl sf_k3 B39073 (by decide) (by decide) (by decide) (fun z42060 e42061 B42062 => ?_)
                                  refine sf_R_iadd pm_M255 (pc' := 18) rfl rfl B42059 B42062 (by decide) (by decide) (fun z42063 e42064 B42065 => ?_)
                                  refine pm_R_lo pm_M255 (pc' := 19) rfl rfl rfl ?_
                                  refine sf_R_iadd pm_M255 (pc' := 20) rfl rfl B42065 sf_k2 (by decide) (by decide) (fun z42066 e42067 B42068 => ?_)
                                  refine rf_R_ild pm_M255 T41975 (pc' := 21) rfl e42014 (by decide) (sf_in B42068 (by decide) (by decide)) rfl (fun z42069 ez42070 => ?_)
                                  have e42071 : (z42066).toInt = 152 * ((m_41662 44)).toInt + 3 * (x2_39067).toInt + 4 := by
                                    have q0 := e42055
                                    have q1 := e42058
                                    have q2 := e42061
                                    have q3 := e42064
                                    have q4 := e42067
                                    simp only [(show (2 : Int32).toInt = 2 from rfl), (show (3 : Int32).toInt = 3 from rfl), (show (152 : Int32).toInt = 152 from rfl)] at q0 q1 q2 q3 q4
                                    omega
                                  have B42072 : sf_B (-1) 9 z42069 := ez42070 ▸ rf_p49o b42015 e42071 B41690 B39073 (by decide) (by decide) (by decide)
                                  refine pm_R_ret pm_M255 (r := some (.int z42069)) rfl (pm_ret_i _) ?_
                                  show pm_R _ 254 197 [.ref 41, .int a0, .int x2_39067, .int z39094, .int x4_41662, .int z41683] [.int z42069, .int z41984, .ref 67] _ _
                                  refine pm_R_br pm_M254 (pc' := 201) (pm_q254_2 (Nat.le_of_ble_eq_true rfl)) rfl ?_
                                  obtain ⟨f42073, e42074⟩ := T41975.2.2.2.1 67 (by decide) (by decide)
                                  refine rf_R_ist pm_M254 T41975 (pc' := 202) (pm_q254_2 (Nat.le_of_ble_eq_true rfl)) e42074 (by decide) (by decide) (sf_in B41986 (by decide) (by decide)) ⟨_, rfl⟩ rfl (fun h42076 T42077 F42078 => ?_)
                                  have F42079 := F41977.trans F42078
                                  refine sf_R_iinc pm_M254 (pc' := 205) (ls' := fun z => [.ref 41, .int a0, .int x2_39067, .int z39094, .int z, .int z41683]) (pm_q254_2 (Nat.le_of_ble_eq_true rfl)) B41673 rfl (by decide) (by decide) (by decide) (fun _ => rfl) rfl (fun z42080 e42081 B42082 => ?_)
                                  show pm_R _ 254 205 [.ref 41, .int a0, .int x2_39067, .int z39094, .int z42080, .int z41683] [] _ _
                                  refine pm_R_br pm_M254 (pc' := 94) (pm_q254_2 (Nat.le_of_ble_eq_true rfl)) rfl ?_
                                  exact ih_41662 _ (sf_up hN_41662 e42081 B41673 (by decide) (by decide)) h42076 m_41662 w_41662 z42080 (.int z41683) T42077 F42079 W_41662 (sf_weak B42082 (by decide) (by decide)) rfl rfl
                              · have B42083 : sf_B 2 2 z42016 := sf_eqL (Classical.not_not.mp c42020) sf_k2
                                refine pm_R_lo pm_M254 (pc' := 179) (pm_q254_1 (Nat.le_of_ble_eq_true rfl)) rfl rfl ?_
                                refine pm_R_br pm_M254 (pc' := 201) (pm_q254_1 (Nat.le_of_ble_eq_true rfl)) rfl ?_
                                obtain ⟨f42084, e42085⟩ := T41975.2.2.2.1 67 (by decide) (by decide)
                                refine rf_R_ist pm_M254 T41975 (pc' := 202) (pm_q254_2 (Nat.le_of_ble_eq_true rfl)) e42085 (by decide) (by decide) (sf_in B41986 (by decide) (by decide)) ⟨_, rfl⟩ rfl (fun h42087 T42088 F42089 => ?_)
                                have F42090 := F41977.trans F42089
                                refine sf_R_iinc pm_M254 (pc' := 205) (ls' := fun z => [.ref 41, .int a0, .int x2_39067, .int z39094, .int z, .int z41683]) (pm_q254_2 (Nat.le_of_ble_eq_true rfl)) B41673 rfl (by decide) (by decide) (by decide) (fun _ => rfl) rfl (fun z42091 e42092 B42093 => ?_)
                                show pm_R _ 254 205 [.ref 41, .int a0, .int x2_39067, .int z39094, .int z42091, .int z41683] [] _ _
                                refine pm_R_br pm_M254 (pc' := 94) (pm_q254_2 (Nat.le_of_ble_eq_true rfl)) rfl ?_
                                exact ih_41662 _ (sf_up hN_41662 e42092 B41673 (by decide) (by decide)) h42087 m_41662 w_41662 z42091 (.int z41683) T42088 F42090 W_41662 (sf_weak B42093 (by decide) (by decide)) rfl rfl
                  exact L_41662 _ h39101 m_39067 w_39067 0 (g5_39067) T39102 F39104 (rf_W.refl _ _) (sf_weak sf_k0 (by decide) (by decide)) Cg5_39067 rfl
            exact L_39067 _ h_26082 m_26082 w_26082 0 (pm_no) (pm_no) (pm_no) T_26082 F_26082 (rf_W.refl _ _) (sf_weak sf_k0 (by decide) (by decide)) rfl rfl rfl rfl
          · have B42094 : sf_B 0 5 x2_26082 := sf_ltL (Int32.not_le.mp c26085) Bx2_26082 sf_k6
            refine pm_R_lo pm_M254 (pc' := 55) rfl rfl rfl ?_
            refine rf_R_get pm_M254 T_26082 (pc' := 58) (v := .ref 67) rfl rfl rfl rfl ?_
            refine pm_R_lo pm_M254 (pc' := 59) rfl rfl rfl ?_
            refine pm_R_op pm_M254 (pc' := 60) (st' := [.int (-1), .int x2_26082, .ref 67]) rfl rfl rfl ?_
            obtain ⟨f42095, e42096⟩ := T_26082.2.2.2.1 67 (by decide) (by decide)
            refine rf_R_ist pm_M254 T_26082 (pc' := 61) rfl e42096 (by decide) (by decide) (sf_in B42094 (by decide) (by decide)) ⟨_, rfl⟩ rfl (fun h42098 T42099 F42100 => ?_)
            have F42101 := F_26082.trans F42100
            refine sf_R_iinc pm_M254 (pc' := 64) (ls' := fun z => [.ref 41, .int a0, .int z, pm_no, pm_no, pm_no]) rfl B42094 rfl (by decide) (by decide) (by decide) (fun _ => rfl) rfl (fun z42102 e42103 B42104 => ?_)
            show pm_R _ 254 64 [.ref 41, .int a0, .int z42102, pm_no, pm_no, pm_no] [] _ _
            refine pm_R_br pm_M254 (pc' := 48) rfl rfl ?_
            exact ih_26082 _ (sf_up hN_26082 e42103 B42094 (by decide) (by decide)) h42098 m_26082 w_26082 z42102 T42099 F42101 W_26082 (sf_weak B42104 (by decide) (by decide)) rfl
      exact L_26082 _ h55 m58 w 0 T56 F60 (rf_W.refl _ _) (sf_weak sf_k0 (by decide) (by decide)) rfl

set_option maxRecDepth 100000 in
set_option maxHeartbeats 4000000 in
/-- SilentTableModel.looked -/
theorem rf_c267 {d : Nat} {m : Nat → Int32} {w : Int64} {h : pm_H} {Q : Option Value → pm_H → Prop} {a0 : Int32} {a1 : Int32} (T : rf_T m w h) (Ba0 : sf_B 0 5 a0) (K : ∀ (r : Int32), sf_B 0 1 r → Q (some (.int r)) h) : pm_R (d + 0) 267 0 [.ref 41, .int a0, .int a1, pm_no] [] h Q := by
  refine pm_R_op pm_M267 (pc' := 1) (st' := [.int 1]) rfl rfl rfl ?_
  refine pm_R_lo pm_M267 (pc' := 2) (ls' := [.ref 41, .int a0, .int a1, .int 1]) (st' := []) rfl rfl rfl ?_
  have L_121 : ∀ (N : Nat) (x3_121 : Int32), sf_B 1 51 x3_121 → (51 - x3_121.toInt).toNat = N → pm_R (d + 0) 267 2 [.ref 41, .int a0, .int a1, .int x3_121] [] h Q := by
    intro N
    induction N using Nat.strongRecOn with
    | ind N ih_121 =>
      intro x3_121 Bx3_121 hN_121
      refine pm_R_lo pm_M267 (pc' := 3) rfl rfl rfl ?_
      refine pm_R_lo pm_M267 (pc' := 4) rfl rfl rfl ?_
      have B122 : sf_B 0 50 (m 43) := T.2.2.1 43
      refine rf_R_get pm_M267 T (pc' := 7) (v := .int (m 43)) rfl rfl rfl rfl ?_
      refine pm_R_icmp pm_M267 (t := 33) (pc' := 10) rfl rfl rfl (fun c123 => ?_) (fun c123 => ?_)
      · skip
        refine pm_R_op pm_M267 (pc' := 34) (st' := [.int 0]) rfl rfl rfl ?_
        exact pm_R_ret pm_M267 (r := some (.int 0)) rfl rfl (K 0 (sf_weak sf_k0 (by decide) (by decide)))
      · have B124 : sf_B 1 50 x3_121 := sf_leL (Int32.not_lt.mp c123) Bx3_121 B122
        have B125 : sf_B 1 50 (m 43) := sf_leR (Int32.not_lt.mp c123) Bx3_121 B122
        refine pm_R_lo pm_M267 (pc' := 11) rfl rfl rfl ?_
        refine rf_R_get pm_M267 T (pc' := 14) (v := .ref 67) rfl rfl rfl rfl ?_
        refine pm_R_op pm_M267 (pc' := 16) (st' := [.int 6, .ref 67]) rfl rfl rfl ?_
        refine pm_R_lo pm_M267 (pc' := 17) rfl rfl rfl ?_
        refine sf_R_imul pm_M267 (pc' := 18) rfl rfl sf_k6 B124 (by decide) (by decide) (by decide) (fun z126 e127 B128 => ?_)
        refine pm_R_lo pm_M267 (pc' := 19) rfl rfl rfl ?_
        refine sf_R_iadd pm_M267 (pc' := 20) rfl rfl B128 Ba0 (by decide) (by decide) (fun z129 e130 B131 => ?_)
        obtain ⟨f132, e133⟩ := T.2.2.2.1 67 (by decide) (by decide)
        refine rf_R_ild pm_M267 T (pc' := 21) rfl e133 (by decide) (sf_in B131 (by decide) (by decide)) rfl (fun z135 ez136 => ?_)
        refine pm_R_lo pm_M267 (pc' := 22) rfl rfl rfl ?_
        refine pm_R_icmp pm_M267 (t := 27) (pc' := 25) rfl rfl rfl (fun c137 => ?_) (fun c137 => ?_)
        · skip
          refine sf_R_iinc pm_M267 (pc' := 30) (ls' := fun z => [.ref 41, .int a0, .int a1, .int z]) rfl B124 rfl (by decide) (by decide) (by decide) (fun _ => rfl) rfl (fun z138 e139 B140 => ?_)
          show pm_R _ 267 30 [.ref 41, .int a0, .int a1, .int z138] [] _ _
          refine pm_R_br pm_M267 (pc' := 2) rfl rfl ?_
          exact ih_121 _ (sf_up hN_121 e139 B124 (by decide) (by decide)) z138 (sf_weak B140 (by decide) (by decide)) rfl
        · refine pm_R_op pm_M267 (pc' := 26) (st' := [.int 1]) rfl rfl rfl ?_
          exact pm_R_ret pm_M267 (r := some (.int 1)) rfl rfl (K 1 (sf_weak sf_k1 (by decide) (by decide)))
  exact L_121 _ 1 (sf_weak sf_k1 (by decide) (by decide)) rfl

set_option maxRecDepth 100000 in
set_option maxHeartbeats 4000000 in
/-- SilentTableModel.hands -/
theorem rf_c266 {d : Nat} {m : Nat → Int32} {w : Int64} {h : pm_H} {Q : Option Value → pm_H → Prop} {a0 : Int32} {a1 : Int32} {a2 : Int32} (T : rf_T m w h)  (K : ∀ (r : Int32) (m' : Nat → Int32) (w' : Int64) (h' : pm_H), rf_T m' w' h' → rf_F h h' → rf_W [42, 43, 44] m m' → sf_B (-1) 5 r → Q (some (.int r)) h') : pm_R (d + 3) 266 0 [.ref 41, .int a0, .int a1, .int a2, pm_no, pm_no, pm_no, pm_no, pm_no] [] h Q := by
  refine pm_R_lo pm_M266 (pc' := 1) rfl rfl rfl ?_
  refine pm_R_lo pm_M266 (pc' := 2) rfl rfl rfl ?_
  refine pm_R_cv pm_M266 (pc' := 5) (a := 41) (ra := [.int a0]) (rest := []) (ls' := [.ref 41, .int a0, pm_no, pm_no, pm_no, pm_no]) rfl rfl (Or.inl rfl) pm_M254 T.2.1 rfl (by decide) (Nat.lt_of_lt_of_le (by decide) T.1) rfl rfl (Nat.le_of_ble_eq_true rfl) rfl rfl ?_
  refine rf_c254 (d := d + 0) T  (fun r1 m3 w4 h5 T6 F7 W8 B2 => ?_)
  have F9 := (rf_F.refl h).trans F7
  have W10 : rf_W [42, 43, 44] m m3 := (rf_W.refl [42, 43, 44] m).trans W8 (by decide)
  show pm_R _ 266 5 [.ref 41, .int a0, .int a1, .int a2, pm_no, pm_no, pm_no, pm_no, pm_no] [.int r1] _ _
  refine pm_R_ifc pm_M266 (t := 29) (pc' := 8) rfl rfl rfl (fun c11 => ?_) (fun c11 => ?_)
  · have B12 : sf_B 0 0 r1 := sf_eqL c11 sf_k0
    refine pm_R_op pm_M266 (pc' := 30) (st' := [.int (-1)]) rfl rfl rfl ?_
    exact pm_R_ret pm_M266 (r := some (.int (-1))) rfl rfl (K (-1) m3 w4 h5 T6 F9 W10 (sf_weak sf_kn1 (by decide) (by decide)))
  · have B13 : sf_B 1 1 r1 := sf_neL0 c11 sf_k0 B2
    refine pm_R_lo pm_M266 (pc' := 9) rfl rfl rfl ?_
    refine pm_R_lo pm_M266 (pc' := 10) rfl rfl rfl ?_
    refine pm_R_cv pm_M266 (pc' := 13) (a := 41) (ra := [.int a1]) (rest := []) (ls' := [.ref 41, .int a1]) rfl rfl (Or.inl rfl) pm_M259 T6.2.1 rfl (by decide) (Nat.lt_of_lt_of_le (by decide) T6.1) rfl rfl (Nat.le_of_ble_eq_true rfl) rfl rfl ?_
    refine pm_R_lo pm_M259 (pc' := 1) rfl rfl rfl ?_
    refine pm_R_op pm_M259 (pc' := 2) (st' := [.int 0, .int a1]) rfl rfl rfl ?_
    refine pm_R_lo pm_M259 (pc' := 3) rfl rfl rfl ?_
    have B14 : sf_B 0 6 (m3 42) := T6.2.2.1 42
    refine rf_R_get pm_M259 T6 (pc' := 6) (v := .int (m3 42)) rfl rfl rfl rfl ?_
    refine pm_R_op pm_M259 (pc' := 7) (st' := [.int 1, .int (m3 42), .int 0, .int a1]) rfl rfl rfl ?_
    refine sf_R_isub pm_M259 (pc' := 8) rfl rfl B14 sf_k1 (by decide) (by decide) (fun z15 e16 B17 => ?_)
    refine pm_R_cs pm_M259 (pc' := 11) (ra := [.int z15, .int 0, .int a1]) (rest := []) (ls' := [.int a1, .int 0, .int z15]) rfl rfl (Or.inl rfl) pm_M174 rfl rfl (Nat.le_of_ble_eq_true rfl) rfl rfl ?_
    refine pm_R_lo pm_M174 (pc' := 1) rfl rfl rfl ?_
    refine pm_R_lo pm_M174 (pc' := 2) rfl rfl rfl ?_
    refine pm_R_icmp pm_M174 (t := 14) (pc' := 5) rfl rfl rfl (fun c18 => ?_) (fun c18 => ?_)
    · have B19 : sf_B (-2147483648) (-1) a1 := sf_ltL c18 (sf_any a1) sf_k0
      refine pm_R_op pm_M174 (pc' := 15) (st' := [.int 0]) rfl rfl rfl ?_
      refine pm_R_ret pm_M174 (r := some (.int 0)) rfl rfl ?_
      show pm_R _ 259 11 [.ref 41, .int a1] [.int 0] _ _
      refine pm_R_ret pm_M259 (r := some (.int 0)) rfl rfl ?_
      show pm_R _ 266 13 [.ref 41, .int a0, .int a1, .int a2, pm_no, pm_no, pm_no, pm_no, pm_no] [.int 0] _ _
      refine pm_R_br pm_M266 (pc' := 29) (st' := []) rfl rfl ?_
      refine pm_R_op pm_M266 (pc' := 30) (st' := [.int (-1)]) rfl rfl rfl ?_
      exact pm_R_ret pm_M266 (r := some (.int (-1))) rfl rfl (K (-1) m3 w4 h5 T6 F9 W10 (sf_weak sf_kn1 (by decide) (by decide)))
    · have B20 : sf_B 0 2147483647 a1 := sf_leR (Int32.not_lt.mp c18) sf_k0 (sf_any a1)
      refine pm_R_lo pm_M174 (pc' := 6) rfl rfl rfl ?_
      refine pm_R_lo pm_M174 (pc' := 7) rfl rfl rfl ?_
      refine pm_R_icmp pm_M174 (t := 14) (pc' := 10) rfl rfl rfl (fun c21 => ?_) (fun c21 => ?_)
      · skip
        refine pm_R_op pm_M174 (pc' := 15) (st' := [.int 0]) rfl rfl rfl ?_
        refine pm_R_ret pm_M174 (r := some (.int 0)) rfl rfl ?_
        show pm_R _ 259 11 [.ref 41, .int a1] [.int 0] _ _
        refine pm_R_ret pm_M259 (r := some (.int 0)) rfl rfl ?_
        show pm_R _ 266 13 [.ref 41, .int a0, .int a1, .int a2, pm_no, pm_no, pm_no, pm_no, pm_no] [.int 0] _ _
        refine pm_R_br pm_M266 (pc' := 29) (st' := []) rfl rfl ?_
        refine pm_R_op pm_M266 (pc' := 30) (st' := [.int (-1)]) rfl rfl rfl ?_
        exact pm_R_ret pm_M266 (r := some (.int (-1))) rfl rfl (K (-1) m3 w4 h5 T6 F9 W10 (sf_weak sf_kn1 (by decide) (by decide)))
      · have B22 : sf_B 0 5 a1 := sf_leL (Int32.not_lt.mp c21) B20 B17
        have B23 : sf_B 0 5 z15 := sf_leR (Int32.not_lt.mp c21) B20 B17
        refine pm_R_op pm_M174 (pc' := 11) (st' := [.int 1]) rfl rfl rfl ?_
        refine pm_R_br pm_M174 (pc' := 15) rfl rfl ?_
        refine pm_R_ret pm_M174 (r := some (.int 1)) rfl rfl ?_
        show pm_R _ 259 11 [.ref 41, .int a1] [.int 1] _ _
        refine pm_R_ret pm_M259 (r := some (.int 1)) rfl rfl ?_
        show pm_R _ 266 13 [.ref 41, .int a0, .int a1, .int a2, pm_no, pm_no, pm_no, pm_no, pm_no] [.int 1] _ _
        refine pm_R_br pm_M266 (pc' := 16) (st' := []) rfl rfl ?_
        refine pm_R_lo pm_M266 (pc' := 17) rfl rfl rfl ?_
        refine pm_R_lo pm_M266 (pc' := 18) rfl rfl rfl ?_
        refine pm_R_cv pm_M266 (pc' := 21) (a := 41) (ra := [.int a2]) (rest := []) (ls' := [.ref 41, .int a2]) rfl rfl (Or.inl rfl) pm_M259 T6.2.1 rfl (by decide) (Nat.lt_of_lt_of_le (by decide) T6.1) rfl rfl (Nat.le_of_ble_eq_true rfl) rfl rfl ?_
        refine pm_R_lo pm_M259 (pc' := 1) rfl rfl rfl ?_
        refine pm_R_op pm_M259 (pc' := 2) (st' := [.int 0, .int a2]) rfl rfl rfl ?_
        refine pm_R_lo pm_M259 (pc' := 3) rfl rfl rfl ?_
        refine rf_R_get pm_M259 T6 (pc' := 6) (v := .int (m3 42)) rfl rfl rfl rfl ?_
        refine pm_R_op pm_M259 (pc' := 7) (st' := [.int 1, .int (m3 42), .int 0, .int a2]) rfl rfl rfl ?_
        refine sf_R_isub pm_M259 (pc' := 8) rfl rfl B14 sf_k1 (by decide) (by decide) (fun z24 e25 B26 => ?_)
        refine pm_R_cs pm_M259 (pc' := 11) (ra := [.int z24, .int 0, .int a2]) (rest := []) (ls' := [.int a2, .int 0, .int z24]) rfl rfl (Or.inl rfl) pm_M174 rfl rfl (Nat.le_of_ble_eq_true rfl) rfl rfl ?_
        refine pm_R_lo pm_M174 (pc' := 1) rfl rfl rfl ?_
        refine pm_R_lo pm_M174 (pc' := 2) rfl rfl rfl ?_
        refine pm_R_icmp pm_M174 (t := 14) (pc' := 5) rfl rfl rfl (fun c27 => ?_) (fun c27 => ?_)
        · have B28 : sf_B (-2147483648) (-1) a2 := sf_ltL c27 (sf_any a2) sf_k0
          refine pm_R_op pm_M174 (pc' := 15) (st' := [.int 0]) rfl rfl rfl ?_
          refine pm_R_ret pm_M174 (r := some (.int 0)) rfl rfl ?_
          show pm_R _ 259 11 [.ref 41, .int a2] [.int 0] _ _
          refine pm_R_ret pm_M259 (r := some (.int 0)) rfl rfl ?_
          show pm_R _ 266 21 [.ref 41, .int a0, .int a1, .int a2, pm_no, pm_no, pm_no, pm_no, pm_no] [.int 0] _ _
          refine pm_R_br pm_M266 (pc' := 29) (st' := []) rfl rfl ?_
          refine pm_R_op pm_M266 (pc' := 30) (st' := [.int (-1)]) rfl rfl rfl ?_
          exact pm_R_ret pm_M266 (r := some (.int (-1))) rfl rfl (K (-1) m3 w4 h5 T6 F9 W10 (sf_weak sf_kn1 (by decide) (by decide)))
        · have B29 : sf_B 0 2147483647 a2 := sf_leR (Int32.not_lt.mp c27) sf_k0 (sf_any a2)
          refine pm_R_lo pm_M174 (pc' := 6) rfl rfl rfl ?_
          refine pm_R_lo pm_M174 (pc' := 7) rfl rfl rfl ?_
          refine pm_R_icmp pm_M174 (t := 14) (pc' := 10) rfl rfl rfl (fun c30 => ?_) (fun c30 => ?_)
          · skip
            refine pm_R_op pm_M174 (pc' := 15) (st' := [.int 0]) rfl rfl rfl ?_
            refine pm_R_ret pm_M174 (r := some (.int 0)) rfl rfl ?_
            show pm_R _ 259 11 [.ref 41, .int a2] [.int 0] _ _
            refine pm_R_ret pm_M259 (r := some (.int 0)) rfl rfl ?_
            show pm_R _ 266 21 [.ref 41, .int a0, .int a1, .int a2, pm_no, pm_no, pm_no, pm_no, pm_no] [.int 0] _ _
            refine pm_R_br pm_M266 (pc' := 29) (st' := []) rfl rfl ?_
            refine pm_R_op pm_M266 (pc' := 30) (st' := [.int (-1)]) rfl rfl rfl ?_
            exact pm_R_ret pm_M266 (r := some (.int (-1))) rfl rfl (K (-1) m3 w4 h5 T6 F9 W10 (sf_weak sf_kn1 (by decide) (by decide)))
          · have B31 : sf_B 0 5 a2 := sf_leL (Int32.not_lt.mp c30) B29 B26
            have B32 : sf_B 0 5 z24 := sf_leR (Int32.not_lt.mp c30) B29 B26
            refine pm_R_op pm_M174 (pc' := 11) (st' := [.int 1]) rfl rfl rfl ?_
            refine pm_R_br pm_M174 (pc' := 15) rfl rfl ?_
            refine pm_R_ret pm_M174 (r := some (.int 1)) rfl rfl ?_
            show pm_R _ 259 11 [.ref 41, .int a2] [.int 1] _ _
            refine pm_R_ret pm_M259 (r := some (.int 1)) rfl rfl ?_
            show pm_R _ 266 21 [.ref 41, .int a0, .int a1, .int a2, pm_no, pm_no, pm_no, pm_no, pm_no] [.int 1] _ _
            refine pm_R_br pm_M266 (pc' := 24) (st' := []) rfl rfl ?_
            refine pm_R_lo pm_M266 (pc' := 25) rfl rfl rfl ?_
            refine pm_R_lo pm_M266 (pc' := 26) rfl rfl rfl ?_
            refine pm_R_icmp pm_M266 (t := 31) (pc' := 29) rfl rfl rfl (fun c33 => ?_) (fun c33 => ?_)
            · skip
              refine pm_R_op pm_M266 (pc' := 32) (st' := [.int 1]) rfl rfl rfl ?_
              refine pm_R_lo pm_M266 (pc' := 33) rfl rfl rfl ?_
              refine sf_R_iany pm_M266 (pc' := 34) (st := []) rfl rfl rfl (fun z37 => ?_)
              refine pm_R_lo pm_M266 (pc' := 36) (ls' := [.ref 41, .int a0, .int a1, .int a2, .int z37, pm_no, pm_no, pm_no, pm_no]) (st' := []) rfl rfl rfl ?_
              refine pm_R_op pm_M266 (pc' := 37) (st' := [.int 1]) rfl rfl rfl ?_
              refine pm_R_lo pm_M266 (pc' := 39) (ls' := [.ref 41, .int a0, .int a1, .int a2, .int z37, .int 1, pm_no, pm_no, pm_no]) (st' := []) rfl rfl rfl ?_
              have L_8352 : ∀ (N : Nat) (h_8352 : pm_H) (m_8352 : Nat → Int32) (w_8352 : Int64) (x4_8352 : Int32) (x5_8352 : Int32) (g6_8352 : Value) (g7_8352 : Value) (g8_8352 : Value), rf_T m_8352 w_8352 h_8352 → rf_F h h_8352 → rf_W [] m3 m_8352 → sf_B (-2147483648) 2147483647 x4_8352 → sf_B 1 6 x5_8352 → g6_8352.category = 1 → g7_8352.category = 1 → g8_8352.category = 1 → (6 - x5_8352.toInt).toNat = N → pm_R (d + 3) 266 39 [.ref 41, .int a0, .int a1, .int a2, .int x4_8352, .int x5_8352, g6_8352, g7_8352, g8_8352] [] h_8352 Q := by
                intro N
                induction N using Nat.strongRecOn with
                | ind N ih_8352 =>
                  intro h_8352 m_8352 w_8352 x4_8352 x5_8352 g6_8352 g7_8352 g8_8352 T_8352 F_8352 W_8352 Bx4_8352 Bx5_8352 Cg6_8352 Cg7_8352 Cg8_8352 hN_8352
                  have W8354 : rf_W [42, 43, 44] m m_8352 := W10.trans W_8352 (by decide)
                  refine pm_R_lo pm_M266 (pc' := 41) rfl rfl rfl ?_
                  refine pm_R_op pm_M266 (pc' := 43) (st' := [.int 6, .int x5_8352]) rfl rfl rfl ?_
                  refine pm_R_icmp pm_M266 (t := 144) (pc' := 46) rfl rfl rfl (fun c8355 => ?_) (fun c8355 => ?_)
                  · have B8356 : sf_B 6 6 x5_8352 := sf_leR c8355 sf_k6 Bx5_8352
                    refine pm_R_op pm_M266 (pc' := 145) (st' := [.int (-1)]) (pm_q266_1 (Nat.le_of_ble_eq_true rfl)) rfl rfl ?_
                    exact pm_R_ret pm_M266 (r := some (.int (-1))) (pm_q266_1 (Nat.le_of_ble_eq_true rfl)) rfl (K (-1) m_8352 w_8352 h_8352 T_8352 F_8352 W8354 (sf_weak sf_kn1 (by decide) (by decide)))
                  · have B8357 : sf_B 1 5 x5_8352 := sf_ltL (Int32.not_le.mp c8355) Bx5_8352 sf_k6
                    refine pm_R_lo pm_M266 (pc' := 48) rfl rfl rfl ?_
                    refine pm_R_lo pm_M266 (pc' := 50) (ls' := [.ref 41, .int a0, .int a1, .int a2, .int x4_8352, .int x5_8352, .int x4_8352, g7_8352, g8_8352]) (st' := []) rfl rfl rfl ?_
                    refine pm_R_op pm_M266 (pc' := 51) (st' := [.int 0]) rfl rfl rfl ?_
                    refine pm_R_lo pm_M266 (pc' := 53) (ls' := [.ref 41, .int a0, .int a1, .int a2, .int x4_8352, .int x5_8352, .int x4_8352, .int 0, g8_8352]) (st' := []) rfl rfl rfl ?_
                    have L_10018 : ∀ (N : Nat) (h_10018 : pm_H) (m_10018 : Nat → Int32) (w_10018 : Int64) (x6_10018 : Int32) (x7_10018 : Int32) (g8_10018 : Value), rf_T m_10018 w_10018 h_10018 → rf_F h h_10018 → rf_W [] m_8352 m_10018 → sf_B (-2147483648) 2147483647 x6_10018 → sf_B 0 6 x7_10018 → g8_10018.category = 1 → (6 - x7_10018.toInt).toNat = N → pm_R (d + 3) 266 53 [.ref 41, .int a0, .int a1, .int a2, .int x4_8352, .int x5_8352, .int x6_10018, .int x7_10018, g8_10018] [] h_10018 Q := by
                      intro N
                      induction N using Nat.strongRecOn with
                      | ind N ih_10018 =>
                        intro h_10018 m_10018 w_10018 x6_10018 x7_10018 g8_10018 T_10018 F_10018 W_10018 Bx6_10018 Bx7_10018 Cg8_10018 hN_10018
                        have W10020 : rf_W [42, 43, 44] m m_10018 := W8354.trans W_10018 (by decide)
                        have W10021 : rf_W [] m3 m_10018 := W_8352.trans W_10018 (by decide)
                        refine pm_R_lo pm_M266 (pc' := 55) rfl rfl rfl ?_
                        refine pm_R_lo pm_M266 (pc' := 56) rfl rfl rfl ?_
                        have B10022 : sf_B 0 6 (m_10018 42) := T_10018.2.2.1 42
                        refine rf_R_get pm_M266 T_10018 (pc' := 59) (v := .int (m_10018 42)) rfl rfl rfl rfl ?_
                        refine pm_R_icmp pm_M266 (t := 121) (pc' := 62) rfl rfl rfl (fun c10023 => ?_) (fun c10023 => ?_)
                        · skip
                          refine pm_R_lo pm_M266 (pc' := 123) (pm_q266_1 (Nat.le_of_ble_eq_true rfl)) rfl rfl ?_
                          refine pm_R_lo pm_M266 (pc' := 125) (ls' := [.ref 41, .int a0, .int a1, .int a2, .int x6_10018, .int x5_8352, .int x6_10018, .int x7_10018, g8_10018]) (st' := []) (pm_q266_1 (Nat.le_of_ble_eq_true rfl)) rfl rfl ?_
                          refine pm_R_lo pm_M266 (pc' := 127) (pm_q266_1 (Nat.le_of_ble_eq_true rfl)) rfl rfl ?_
                          refine sf_R_lany pm_M266 (pc' := 128) (st := []) (pm_q266_1 (Nat.le_of_ble_eq_true rfl)) rfl rfl (fun z10024 => ?_)
                          refine pm_R_lo pm_M266 (pc' := 129) (pm_q266_1 (Nat.le_of_ble_eq_true rfl)) rfl rfl ?_
                          refine pm_R_cs pm_M266 (pc' := 132) (ra := [.int a2, .long z10024]) (rest := []) (ls' := [.long z10024, pm_no, .int a2]) (pm_q266_1 (Nat.le_of_ble_eq_true rfl)) rfl (Or.inl rfl) pm_M206 rfl rfl (Nat.le_of_ble_eq_true rfl) rfl rfl ?_
                          refine pm_R_lo pm_M206 (pc' := 1) rfl rfl rfl ?_
                          refine pm_R_lo pm_M206 (pc' := 2) rfl rfl rfl ?_
                          refine sf_R_lany pm_M206 (pc' := 3) (st := []) rfl rfl rfl (fun z10025 => ?_)
                          refine pm_R_op pm_M206 (pc' := 4) (st' := [.long 1, .long z10025]) rfl rfl rfl ?_
                          refine sf_R_lany pm_M206 (pc' := 5) (st := []) rfl rfl rfl (fun z10026 => ?_)
                          refine pm_R_op pm_M206 (pc' := 6) (st' := [.long 1, .long z10026]) rfl rfl rfl ?_
                          refine sf_R_lcmp pm_M206 (pc' := 7) rfl rfl (fun z10027 e10028 => ?_)
                          refine pm_R_ifc pm_M206 (t := 14) (pc' := 10) rfl rfl rfl (fun c10029 => ?_) (fun c10029 => ?_)
                          · have k10030 := sf_lneC e10028 c10029
                            refine pm_R_op pm_M206 (pc' := 15) (st' := [.int 0]) rfl rfl rfl ?_
                            refine pm_R_ret pm_M206 (r := some (.int 0)) rfl rfl ?_
                            show pm_R _ 266 132 [.ref 41, .int a0, .int a1, .int a2, .int x6_10018, .int x5_8352, .int x6_10018, .int x7_10018, g8_10018] [.int 0] _ _
                            refine pm_R_br pm_M266 (pc' := 138) (st' := []) (pm_q266_1 (Nat.le_of_ble_eq_true rfl)) rfl ?_
                            refine sf_R_iinc pm_M266 (pc' := 141) (ls' := fun z => [.ref 41, .int a0, .int a1, .int a2, .int x6_10018, .int z, .int x6_10018, .int x7_10018, g8_10018]) (pm_q266_1 (Nat.le_of_ble_eq_true rfl)) B8357 rfl (by decide) (by decide) (by decide) (fun _ => rfl) rfl (fun z10031 e10032 B10033 => ?_)
                            show pm_R _ 266 141 [.ref 41, .int a0, .int a1, .int a2, .int x6_10018, .int z10031, .int x6_10018, .int x7_10018, g8_10018] [] _ _
                            refine pm_R_br pm_M266 (pc' := 39) (pm_q266_1 (Nat.le_of_ble_eq_true rfl)) rfl ?_
                            exact ih_8352 _ (sf_up hN_8352 e10032 B8357 (by decide) (by decide)) h_10018 m_10018 w_10018 x6_10018 z10031 (.int x6_10018) (.int x7_10018) (g8_10018) T_10018 F_10018 W10021 Bx6_10018 (sf_weak B10033 (by decide) (by decide)) rfl rfl Cg8_10018 rfl
                          · have B10034 : sf_B 0 0 z10027 := sf_eqL (Classical.not_not.mp c10029) sf_k0
                            refine pm_R_op pm_M206 (pc' := 11) (st' := [.int 1]) rfl rfl rfl ?_
                            refine pm_R_br pm_M206 (pc' := 15) rfl rfl ?_
                            refine pm_R_ret pm_M206 (r := some (.int 1)) rfl rfl ?_
                            show pm_R _ 266 132 [.ref 41, .int a0, .int a1, .int a2, .int x6_10018, .int x5_8352, .int x6_10018, .int x7_10018, g8_10018] [.int 1] _ _
                            refine pm_R_br pm_M266 (pc' := 135) (st' := []) (pm_q266_1 (Nat.le_of_ble_eq_true rfl)) rfl ?_
                            refine pm_R_lo pm_M266 (pc' := 137) (pm_q266_1 (Nat.le_of_ble_eq_true rfl)) rfl rfl ?_
                            exact pm_R_ret pm_M266 (r := some (.int x5_8352)) (pm_q266_1 (Nat.le_of_ble_eq_true rfl)) (pm_ret_i _) (K x5_8352 m_10018 w_10018 h_10018 T_10018 F_10018 W10020 (sf_weak B8357 (by decide) (by decide)))
                        · have B10035 : sf_B 0 5 x7_10018 := sf_ltL (Int32.not_le.mp c10023) Bx7_10018 B10022
                          have B10036 : sf_B 1 6 (m_10018 42) := sf_ltR (Int32.not_le.mp c10023) Bx7_10018 B10022
                          refine pm_R_op pm_M266 (pc' := 63) (st' := [.int 0]) rfl rfl rfl ?_
                          refine pm_R_lo pm_M266 (pc' := 65) (ls' := [.ref 41, .int a0, .int a1, .int a2, .int x4_8352, .int x5_8352, .int x6_10018, .int x7_10018, .int 0]) (st' := []) rfl rfl rfl ?_
                          have L_10350 : ∀ (N : Nat) (h_10350 : pm_H) (m_10350 : Nat → Int32) (w_10350 : Int64) (x6_10350 : Int32) (x8_10350 : Int32), rf_T m_10350 w_10350 h_10350 → rf_F h h_10350 → rf_W [] m_10018 m_10350 → sf_B (-2147483648) 2147483647 x6_10350 → sf_B 0 6 x8_10350 → (6 - x8_10350.toInt).toNat = N → pm_R (d + 3) 266 65 [.ref 41, .int a0, .int a1, .int a2, .int x4_8352, .int x5_8352, .int x6_10350, .int x7_10018, .int x8_10350] [] h_10350 Q := by
                            intro N
                            induction N using Nat.strongRecOn with
                            | ind N ih_10350 =>
                              intro h_10350 m_10350 w_10350 x6_10350 x8_10350 T_10350 F_10350 W_10350 Bx6_10350 Bx8_10350 hN_10350
                              have B10352 : sf_B 1 6 (m_10350 42) := by rw [W_10350 42 (by decide)]; exact B10036
                              have W10353 : rf_W [42, 43, 44] m m_10350 := W10020.trans W_10350 (by decide)
                              have W10354 : rf_W [] m3 m_10350 := W10021.trans W_10350 (by decide)
                              have W10355 : rf_W [] m_8352 m_10350 := W_10018.trans W_10350 (by decide)
                              refine pm_R_lo pm_M266 (pc' := 67) rfl rfl rfl ?_
                              refine pm_R_lo pm_M266 (pc' := 68) rfl rfl rfl ?_
                              refine rf_R_get pm_M266 T_10350 (pc' := 71) (v := .int (m_10350 42)) rfl rfl rfl rfl ?_
                              refine pm_R_icmp pm_M266 (t := 115) (pc' := 74) rfl rfl rfl (fun c10356 => ?_) (fun c10356 => ?_)
                              · have B10357 : sf_B 1 6 x8_10350 := sf_leR c10356 B10352 Bx8_10350
                                refine sf_R_iinc pm_M266 (pc' := 118) (ls' := fun z => [.ref 41, .int a0, .int a1, .int a2, .int x4_8352, .int x5_8352, .int x6_10350, .int z, .int x8_10350]) (pm_q266_1 (Nat.le_of_ble_eq_true rfl)) B10035 rfl (by decide) (by decide) (by decide) (fun _ => rfl) rfl (fun z10358 e10359 B10360 => ?_)
                                show pm_R _ 266 118 [.ref 41, .int a0, .int a1, .int a2, .int x4_8352, .int x5_8352, .int x6_10350, .int z10358, .int x8_10350] [] _ _
                                refine pm_R_br pm_M266 (pc' := 53) (pm_q266_1 (Nat.le_of_ble_eq_true rfl)) rfl ?_
                                exact ih_10018 _ (sf_up hN_10018 e10359 B10035 (by decide) (by decide)) h_10350 m_10350 w_10350 x6_10350 z10358 (.int x8_10350) T_10350 F_10350 W10355 Bx6_10350 (sf_weak B10360 (by decide) (by decide)) rfl rfl
                              · have B10361 : sf_B 0 5 x8_10350 := sf_ltL (Int32.not_le.mp c10356) Bx8_10350 B10352
                                refine pm_R_lo pm_M266 (pc' := 76) rfl rfl rfl ?_
                                refine pm_R_lo pm_M266 (pc' := 78) rfl rfl rfl ?_
                                refine sf_R_lany pm_M266 (pc' := 79) (st := [.int x6_10350]) rfl rfl rfl (fun z10362 => ?_)
                                refine pm_R_lo pm_M266 (pc' := 81) rfl rfl rfl ?_
                                refine pm_R_cs pm_M266 (pc' := 84) (ra := [.int x8_10350, .long z10362]) (rest := [.int x6_10350]) (ls' := [.long z10362, pm_no, .int x8_10350]) rfl rfl (Or.inl rfl) pm_M206 rfl rfl (Nat.le_of_ble_eq_true rfl) rfl rfl ?_
                                refine pm_R_lo pm_M206 (pc' := 1) rfl rfl rfl ?_
                                refine pm_R_lo pm_M206 (pc' := 2) rfl rfl rfl ?_
                                refine sf_R_lany pm_M206 (pc' := 3) (st := []) rfl rfl rfl (fun z10363 => ?_)
                                refine pm_R_op pm_M206 (pc' := 4) (st' := [.long 1, .long z10363]) rfl rfl rfl ?_
                                refine sf_R_lany pm_M206 (pc' := 5) (st := []) rfl rfl rfl (fun z10364 => ?_)
                                refine pm_R_op pm_M206 (pc' := 6) (st' := [.long 1, .long z10364]) rfl rfl rfl ?_
                                refine sf_R_lcmp pm_M206 (pc' := 7) rfl rfl (fun z10365 e10366 => ?_)
                                refine pm_R_ifc pm_M206 (t := 14) (pc' := 10) rfl rfl rfl (fun c10367 => ?_) (fun c10367 => ?_)
                                · have k10368 := sf_lneC e10366 c10367
                                  refine pm_R_op pm_M206 (pc' := 15) (st' := [.int 0]) rfl rfl rfl ?_
                                  refine pm_R_ret pm_M206 (r := some (.int 0)) rfl rfl ?_
                                  show pm_R _ 266 84 [.ref 41, .int a0, .int a1, .int a2, .int x4_8352, .int x5_8352, .int x6_10350, .int x7_10018, .int x8_10350] [.int 0, .int x6_10350] _ _
                                  refine pm_R_br pm_M266 (pc' := 105) (st' := [.int x6_10350]) rfl rfl ?_
                                  refine pm_R_op pm_M266 (pc' := 106) (st' := [.int 0, .int x6_10350]) rfl rfl rfl ?_
                                  refine sf_R_iany pm_M266 (pc' := 107) (st := []) rfl rfl rfl (fun z10372 => ?_)
                                  refine pm_R_lo pm_M266 (pc' := 109) (ls' := [.ref 41, .int a0, .int a1, .int a2, .int x4_8352, .int x5_8352, .int z10372, .int x7_10018, .int x8_10350]) (st' := []) rfl rfl rfl ?_
                                  refine sf_R_iinc pm_M266 (pc' := 112) (ls' := fun z => [.ref 41, .int a0, .int a1, .int a2, .int x4_8352, .int x5_8352, .int z10372, .int x7_10018, .int z]) rfl B10361 rfl (by decide) (by decide) (by decide) (fun _ => rfl) rfl (fun z10373 e10374 B10375 => ?_)
                                  show pm_R _ 266 112 [.ref 41, .int a0, .int a1, .int a2, .int x4_8352, .int x5_8352, .int z10372, .int x7_10018, .int z10373] [] _ _
                                  refine pm_R_br pm_M266 (pc' := 65) rfl rfl ?_
                                  exact ih_10350 _ (sf_up hN_10350 e10374 B10361 (by decide) (by decide)) h_10350 m_10350 w_10350 z10372 z10373 T_10350 F_10350 W_10350 (sf_any z10372) (sf_weak B10375 (by decide) (by decide)) rfl
                                · have B10376 : sf_B 0 0 z10365 := sf_eqL (Classical.not_not.mp c10367) sf_k0
                                  refine pm_R_op pm_M206 (pc' := 11) (st' := [.int 1]) rfl rfl rfl ?_
                                  refine pm_R_br pm_M206 (pc' := 15) rfl rfl ?_
                                  refine pm_R_ret pm_M206 (r := some (.int 1)) rfl rfl ?_
                                  show pm_R _ 266 84 [.ref 41, .int a0, .int a1, .int a2, .int x4_8352, .int x5_8352, .int x6_10350, .int x7_10018, .int x8_10350] [.int 1, .int x6_10350] _ _
                                  refine pm_R_br pm_M266 (pc' := 87) (st' := [.int x6_10350]) rfl rfl ?_
                                  refine pm_R_lo pm_M266 (pc' := 88) rfl rfl rfl ?_
                                  refine pm_R_lo pm_M266 (pc' := 90) rfl rfl rfl ?_
                                  refine pm_R_lo pm_M266 (pc' := 92) rfl rfl rfl ?_
                                  refine pm_R_cv pm_M266 (pc' := 95) (a := 41) (ra := [.int x8_10350, .int x7_10018]) (rest := [.int x6_10350]) (ls' := [.ref 41, .int x7_10018, .int x8_10350, pm_no]) rfl rfl (Or.inl rfl) pm_M267 T_10350.2.1 rfl (by decide) (Nat.lt_of_lt_of_le (by decide) T_10350.1) rfl rfl (Nat.le_of_ble_eq_true rfl) rfl rfl ?_
                                  refine rf_c267 (d := d + 2) T_10350 B10035 (fun r10377 B10378 => ?_)
                                  show pm_R _ 266 95 [.ref 41, .int a0, .int a1, .int a2, .int x4_8352, .int x5_8352, .int x6_10350, .int x7_10018, .int x8_10350] [.int r10377, .int x6_10350] _ _
                                  refine pm_R_ifc pm_M266 (t := 105) (pc' := 98) rfl rfl rfl (fun c10385 => ?_) (fun c10385 => ?_)
                                  · have B10386 : sf_B 0 0 r10377 := sf_eqL c10385 sf_k0
                                    refine pm_R_op pm_M266 (pc' := 106) (st' := [.int 0, .int x6_10350]) rfl rfl rfl ?_
                                    refine sf_R_iany pm_M266 (pc' := 107) (st := []) rfl rfl rfl (fun z10390 => ?_)
                                    refine pm_R_lo pm_M266 (pc' := 109) (ls' := [.ref 41, .int a0, .int a1, .int a2, .int x4_8352, .int x5_8352, .int z10390, .int x7_10018, .int x8_10350]) (st' := []) rfl rfl rfl ?_
                                    refine sf_R_iinc pm_M266 (pc' := 112) (ls' := fun z => [.ref 41, .int a0, .int a1, .int a2, .int x4_8352, .int x5_8352, .int z10390, .int x7_10018, .int z]) rfl B10361 rfl (by decide) (by decide) (by decide) (fun _ => rfl) rfl (fun z10391 e10392 B10393 => ?_)
                                    show pm_R _ 266 112 [.ref 41, .int a0, .int a1, .int a2, .int x4_8352, .int x5_8352, .int z10390, .int x7_10018, .int z10391] [] _ _
                                    refine pm_R_br pm_M266 (pc' := 65) rfl rfl ?_
                                    exact ih_10350 _ (sf_up hN_10350 e10392 B10361 (by decide) (by decide)) h_10350 m_10350 w_10350 z10390 z10391 T_10350 F_10350 W_10350 (sf_any z10390) (sf_weak B10393 (by decide) (by decide)) rfl
                                  · have B10394 : sf_B 1 1 r10377 := sf_neL0 c10385 sf_k0 B10378
                                    refine pm_R_op pm_M266 (pc' := 99) (st' := [.int 1, .int x6_10350]) rfl rfl rfl ?_
                                    refine pm_R_lo pm_M266 (pc' := 101) rfl rfl rfl ?_
                                    refine sf_R_iany pm_M266 (pc' := 102) (st := [.int x6_10350]) rfl rfl rfl (fun z10398 => ?_)
                                    refine pm_R_br pm_M266 (pc' := 106) rfl rfl ?_
                                    refine sf_R_iany pm_M266 (pc' := 107) (st := []) rfl rfl rfl (fun z10402 => ?_)
                                    refine pm_R_lo pm_M266 (pc' := 109) (ls' := [.ref 41, .int a0, .int a1, .int a2, .int x4_8352, .int x5_8352, .int z10402, .int x7_10018, .int x8_10350]) (st' := []) rfl rfl rfl ?_
                                    refine sf_R_iinc pm_M266 (pc' := 112) (ls' := fun z => [.ref 41, .int a0, .int a1, .int a2, .int x4_8352, .int x5_8352, .int z10402, .int x7_10018, .int z]) rfl B10361 rfl (by decide) (by decide) (by decide) (fun _ => rfl) rfl (fun z10403 e10404 B10405 => ?_)
                                    show pm_R _ 266 112 [.ref 41, .int a0, .int a1, .int a2, .int x4_8352, .int x5_8352, .int z10402, .int x7_10018, .int z10403] [] _ _
                                    refine pm_R_br pm_M266 (pc' := 65) rfl rfl ?_
                                    exact ih_10350 _ (sf_up hN_10350 e10404 B10361 (by decide) (by decide)) h_10350 m_10350 w_10350 z10402 z10403 T_10350 F_10350 W_10350 (sf_any z10402) (sf_weak B10405 (by decide) (by decide)) rfl
                          exact L_10350 _ h_10018 m_10018 w_10018 x6_10018 0 T_10018 F_10018 (rf_W.refl _ _) Bx6_10018 (sf_weak sf_k0 (by decide) (by decide)) rfl
                    exact L_10018 _ h_8352 m_8352 w_8352 x4_8352 0 (g8_8352) T_8352 F_8352 (rf_W.refl _ _) Bx4_8352 (sf_weak sf_k0 (by decide) (by decide)) Cg8_8352 rfl
              exact L_8352 _ h5 m3 w4 z37 1 (pm_no) (pm_no) (pm_no) T6 F9 (rf_W.refl _ _) (sf_any z37) (sf_weak sf_k1 (by decide) (by decide)) rfl rfl rfl rfl
            · refine pm_R_op pm_M266 (pc' := 30) (st' := [.int (-1)]) rfl rfl rfl ?_
              exact pm_R_ret pm_M266 (r := some (.int (-1))) rfl rfl (K (-1) m3 w4 h5 T6 F9 W10 (sf_weak sf_kn1 (by decide) (by decide)))

set_option maxRecDepth 100000 in
set_option maxHeartbeats 4000000 in
/-- SilentTableModel.saidBy -/
theorem rf_c270 {d : Nat} {m : Nat → Int32} {w : Int64} {h : pm_H} {Q : Option Value → pm_H → Prop} {a0 : Int32} (T : rf_T m w h)  (K : ∀ (r : Int32), Q (some (.int r)) h) : pm_R (d + 2) 270 0 [.ref 41, .int a0, pm_no, pm_no] [] h Q := by
  refine pm_R_op pm_M270 (pc' := 1) (st' := [.int 0]) rfl rfl rfl ?_
  refine pm_R_lo pm_M270 (pc' := 2) (ls' := [.ref 41, .int a0, .int 0, pm_no]) (st' := []) rfl rfl rfl ?_
  refine pm_R_op pm_M270 (pc' := 3) (st' := [.int 0]) rfl rfl rfl ?_
  refine pm_R_lo pm_M270 (pc' := 4) (ls' := [.ref 41, .int a0, .int 0, .int 0]) (st' := []) rfl rfl rfl ?_
  have L_359 : ∀ (N : Nat) (x2_359 : Int32) (x3_359 : Int32), sf_B (-2147483648) 2147483647 x2_359 → sf_B 0 50 x3_359 → (50 - x3_359.toInt).toNat = N → pm_R (d + 2) 270 4 [.ref 41, .int a0, .int x2_359, .int x3_359] [] h Q := by
    intro N
    induction N using Nat.strongRecOn with
    | ind N ih_359 =>
      intro x2_359 x3_359 Bx2_359 Bx3_359 hN_359
      refine pm_R_lo pm_M270 (pc' := 5) rfl rfl rfl ?_
      refine pm_R_lo pm_M270 (pc' := 6) rfl rfl rfl ?_
      have B360 : sf_B 0 50 (m 43) := T.2.2.1 43
      refine rf_R_get pm_M270 T (pc' := 9) (v := .int (m 43)) rfl rfl rfl rfl ?_
      refine pm_R_icmp pm_M270 (t := 44) (pc' := 12) rfl rfl rfl (fun c361 => ?_) (fun c361 => ?_)
      · skip
        refine pm_R_lo pm_M270 (pc' := 45) rfl rfl rfl ?_
        exact pm_R_ret pm_M270 (r := some (.int x2_359)) rfl (pm_ret_i _) (K x2_359)
      · have B362 : sf_B 0 49 x3_359 := sf_ltL (Int32.not_le.mp c361) Bx3_359 B360
        have B363 : sf_B 1 50 (m 43) := sf_ltR (Int32.not_le.mp c361) Bx3_359 B360
        refine pm_R_lo pm_M270 (pc' := 13) rfl rfl rfl ?_
        refine pm_R_lo pm_M270 (pc' := 14) rfl rfl rfl ?_
        refine pm_R_lo pm_M270 (pc' := 15) rfl rfl rfl ?_
        refine pm_R_cv pm_M270 (pc' := 18) (a := 41) (ra := [.int x3_359]) (rest := [.int x2_359]) (ls' := [.ref 41, .int x3_359]) rfl rfl (Or.inl rfl) pm_M256 T.2.1 rfl (by decide) (Nat.lt_of_lt_of_le (by decide) T.1) rfl rfl (Nat.le_of_ble_eq_true rfl) rfl rfl ?_
        refine pm_R_lo pm_M256 (pc' := 1) rfl rfl rfl ?_
        refine pm_R_lo pm_M256 (pc' := 2) rfl rfl rfl ?_
        refine pm_R_op pm_M256 (pc' := 3) (st' := [.int 0, .int x3_359, .ref 41]) rfl rfl rfl ?_
        refine pm_R_cv pm_M256 (pc' := 6) (a := 41) (ra := [.int 0, .int x3_359]) (rest := []) (ls' := [.ref 41, .int x3_359, .int 0]) rfl rfl (Or.inl rfl) pm_M255 T.2.1 rfl (by decide) (Nat.lt_of_lt_of_le (by decide) T.1) rfl rfl (Nat.le_of_ble_eq_true rfl) rfl rfl ?_
        refine pm_R_lo pm_M255 (pc' := 1) rfl rfl rfl ?_
        refine rf_R_get pm_M255 T (pc' := 4) (v := .ref 49) rfl rfl rfl rfl ?_
        refine pm_R_op pm_M255 (pc' := 7) (st' := [.int 152, .ref 49]) rfl rfl rfl ?_
        refine pm_R_lo pm_M255 (pc' := 8) rfl rfl rfl ?_
        have B364 : sf_B 0 1 (m 44) := T.2.2.1 44
        refine rf_R_get pm_M255 T (pc' := 11) (v := .int (m 44)) rfl rfl rfl rfl ?_
        refine sf_R_imul pm_M255 (pc' := 12) rfl rfl sf_k152 B364 (by decide) (by decide) (by decide) (fun z365 e366 B367 => ?_)
        refine pm_R_op pm_M255 (pc' := 13) (st' := [.int 2, .int z365, .ref 49]) rfl rfl rfl ?_
        refine sf_R_iadd pm_M255 (pc' := 14) rfl rfl B367 sf_k2 (by decide) (by decide) (fun z368 e369 B370 => ?_)
        refine pm_R_op pm_M255 (pc' := 15) (st' := [.int 3, .int z368, .ref 49]) rfl rfl rfl ?_
        refine pm_R_lo pm_M255 (pc' := 16) rfl rfl rfl ?_
        refine sf_R_imul pm_M255 (pc' := 17) rfl rfl sf_k3 B362 (by decide) (by decide) (by decide) (fun z371 e372 B373 => ?_)
        refine sf_R_iadd pm_M255 (pc' := 18) rfl rfl B370 B373 (by decide) (by decide) (fun z374 e375 B376 => ?_)
        refine pm_R_lo pm_M255 (pc' := 19) rfl rfl rfl ?_
        refine sf_R_iadd pm_M255 (pc' := 20) rfl rfl B376 sf_k0 (by decide) (by decide) (fun z377 e378 B379 => ?_)
        obtain ⟨f380, e381, b382⟩ := T.2.2.2.1 49 (by decide) (by decide)
        refine rf_R_ild pm_M255 T (pc' := 21) rfl e381 (by decide) (sf_in B379 (by decide) (by decide)) rfl (fun z383 ez384 => ?_)
        have e385 : (z377).toInt = 152 * ((m 44)).toInt + 3 * (x3_359).toInt + 2 := by
          have q0 := e366
          have q1 := e369
          have q2 := e372
          have q3 := e375
          have q4 := e378
          simp only [(show (0 : Int32).toInt = 0 from rfl), (show (2 : Int32).toInt = 2 from rfl), (show (3 : Int32).toInt = 3 from rfl), (show (152 : Int32).toInt = 152 from rfl)] at q0 q1 q2 q3 q4
          omega
        have B386 : sf_B 0 2 z383 := ez384 ▸ rf_p49s b382 e385 B364 B362 (by decide) (by decide) (by decide)
        refine pm_R_ret pm_M255 (r := some (.int z383)) rfl (pm_ret_i _) ?_
        show pm_R _ 256 6 [.ref 41, .int x3_359] [.int z383] _ _
        refine pm_R_op pm_M256 (pc' := 7) (st' := [.int 2, .int z383]) rfl rfl rfl ?_
        refine pm_R_icmp pm_M256 (t := 14) (pc' := 10) rfl rfl rfl (fun c387 => ?_) (fun c387 => ?_)
        · have B388 : sf_B 0 1 z383 := sf_neH0 c387 sf_k2 B386
          refine pm_R_op pm_M256 (pc' := 15) (st' := [.int 0]) rfl rfl rfl ?_
          refine pm_R_ret pm_M256 (r := some (.int 0)) rfl rfl ?_
          show pm_R _ 270 18 [.ref 41, .int a0, .int x2_359, .int x3_359] [.int 0, .int x2_359] _ _
          refine pm_R_br pm_M270 (pc' := 35) (st' := [.int x2_359]) rfl rfl ?_
          refine pm_R_op pm_M270 (pc' := 36) (st' := [.int 0, .int x2_359]) rfl rfl rfl ?_
          refine sf_R_iadd pm_M270 (pc' := 37) rfl rfl Bx2_359 sf_k0 (by decide) (by decide) (fun z389 e390 B391 => ?_)
          refine pm_R_lo pm_M270 (pc' := 38) (ls' := [.ref 41, .int a0, .int z389, .int x3_359]) (st' := []) rfl rfl rfl ?_
          refine sf_R_iinc pm_M270 (pc' := 41) (ls' := fun z => [.ref 41, .int a0, .int z389, .int z]) rfl B362 rfl (by decide) (by decide) (by decide) (fun _ => rfl) rfl (fun z392 e393 B394 => ?_)
          show pm_R _ 270 41 [.ref 41, .int a0, .int z389, .int z392] [] _ _
          refine pm_R_br pm_M270 (pc' := 4) rfl rfl ?_
          exact ih_359 _ (sf_up hN_359 e393 B362 (by decide) (by decide)) z389 z392 B391 (sf_weak B394 (by decide) (by decide)) rfl
        · have B395 : sf_B 2 2 z383 := sf_eqL (Classical.not_not.mp c387) sf_k2
          refine pm_R_op pm_M256 (pc' := 11) (st' := [.int 1]) rfl rfl rfl ?_
          refine pm_R_br pm_M256 (pc' := 15) rfl rfl ?_
          refine pm_R_ret pm_M256 (r := some (.int 1)) rfl rfl ?_
          show pm_R _ 270 18 [.ref 41, .int a0, .int x2_359, .int x3_359] [.int 1, .int x2_359] _ _
          refine pm_R_br pm_M270 (pc' := 21) (st' := [.int x2_359]) rfl rfl ?_
          refine pm_R_lo pm_M270 (pc' := 22) rfl rfl rfl ?_
          refine pm_R_lo pm_M270 (pc' := 23) rfl rfl rfl ?_
          refine pm_R_op pm_M270 (pc' := 24) (st' := [.int 1, .int x3_359, .ref 41, .int x2_359]) rfl rfl rfl ?_
          refine pm_R_cv pm_M270 (pc' := 27) (a := 41) (ra := [.int 1, .int x3_359]) (rest := [.int x2_359]) (ls' := [.ref 41, .int x3_359, .int 1]) rfl rfl (Or.inl rfl) pm_M255 T.2.1 rfl (by decide) (Nat.lt_of_lt_of_le (by decide) T.1) rfl rfl (Nat.le_of_ble_eq_true rfl) rfl rfl ?_
          refine pm_R_lo pm_M255 (pc' := 1) rfl rfl rfl ?_
          refine rf_R_get pm_M255 T (pc' := 4) (v := .ref 49) rfl rfl rfl rfl ?_
          refine pm_R_op pm_M255 (pc' := 7) (st' := [.int 152, .ref 49]) rfl rfl rfl ?_
          refine pm_R_lo pm_M255 (pc' := 8) rfl rfl rfl ?_
          refine rf_R_get pm_M255 T (pc' := 11) (v := .int (m 44)) rfl rfl rfl rfl ?_
          refine sf_R_imul pm_M255 (pc' := 12) rfl rfl sf_k152 B364 (by decide) (by decide) (by decide) (fun z396 e397 B398 => ?_)
          refine pm_R_op pm_M255 (pc' := 13) (st' := [.int 2, .int z396, .ref 49]) rfl rfl rfl ?_
          refine sf_R_iadd pm_M255 (pc' := 14) rfl rfl B398 sf_k2 (by decide) (by decide) (fun z399 e400 B401 => ?_)
          refine pm_R_op pm_M255 (pc' := 15) (st' := [.int 3, .int z399, .ref 49]) rfl rfl rfl ?_
          refine pm_R_lo pm_M255 (pc' := 16) rfl rfl rfl ?_
          refine sf_R_imul pm_M255 (pc' := 17) rfl rfl sf_k3 B362 (by decide) (by decide) (by decide) (fun z402 e403 B404 => ?_)
          refine sf_R_iadd pm_M255 (pc' := 18) rfl rfl B401 B404 (by decide) (by decide) (fun z405 e406 B407 => ?_)
          refine pm_R_lo pm_M255 (pc' := 19) rfl rfl rfl ?_
          refine sf_R_iadd pm_M255 (pc' := 20) rfl rfl B407 sf_k1 (by decide) (by decide) (fun z408 e409 B410 => ?_)
          refine rf_R_ild pm_M255 T (pc' := 21) rfl e381 (by decide) (sf_in B410 (by decide) (by decide)) rfl (fun z411 ez412 => ?_)
          have e413 : (z408).toInt = 152 * ((m 44)).toInt + 3 * (x3_359).toInt + 3 := by
            have q0 := e397
            have q1 := e400
            have q2 := e403
            have q3 := e406
            have q4 := e409
            simp only [(show (1 : Int32).toInt = 1 from rfl), (show (2 : Int32).toInt = 2 from rfl), (show (3 : Int32).toInt = 3 from rfl), (show (152 : Int32).toInt = 152 from rfl)] at q0 q1 q2 q3 q4
            omega
          have B414 : sf_B 0 5 z411 := ez412 ▸ rf_p49w b382 e413 B364 B362 (by decide) (by decide) (by decide)
          refine pm_R_ret pm_M255 (r := some (.int z411)) rfl (pm_ret_i _) ?_
          show pm_R _ 270 27 [.ref 41, .int a0, .int x2_359, .int x3_359] [.int z411, .int x2_359] _ _
          refine pm_R_lo pm_M270 (pc' := 28) rfl rfl rfl ?_
          refine pm_R_icmp pm_M270 (t := 35) (pc' := 31) rfl rfl rfl (fun c415 => ?_) (fun c415 => ?_)
          · skip
            refine pm_R_op pm_M270 (pc' := 36) (st' := [.int 0, .int x2_359]) rfl rfl rfl ?_
            refine sf_R_iadd pm_M270 (pc' := 37) rfl rfl Bx2_359 sf_k0 (by decide) (by decide) (fun z416 e417 B418 => ?_)
            refine pm_R_lo pm_M270 (pc' := 38) (ls' := [.ref 41, .int a0, .int z416, .int x3_359]) (st' := []) rfl rfl rfl ?_
            refine sf_R_iinc pm_M270 (pc' := 41) (ls' := fun z => [.ref 41, .int a0, .int z416, .int z]) rfl B362 rfl (by decide) (by decide) (by decide) (fun _ => rfl) rfl (fun z419 e420 B421 => ?_)
            show pm_R _ 270 41 [.ref 41, .int a0, .int z416, .int z419] [] _ _
            refine pm_R_br pm_M270 (pc' := 4) rfl rfl ?_
            exact ih_359 _ (sf_up hN_359 e420 B362 (by decide) (by decide)) z416 z419 B418 (sf_weak B421 (by decide) (by decide)) rfl
          · have B422 : sf_B 0 5 a0 := sf_eqR (Classical.not_not.mp c415) B414
            refine pm_R_op pm_M270 (pc' := 32) (st' := [.int 1, .int x2_359]) rfl rfl rfl ?_
            refine pm_R_br pm_M270 (pc' := 36) rfl rfl ?_
            refine sf_R_iany pm_M270 (pc' := 37) (st := []) rfl rfl rfl (fun z426 => ?_)
            refine pm_R_lo pm_M270 (pc' := 38) (ls' := [.ref 41, .int a0, .int z426, .int x3_359]) (st' := []) rfl rfl rfl ?_
            refine sf_R_iinc pm_M270 (pc' := 41) (ls' := fun z => [.ref 41, .int a0, .int z426, .int z]) rfl B362 rfl (by decide) (by decide) (by decide) (fun _ => rfl) rfl (fun z427 e428 B429 => ?_)
            show pm_R _ 270 41 [.ref 41, .int a0, .int z426, .int z427] [] _ _
            refine pm_R_br pm_M270 (pc' := 4) rfl rfl ?_
            exact ih_359 _ (sf_up hN_359 e428 B362 (by decide) (by decide)) z426 z427 (sf_any z426) (sf_weak B429 (by decide) (by decide)) rfl
  exact L_359 _ 0 0 (sf_weak sf_k0 (by decide) (by decide)) (sf_weak sf_k0 (by decide) (by decide)) rfl

set_option maxRecDepth 100000 in
set_option maxHeartbeats 4000000 in
/-- SilentTableModel.before -/
theorem rf_c278 {d : Nat} {m : Nat → Int32} {w : Int64} {h : pm_H} {Q : Option Value → pm_H → Prop} {a0 : Int32} {a1 : Int32} (T : rf_T m w h) (Ba0 : sf_B 0 50 a0) (K : ∀ (r : Int32), Q (some (.int r)) h) : pm_R (d + 2) 278 0 [.ref 41, .int a0, .int a1, pm_no, pm_no] [] h Q := by
  refine pm_R_op pm_M278 (pc' := 1) (st' := [.int 0]) rfl rfl rfl ?_
  refine pm_R_lo pm_M278 (pc' := 2) (ls' := [.ref 41, .int a0, .int a1, .int 0, pm_no]) (st' := []) rfl rfl rfl ?_
  refine pm_R_op pm_M278 (pc' := 3) (st' := [.int 0]) rfl rfl rfl ?_
  refine pm_R_lo pm_M278 (pc' := 5) (ls' := [.ref 41, .int a0, .int a1, .int 0, .int 0]) (st' := []) rfl rfl rfl ?_
  have L_354 : ∀ (N : Nat) (x3_354 : Int32) (x4_354 : Int32), sf_B (-2147483648) 2147483647 x3_354 → sf_B 0 50 x4_354 → (50 - x4_354.toInt).toNat = N → pm_R (d + 2) 278 5 [.ref 41, .int a0, .int a1, .int x3_354, .int x4_354] [] h Q := by
    intro N
    induction N using Nat.strongRecOn with
    | ind N ih_354 =>
      intro x3_354 x4_354 Bx3_354 Bx4_354 hN_354
      refine pm_R_lo pm_M278 (pc' := 7) rfl rfl rfl ?_
      refine pm_R_lo pm_M278 (pc' := 8) rfl rfl rfl ?_
      refine pm_R_icmp pm_M278 (t := 45) (pc' := 11) rfl rfl rfl (fun c355 => ?_) (fun c355 => ?_)
      · skip
        refine pm_R_lo pm_M278 (pc' := 46) rfl rfl rfl ?_
        exact pm_R_ret pm_M278 (r := some (.int x3_354)) rfl (pm_ret_i _) (K x3_354)
      · have B356 : sf_B 0 49 x4_354 := sf_ltL (Int32.not_le.mp c355) Bx4_354 Ba0
        have B357 : sf_B 1 50 a0 := sf_ltR (Int32.not_le.mp c355) Bx4_354 Ba0
        refine pm_R_lo pm_M278 (pc' := 12) rfl rfl rfl ?_
        refine pm_R_lo pm_M278 (pc' := 13) rfl rfl rfl ?_
        refine pm_R_lo pm_M278 (pc' := 15) rfl rfl rfl ?_
        refine pm_R_cv pm_M278 (pc' := 18) (a := 41) (ra := [.int x4_354]) (rest := [.int x3_354]) (ls' := [.ref 41, .int x4_354]) rfl rfl (Or.inl rfl) pm_M256 T.2.1 rfl (by decide) (Nat.lt_of_lt_of_le (by decide) T.1) rfl rfl (Nat.le_of_ble_eq_true rfl) rfl rfl ?_
        refine pm_R_lo pm_M256 (pc' := 1) rfl rfl rfl ?_
        refine pm_R_lo pm_M256 (pc' := 2) rfl rfl rfl ?_
        refine pm_R_op pm_M256 (pc' := 3) (st' := [.int 0, .int x4_354, .ref 41]) rfl rfl rfl ?_
        refine pm_R_cv pm_M256 (pc' := 6) (a := 41) (ra := [.int 0, .int x4_354]) (rest := []) (ls' := [.ref 41, .int x4_354, .int 0]) rfl rfl (Or.inl rfl) pm_M255 T.2.1 rfl (by decide) (Nat.lt_of_lt_of_le (by decide) T.1) rfl rfl (Nat.le_of_ble_eq_true rfl) rfl rfl ?_
        refine pm_R_lo pm_M255 (pc' := 1) rfl rfl rfl ?_
        refine rf_R_get pm_M255 T (pc' := 4) (v := .ref 49) rfl rfl rfl rfl ?_
        refine pm_R_op pm_M255 (pc' := 7) (st' := [.int 152, .ref 49]) rfl rfl rfl ?_
        refine pm_R_lo pm_M255 (pc' := 8) rfl rfl rfl ?_
        have B358 : sf_B 0 1 (m 44) := T.2.2.1 44
        refine rf_R_get pm_M255 T (pc' := 11) (v := .int (m 44)) rfl rfl rfl rfl ?_
        refine sf_R_imul pm_M255 (pc' := 12) rfl rfl sf_k152 B358 (by decide) (by decide) (by decide) (fun z359 e360 B361 => ?_)
        refine pm_R_op pm_M255 (pc' := 13) (st' := [.int 2, .int z359, .ref 49]) rfl rfl rfl ?_
        refine sf_R_iadd pm_M255 (pc' := 14) rfl rfl B361 sf_k2 (by decide) (by decide) (fun z362 e363 B364 => ?_)
        refine pm_R_op pm_M255 (pc' := 15) (st' := [.int 3, .int z362, .ref 49]) rfl rfl rfl ?_
        refine pm_R_lo pm_M255 (pc' := 16) rfl rfl rfl ?_
        refine sf_R_imul pm_M255 (pc' := 17) rfl rfl sf_k3 B356 (by decide) (by decide) (by decide) (fun z365 e366 B367 => ?_)
        refine sf_R_iadd pm_M255 (pc' := 18) rfl rfl B364 B367 (by decide) (by decide) (fun z368 e369 B370 => ?_)
        refine pm_R_lo pm_M255 (pc' := 19) rfl rfl rfl ?_
        refine sf_R_iadd pm_M255 (pc' := 20) rfl rfl B370 sf_k0 (by decide) (by decide) (fun z371 e372 B373 => ?_)
        obtain ⟨f374, e375, b376⟩ := T.2.2.2.1 49 (by decide) (by decide)
        refine rf_R_ild pm_M255 T (pc' := 21) rfl e375 (by decide) (sf_in B373 (by decide) (by decide)) rfl (fun z377 ez378 => ?_)
        have e379 : (z371).toInt = 152 * ((m 44)).toInt + 3 * (x4_354).toInt + 2 := by
          have q0 := e360
          have q1 := e363
          have q2 := e366
          have q3 := e369
          have q4 := e372
          simp only [(show (0 : Int32).toInt = 0 from rfl), (show (2 : Int32).toInt = 2 from rfl), (show (3 : Int32).toInt = 3 from rfl), (show (152 : Int32).toInt = 152 from rfl)] at q0 q1 q2 q3 q4
          omega
        have B380 : sf_B 0 2 z377 := ez378 ▸ rf_p49s b376 e379 B358 B356 (by decide) (by decide) (by decide)
        refine pm_R_ret pm_M255 (r := some (.int z377)) rfl (pm_ret_i _) ?_
        show pm_R _ 256 6 [.ref 41, .int x4_354] [.int z377] _ _
        refine pm_R_op pm_M256 (pc' := 7) (st' := [.int 2, .int z377]) rfl rfl rfl ?_
        refine pm_R_icmp pm_M256 (t := 14) (pc' := 10) rfl rfl rfl (fun c381 => ?_) (fun c381 => ?_)
        · have B382 : sf_B 0 1 z377 := sf_neH0 c381 sf_k2 B380
          refine pm_R_op pm_M256 (pc' := 15) (st' := [.int 0]) rfl rfl rfl ?_
          refine pm_R_ret pm_M256 (r := some (.int 0)) rfl rfl ?_
          show pm_R _ 278 18 [.ref 41, .int a0, .int a1, .int x3_354, .int x4_354] [.int 0, .int x3_354] _ _
          refine pm_R_br pm_M278 (pc' := 36) (st' := [.int x3_354]) rfl rfl ?_
          refine pm_R_op pm_M278 (pc' := 37) (st' := [.int 0, .int x3_354]) rfl rfl rfl ?_
          refine sf_R_iadd pm_M278 (pc' := 38) rfl rfl Bx3_354 sf_k0 (by decide) (by decide) (fun z383 e384 B385 => ?_)
          refine pm_R_lo pm_M278 (pc' := 39) (ls' := [.ref 41, .int a0, .int a1, .int z383, .int x4_354]) (st' := []) rfl rfl rfl ?_
          refine sf_R_iinc pm_M278 (pc' := 42) (ls' := fun z => [.ref 41, .int a0, .int a1, .int z383, .int z]) rfl B356 rfl (by decide) (by decide) (by decide) (fun _ => rfl) rfl (fun z386 e387 B388 => ?_)
          show pm_R _ 278 42 [.ref 41, .int a0, .int a1, .int z383, .int z386] [] _ _
          refine pm_R_br pm_M278 (pc' := 5) rfl rfl ?_
          exact ih_354 _ (sf_up hN_354 e387 B356 (by decide) (by decide)) z383 z386 B385 (sf_weak B388 (by decide) (by decide)) rfl
        · have B389 : sf_B 2 2 z377 := sf_eqL (Classical.not_not.mp c381) sf_k2
          refine pm_R_op pm_M256 (pc' := 11) (st' := [.int 1]) rfl rfl rfl ?_
          refine pm_R_br pm_M256 (pc' := 15) rfl rfl ?_
          refine pm_R_ret pm_M256 (r := some (.int 1)) rfl rfl ?_
          show pm_R _ 278 18 [.ref 41, .int a0, .int a1, .int x3_354, .int x4_354] [.int 1, .int x3_354] _ _
          refine pm_R_br pm_M278 (pc' := 21) (st' := [.int x3_354]) rfl rfl ?_
          refine pm_R_lo pm_M278 (pc' := 22) rfl rfl rfl ?_
          refine pm_R_lo pm_M278 (pc' := 24) rfl rfl rfl ?_
          refine pm_R_op pm_M278 (pc' := 25) (st' := [.int 2, .int x4_354, .ref 41, .int x3_354]) rfl rfl rfl ?_
          refine pm_R_cv pm_M278 (pc' := 28) (a := 41) (ra := [.int 2, .int x4_354]) (rest := [.int x3_354]) (ls' := [.ref 41, .int x4_354, .int 2]) rfl rfl (Or.inl rfl) pm_M255 T.2.1 rfl (by decide) (Nat.lt_of_lt_of_le (by decide) T.1) rfl rfl (Nat.le_of_ble_eq_true rfl) rfl rfl ?_
          refine pm_R_lo pm_M255 (pc' := 1) rfl rfl rfl ?_
          refine rf_R_get pm_M255 T (pc' := 4) (v := .ref 49) rfl rfl rfl rfl ?_
          refine pm_R_op pm_M255 (pc' := 7) (st' := [.int 152, .ref 49]) rfl rfl rfl ?_
          refine pm_R_lo pm_M255 (pc' := 8) rfl rfl rfl ?_
          refine rf_R_get pm_M255 T (pc' := 11) (v := .int (m 44)) rfl rfl rfl rfl ?_
          refine sf_R_imul pm_M255 (pc' := 12) rfl rfl sf_k152 B358 (by decide) (by decide) (by decide) (fun z390 e391 B392 => ?_)
          refine pm_R_op pm_M255 (pc' := 13) (st' := [.int 2, .int z390, .ref 49]) rfl rfl rfl ?_
          refine sf_R_iadd pm_M255 (pc' := 14) rfl rfl B392 sf_k2 (by decide) (by decide) (fun z393 e394 B395 => ?_)
          refine pm_R_op pm_M255 (pc' := 15) (st' := [.int 3, .int z393, .ref 49]) rfl rfl rfl ?_
          refine pm_R_lo pm_M255 (pc' := 16) rfl rfl rfl ?_
          refine sf_R_imul pm_M255 (pc' := 17) rfl rfl sf_k3 B356 (by decide) (by decide) (by decide) (fun z396 e397 B398 => ?_)
          refine sf_R_iadd pm_M255 (pc' := 18) rfl rfl B395 B398 (by decide) (by decide) (fun z399 e400 B401 => ?_)
          refine pm_R_lo pm_M255 (pc' := 19) rfl rfl rfl ?_
          refine sf_R_iadd pm_M255 (pc' := 20) rfl rfl B401 sf_k2 (by decide) (by decide) (fun z402 e403 B404 => ?_)
          refine rf_R_ild pm_M255 T (pc' := 21) rfl e375 (by decide) (sf_in B404 (by decide) (by decide)) rfl (fun z405 ez406 => ?_)
          have e407 : (z402).toInt = 152 * ((m 44)).toInt + 3 * (x4_354).toInt + 4 := by
            have q0 := e391
            have q1 := e394
            have q2 := e397
            have q3 := e400
            have q4 := e403
            simp only [(show (2 : Int32).toInt = 2 from rfl), (show (3 : Int32).toInt = 3 from rfl), (show (152 : Int32).toInt = 152 from rfl)] at q0 q1 q2 q3 q4
            omega
          have B408 : sf_B (-1) 9 z405 := ez406 ▸ rf_p49o b376 e407 B358 B356 (by decide) (by decide) (by decide)
          refine pm_R_ret pm_M255 (r := some (.int z405)) rfl (pm_ret_i _) ?_
          show pm_R _ 278 28 [.ref 41, .int a0, .int a1, .int x3_354, .int x4_354] [.int z405, .int x3_354] _ _
          refine pm_R_lo pm_M278 (pc' := 29) rfl rfl rfl ?_
          refine pm_R_icmp pm_M278 (t := 36) (pc' := 32) rfl rfl rfl (fun c409 => ?_) (fun c409 => ?_)
          · skip
            refine pm_R_op pm_M278 (pc' := 37) (st' := [.int 0, .int x3_354]) rfl rfl rfl ?_
            refine sf_R_iadd pm_M278 (pc' := 38) rfl rfl Bx3_354 sf_k0 (by decide) (by decide) (fun z410 e411 B412 => ?_)
            refine pm_R_lo pm_M278 (pc' := 39) (ls' := [.ref 41, .int a0, .int a1, .int z410, .int x4_354]) (st' := []) rfl rfl rfl ?_
            refine sf_R_iinc pm_M278 (pc' := 42) (ls' := fun z => [.ref 41, .int a0, .int a1, .int z410, .int z]) rfl B356 rfl (by decide) (by decide) (by decide) (fun _ => rfl) rfl (fun z413 e414 B415 => ?_)
            show pm_R _ 278 42 [.ref 41, .int a0, .int a1, .int z410, .int z413] [] _ _
            refine pm_R_br pm_M278 (pc' := 5) rfl rfl ?_
            exact ih_354 _ (sf_up hN_354 e414 B356 (by decide) (by decide)) z410 z413 B412 (sf_weak B415 (by decide) (by decide)) rfl
          · have B416 : sf_B (-1) 9 a1 := sf_eqR (Classical.not_not.mp c409) B408
            refine pm_R_op pm_M278 (pc' := 33) (st' := [.int 1, .int x3_354]) rfl rfl rfl ?_
            refine pm_R_br pm_M278 (pc' := 37) rfl rfl ?_
            refine sf_R_iany pm_M278 (pc' := 38) (st := []) rfl rfl rfl (fun z420 => ?_)
            refine pm_R_lo pm_M278 (pc' := 39) (ls' := [.ref 41, .int a0, .int a1, .int z420, .int x4_354]) (st' := []) rfl rfl rfl ?_
            refine sf_R_iinc pm_M278 (pc' := 42) (ls' := fun z => [.ref 41, .int a0, .int a1, .int z420, .int z]) rfl B356 rfl (by decide) (by decide) (by decide) (fun _ => rfl) rfl (fun z421 e422 B423 => ?_)
            show pm_R _ 278 42 [.ref 41, .int a0, .int a1, .int z420, .int z421] [] _ _
            refine pm_R_br pm_M278 (pc' := 5) rfl rfl ?_
            exact ih_354 _ (sf_up hN_354 e422 B356 (by decide) (by decide)) z420 z421 (sf_any z420) (sf_weak B423 (by decide) (by decide)) rfl
  exact L_354 _ 0 0 (sf_weak sf_k0 (by decide) (by decide)) (sf_weak sf_k0 (by decide) (by decide)) rfl

set_option maxRecDepth 100000 in
set_option maxHeartbeats 4000000 in
/-- SilentTableModel.ownLast -/
theorem rf_c279 {d : Nat} {m : Nat → Int32} {w : Int64} {h : pm_H} {Q : Option Value → pm_H → Prop} {a0 : Int32} (T : rf_T m w h) (Ba0 : sf_B 0 49 a0) (K : ∀ (r : Int32), sf_B (-1) 9 r → Q (some (.int r)) h) : pm_R (d + 2) 279 0 [.ref 41, .int a0, pm_no] [] h Q := by
  refine pm_R_lo pm_M279 (pc' := 1) rfl rfl rfl ?_
  refine pm_R_op pm_M279 (pc' := 2) (st' := [.int 1, .int a0]) rfl rfl rfl ?_
  refine sf_R_isub pm_M279 (pc' := 3) rfl rfl Ba0 sf_k1 (by decide) (by decide) (fun z1 e2 B3 => ?_)
  refine pm_R_lo pm_M279 (pc' := 4) (ls' := [.ref 41, .int a0, .int z1]) (st' := []) rfl rfl rfl ?_
  have L_192 : ∀ (N : Nat) (x2_192 : Int32), sf_B (-1) 48 x2_192 → (x2_192.toInt - (-1)).toNat = N → pm_R (d + 2) 279 4 [.ref 41, .int a0, .int x2_192] [] h Q := by
    intro N
    induction N using Nat.strongRecOn with
    | ind N ih_192 =>
      intro x2_192 Bx2_192 hN_192
      refine pm_R_lo pm_M279 (pc' := 5) rfl rfl rfl ?_
      refine pm_R_ifc pm_M279 (t := 44) (pc' := 8) rfl rfl rfl (fun c193 => ?_) (fun c193 => ?_)
      · have B194 : sf_B (-1) (-1) x2_192 := sf_ltL c193 Bx2_192 sf_k0
        refine pm_R_op pm_M279 (pc' := 45) (st' := [.int (-1)]) rfl rfl rfl ?_
        exact pm_R_ret pm_M279 (r := some (.int (-1))) rfl rfl (K (-1) (sf_weak sf_kn1 (by decide) (by decide)))
      · have B195 : sf_B 0 48 x2_192 := sf_leR (Int32.not_lt.mp c193) sf_k0 Bx2_192
        refine pm_R_lo pm_M279 (pc' := 9) rfl rfl rfl ?_
        refine pm_R_lo pm_M279 (pc' := 10) rfl rfl rfl ?_
        refine pm_R_cv pm_M279 (pc' := 13) (a := 41) (ra := [.int x2_192]) (rest := []) (ls' := [.ref 41, .int x2_192]) rfl rfl (Or.inl rfl) pm_M256 T.2.1 rfl (by decide) (Nat.lt_of_lt_of_le (by decide) T.1) rfl rfl (Nat.le_of_ble_eq_true rfl) rfl rfl ?_
        refine pm_R_lo pm_M256 (pc' := 1) rfl rfl rfl ?_
        refine pm_R_lo pm_M256 (pc' := 2) rfl rfl rfl ?_
        refine pm_R_op pm_M256 (pc' := 3) (st' := [.int 0, .int x2_192, .ref 41]) rfl rfl rfl ?_
        refine pm_R_cv pm_M256 (pc' := 6) (a := 41) (ra := [.int 0, .int x2_192]) (rest := []) (ls' := [.ref 41, .int x2_192, .int 0]) rfl rfl (Or.inl rfl) pm_M255 T.2.1 rfl (by decide) (Nat.lt_of_lt_of_le (by decide) T.1) rfl rfl (Nat.le_of_ble_eq_true rfl) rfl rfl ?_
        refine pm_R_lo pm_M255 (pc' := 1) rfl rfl rfl ?_
        refine rf_R_get pm_M255 T (pc' := 4) (v := .ref 49) rfl rfl rfl rfl ?_
        refine pm_R_op pm_M255 (pc' := 7) (st' := [.int 152, .ref 49]) rfl rfl rfl ?_
        refine pm_R_lo pm_M255 (pc' := 8) rfl rfl rfl ?_
        have B196 : sf_B 0 1 (m 44) := T.2.2.1 44
        refine rf_R_get pm_M255 T (pc' := 11) (v := .int (m 44)) rfl rfl rfl rfl ?_
        refine sf_R_imul pm_M255 (pc' := 12) rfl rfl sf_k152 B196 (by decide) (by decide) (by decide) (fun z197 e198 B199 => ?_)
        refine pm_R_op pm_M255 (pc' := 13) (st' := [.int 2, .int z197, .ref 49]) rfl rfl rfl ?_
        refine sf_R_iadd pm_M255 (pc' := 14) rfl rfl B199 sf_k2 (by decide) (by decide) (fun z200 e201 B202 => ?_)
        refine pm_R_op pm_M255 (pc' := 15) (st' := [.int 3, .int z200, .ref 49]) rfl rfl rfl ?_
        refine pm_R_lo pm_M255 (pc' := 16) rfl rfl rfl ?_
        refine sf_R_imul pm_M255 (pc' := 17) rfl rfl sf_k3 B195 (by decide) (by decide) (by decide) (fun z203 e204 B205 => ?_)
        refine sf_R_iadd pm_M255 (pc' := 18) rfl rfl B202 B205 (by decide) (by decide) (fun z206 e207 B208 => ?_)
        refine pm_R_lo pm_M255 (pc' := 19) rfl rfl rfl ?_
        refine sf_R_iadd pm_M255 (pc' := 20) rfl rfl B208 sf_k0 (by decide) (by decide) (fun z209 e210 B211 => ?_)
        obtain ⟨f212, e213, b214⟩ := T.2.2.2.1 49 (by decide) (by decide)
        refine rf_R_ild pm_M255 T (pc' := 21) rfl e213 (by decide) (sf_in B211 (by decide) (by decide)) rfl (fun z215 ez216 => ?_)
        have e217 : (z209).toInt = 152 * ((m 44)).toInt + 3 * (x2_192).toInt + 2 := by
          have q0 := e198
          have q1 := e201
          have q2 := e204
          have q3 := e207
          have q4 := e210
          simp only [(show (0 : Int32).toInt = 0 from rfl), (show (2 : Int32).toInt = 2 from rfl), (show (3 : Int32).toInt = 3 from rfl), (show (152 : Int32).toInt = 152 from rfl)] at q0 q1 q2 q3 q4
          omega
        have B218 : sf_B 0 2 z215 := ez216 ▸ rf_p49s b214 e217 B196 B195 (by decide) (by decide) (by decide)
        refine pm_R_ret pm_M255 (r := some (.int z215)) rfl (pm_ret_i _) ?_
        show pm_R _ 256 6 [.ref 41, .int x2_192] [.int z215] _ _
        refine pm_R_op pm_M256 (pc' := 7) (st' := [.int 2, .int z215]) rfl rfl rfl ?_
        refine pm_R_icmp pm_M256 (t := 14) (pc' := 10) rfl rfl rfl (fun c219 => ?_) (fun c219 => ?_)
        · have B220 : sf_B 0 1 z215 := sf_neH0 c219 sf_k2 B218
          refine pm_R_op pm_M256 (pc' := 15) (st' := [.int 0]) rfl rfl rfl ?_
          refine pm_R_ret pm_M256 (r := some (.int 0)) rfl rfl ?_
          show pm_R _ 279 13 [.ref 41, .int a0, .int x2_192] [.int 0] _ _
          refine pm_R_br pm_M279 (pc' := 38) (st' := []) rfl rfl ?_
          refine sf_R_iinc pm_M279 (pc' := 41) (ls' := fun z => [.ref 41, .int a0, .int z]) rfl B195 rfl (by decide) (by decide) (by decide) (fun _ => rfl) rfl (fun z221 e222 B223 => ?_)
          show pm_R _ 279 41 [.ref 41, .int a0, .int z221] [] _ _
          refine pm_R_br pm_M279 (pc' := 4) rfl rfl ?_
          exact ih_192 _ (sf_dn hN_192 e222 B195 (by decide) (by decide)) z221 (sf_weak B223 (by decide) (by decide)) rfl
        · have B224 : sf_B 2 2 z215 := sf_eqL (Classical.not_not.mp c219) sf_k2
          refine pm_R_op pm_M256 (pc' := 11) (st' := [.int 1]) rfl rfl rfl ?_
          refine pm_R_br pm_M256 (pc' := 15) rfl rfl ?_
          refine pm_R_ret pm_M256 (r := some (.int 1)) rfl rfl ?_
          show pm_R _ 279 13 [.ref 41, .int a0, .int x2_192] [.int 1] _ _
          refine pm_R_br pm_M279 (pc' := 16) (st' := []) rfl rfl ?_
          refine pm_R_lo pm_M279 (pc' := 17) rfl rfl rfl ?_
          refine pm_R_lo pm_M279 (pc' := 18) rfl rfl rfl ?_
          refine pm_R_op pm_M279 (pc' := 19) (st' := [.int 1, .int x2_192, .ref 41]) rfl rfl rfl ?_
          refine pm_R_cv pm_M279 (pc' := 22) (a := 41) (ra := [.int 1, .int x2_192]) (rest := []) (ls' := [.ref 41, .int x2_192, .int 1]) rfl rfl (Or.inl rfl) pm_M255 T.2.1 rfl (by decide) (Nat.lt_of_lt_of_le (by decide) T.1) rfl rfl (Nat.le_of_ble_eq_true rfl) rfl rfl ?_
          refine pm_R_lo pm_M255 (pc' := 1) rfl rfl rfl ?_
          refine rf_R_get pm_M255 T (pc' := 4) (v := .ref 49) rfl rfl rfl rfl ?_
          refine pm_R_op pm_M255 (pc' := 7) (st' := [.int 152, .ref 49]) rfl rfl rfl ?_
          refine pm_R_lo pm_M255 (pc' := 8) rfl rfl rfl ?_
          refine rf_R_get pm_M255 T (pc' := 11) (v := .int (m 44)) rfl rfl rfl rfl ?_
          refine sf_R_imul pm_M255 (pc' := 12) rfl rfl sf_k152 B196 (by decide) (by decide) (by decide) (fun z225 e226 B227 => ?_)
          refine pm_R_op pm_M255 (pc' := 13) (st' := [.int 2, .int z225, .ref 49]) rfl rfl rfl ?_
          refine sf_R_iadd pm_M255 (pc' := 14) rfl rfl B227 sf_k2 (by decide) (by decide) (fun z228 e229 B230 => ?_)
          refine pm_R_op pm_M255 (pc' := 15) (st' := [.int 3, .int z228, .ref 49]) rfl rfl rfl ?_
          refine pm_R_lo pm_M255 (pc' := 16) rfl rfl rfl ?_
          refine sf_R_imul pm_M255 (pc' := 17) rfl rfl sf_k3 B195 (by decide) (by decide) (by decide) (fun z231 e232 B233 => ?_)
          refine sf_R_iadd pm_M255 (pc' := 18) rfl rfl B230 B233 (by decide) (by decide) (fun z234 e235 B236 => ?_)
          refine pm_R_lo pm_M255 (pc' := 19) rfl rfl rfl ?_
          refine sf_R_iadd pm_M255 (pc' := 20) rfl rfl B236 sf_k1 (by decide) (by decide) (fun z237 e238 B239 => ?_)
          refine rf_R_ild pm_M255 T (pc' := 21) rfl e213 (by decide) (sf_in B239 (by decide) (by decide)) rfl (fun z240 ez241 => ?_)
          have e242 : (z237).toInt = 152 * ((m 44)).toInt + 3 * (x2_192).toInt + 3 := by
            have q0 := e226
            have q1 := e229
            have q2 := e232
            have q3 := e235
            have q4 := e238
            simp only [(show (1 : Int32).toInt = 1 from rfl), (show (2 : Int32).toInt = 2 from rfl), (show (3 : Int32).toInt = 3 from rfl), (show (152 : Int32).toInt = 152 from rfl)] at q0 q1 q2 q3 q4
            omega
          have B243 : sf_B 0 5 z240 := ez241 ▸ rf_p49w b214 e242 B196 B195 (by decide) (by decide) (by decide)
          refine pm_R_ret pm_M255 (r := some (.int z240)) rfl (pm_ret_i _) ?_
          show pm_R _ 279 22 [.ref 41, .int a0, .int x2_192] [.int z240] _ _
          refine pm_R_lo pm_M279 (pc' := 23) rfl rfl rfl ?_
          refine pm_R_lo pm_M279 (pc' := 24) rfl rfl rfl ?_
          refine pm_R_op pm_M279 (pc' := 25) (st' := [.int 1, .int a0, .ref 41, .int z240]) rfl rfl rfl ?_
          refine pm_R_cv pm_M279 (pc' := 28) (a := 41) (ra := [.int 1, .int a0]) (rest := [.int z240]) (ls' := [.ref 41, .int a0, .int 1]) rfl rfl (Or.inl rfl) pm_M255 T.2.1 rfl (by decide) (Nat.lt_of_lt_of_le (by decide) T.1) rfl rfl (Nat.le_of_ble_eq_true rfl) rfl rfl ?_
          refine pm_R_lo pm_M255 (pc' := 1) rfl rfl rfl ?_
          refine rf_R_get pm_M255 T (pc' := 4) (v := .ref 49) rfl rfl rfl rfl ?_
          refine pm_R_op pm_M255 (pc' := 7) (st' := [.int 152, .ref 49]) rfl rfl rfl ?_
          refine pm_R_lo pm_M255 (pc' := 8) rfl rfl rfl ?_
          refine rf_R_get pm_M255 T (pc' := 11) (v := .int (m 44)) rfl rfl rfl rfl ?_
          refine sf_R_imul pm_M255 (pc' := 12) rfl rfl sf_k152 B196 (by decide) (by decide) (by decide) (fun z244 e245 B246 => ?_)
          refine pm_R_op pm_M255 (pc' := 13) (st' := [.int 2, .int z244, .ref 49]) rfl rfl rfl ?_
          refine sf_R_iadd pm_M255 (pc' := 14) rfl rfl B246 sf_k2 (by decide) (by decide) (fun z247 e248 B249 => ?_)
          refine pm_R_op pm_M255 (pc' := 15) (st' := [.int 3, .int z247, .ref 49]) rfl rfl rfl ?_
          refine pm_R_lo pm_M255 (pc' := 16) rfl rfl rfl ?_
          refine sf_R_imul pm_M255 (pc' := 17) rfl rfl sf_k3 Ba0 (by decide) (by decide) (by decide) (fun z250 e251 B252 => ?_)
          refine sf_R_iadd pm_M255 (pc' := 18) rfl rfl B249 B252 (by decide) (by decide) (fun z253 e254 B255 => ?_)
          refine pm_R_lo pm_M255 (pc' := 19) rfl rfl rfl ?_
          refine sf_R_iadd pm_M255 (pc' := 20) rfl rfl B255 sf_k1 (by decide) (by decide) (fun z256 e257 B258 => ?_)
          refine rf_R_ild pm_M255 T (pc' := 21) rfl e213 (by decide) (sf_in B258 (by decide) (by decide)) rfl (fun z259 ez260 => ?_)
          have e261 : (z256).toInt = 152 * ((m 44)).toInt + 3 * (a0).toInt + 3 := by
            have q0 := e245
            have q1 := e248
            have q2 := e251
            have q3 := e254
            have q4 := e257
            simp only [(show (1 : Int32).toInt = 1 from rfl), (show (2 : Int32).toInt = 2 from rfl), (show (3 : Int32).toInt = 3 from rfl), (show (152 : Int32).toInt = 152 from rfl)] at q0 q1 q2 q3 q4
            omega
          have B262 : sf_B 0 5 z259 := ez260 ▸ rf_p49w b214 e261 B196 Ba0 (by decide) (by decide) (by decide)
          refine pm_R_ret pm_M255 (r := some (.int z259)) rfl (pm_ret_i _) ?_
          show pm_R _ 279 28 [.ref 41, .int a0, .int x2_192] [.int z259, .int z240] _ _
          refine pm_R_icmp pm_M279 (t := 38) (pc' := 31) rfl rfl rfl (fun c263 => ?_) (fun c263 => ?_)
          · skip
            refine sf_R_iinc pm_M279 (pc' := 41) (ls' := fun z => [.ref 41, .int a0, .int z]) rfl B195 rfl (by decide) (by decide) (by decide) (fun _ => rfl) rfl (fun z264 e265 B266 => ?_)
            show pm_R _ 279 41 [.ref 41, .int a0, .int z264] [] _ _
            refine pm_R_br pm_M279 (pc' := 4) rfl rfl ?_
            exact ih_192 _ (sf_dn hN_192 e265 B195 (by decide) (by decide)) z264 (sf_weak B266 (by decide) (by decide)) rfl
          · refine pm_R_lo pm_M279 (pc' := 32) rfl rfl rfl ?_
            refine pm_R_lo pm_M279 (pc' := 33) rfl rfl rfl ?_
            refine pm_R_op pm_M279 (pc' := 34) (st' := [.int 2, .int x2_192, .ref 41]) rfl rfl rfl ?_
            refine pm_R_cv pm_M279 (pc' := 37) (a := 41) (ra := [.int 2, .int x2_192]) (rest := []) (ls' := [.ref 41, .int x2_192, .int 2]) rfl rfl (Or.inl rfl) pm_M255 T.2.1 rfl (by decide) (Nat.lt_of_lt_of_le (by decide) T.1) rfl rfl (Nat.le_of_ble_eq_true rfl) rfl rfl ?_
            refine pm_R_lo pm_M255 (pc' := 1) rfl rfl rfl ?_
            refine rf_R_get pm_M255 T (pc' := 4) (v := .ref 49) rfl rfl rfl rfl ?_
            refine pm_R_op pm_M255 (pc' := 7) (st' := [.int 152, .ref 49]) rfl rfl rfl ?_
            refine pm_R_lo pm_M255 (pc' := 8) rfl rfl rfl ?_
            refine rf_R_get pm_M255 T (pc' := 11) (v := .int (m 44)) rfl rfl rfl rfl ?_
            refine sf_R_imul pm_M255 (pc' := 12) rfl rfl sf_k152 B196 (by decide) (by decide) (by decide) (fun z267 e268 B269 => ?_)
            refine pm_R_op pm_M255 (pc' := 13) (st' := [.int 2, .int z267, .ref 49]) rfl rfl rfl ?_
            refine sf_R_iadd pm_M255 (pc' := 14) rfl rfl B269 sf_k2 (by decide) (by decide) (fun z270 e271 B272 => ?_)
            refine pm_R_op pm_M255 (pc' := 15) (st' := [.int 3, .int z270, .ref 49]) rfl rfl rfl ?_
            refine pm_R_lo pm_M255 (pc' := 16) rfl rfl rfl ?_
            refine sf_R_imul pm_M255 (pc' := 17) rfl rfl sf_k3 B195 (by decide) (by decide) (by decide) (fun z273 e274 B275 => ?_)
            refine sf_R_iadd pm_M255 (pc' := 18) rfl rfl B272 B275 (by decide) (by decide) (fun z276 e277 B278 => ?_)
            refine pm_R_lo pm_M255 (pc' := 19) rfl rfl rfl ?_
            refine sf_R_iadd pm_M255 (pc' := 20) rfl rfl B278 sf_k2 (by decide) (by decide) (fun z279 e280 B281 => ?_)
            refine rf_R_ild pm_M255 T (pc' := 21) rfl e213 (by decide) (sf_in B281 (by decide) (by decide)) rfl (fun z282 ez283 => ?_)
            have e284 : (z279).toInt = 152 * ((m 44)).toInt + 3 * (x2_192).toInt + 4 := by
              have q0 := e268
              have q1 := e271
              have q2 := e274
              have q3 := e277
              have q4 := e280
              simp only [(show (2 : Int32).toInt = 2 from rfl), (show (3 : Int32).toInt = 3 from rfl), (show (152 : Int32).toInt = 152 from rfl)] at q0 q1 q2 q3 q4
              omega
            have B285 : sf_B (-1) 9 z282 := ez283 ▸ rf_p49o b214 e284 B196 B195 (by decide) (by decide) (by decide)
            refine pm_R_ret pm_M255 (r := some (.int z282)) rfl (pm_ret_i _) ?_
            show pm_R _ 279 37 [.ref 41, .int a0, .int x2_192] [.int z282] _ _
            exact pm_R_ret pm_M279 (r := some (.int z282)) rfl (pm_ret_i _) (K z282 B285)
  exact L_192 _ z1 B3 rfl
