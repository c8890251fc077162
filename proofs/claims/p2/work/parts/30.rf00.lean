set_option maxRecDepth 100000 in
set_option maxHeartbeats 4000000 in
/-- SilentTableModel.manyOf -/
theorem rf_c222 {d : Nat} {h : pm_H} {Q : Option Value → pm_H → Prop} {a0 : Int64}   (K : ∀ (r : Int32), sf_B 0 50 r → Q (some (.int r)) h) : pm_R (d + 1) 222 0 [.long a0, pm_no, pm_no, pm_no] [] h Q := by
  refine pm_R_op pm_M222 (pc' := 1) (st' := [.int 0]) rfl rfl rfl ?_
  refine pm_R_lo pm_M222 (pc' := 2) (ls' := [.long a0, pm_no, .int 0, pm_no]) (st' := []) rfl rfl rfl ?_
  refine pm_R_op pm_M222 (pc' := 3) (st' := [.int 0]) rfl rfl rfl ?_
  refine pm_R_lo pm_M222 (pc' := 4) (ls' := [.long a0, pm_no, .int 0, .int 0]) (st' := []) rfl rfl rfl ?_
  have L_117 : ∀ (N : Nat) (x2_117 : Int32) (x3_117 : Int32), sf_B 0 50 x2_117 → sf_B 0 50 x3_117 → x2_117.toInt ≤ x3_117.toInt → (50 - x3_117.toInt).toNat = N → pm_R (d + 1) 222 4 [.long a0, pm_no, .int x2_117, .int x3_117] [] h Q := by
    intro N
    induction N using Nat.strongRecOn with
    | ind N ih_117 =>
      intro x2_117 x3_117 Bx2_117 Bx3_117 R0_117 hN_117
      refine pm_R_lo pm_M222 (pc' := 5) rfl rfl rfl ?_
      refine pm_R_op pm_M222 (pc' := 7) (st' := [.int 50, .int x3_117]) rfl rfl rfl ?_
      refine pm_R_icmp pm_M222 (t := 32) (pc' := 10) rfl rfl rfl (fun c118 => ?_) (fun c118 => ?_)
      · have B119 : sf_B 50 50 x3_117 := sf_leR c118 sf_k50 Bx3_117
        refine pm_R_lo pm_M222 (pc' := 33) rfl rfl rfl ?_
        exact pm_R_ret pm_M222 (r := some (.int x2_117)) rfl (pm_ret_i _) (K x2_117 Bx2_117)
      · have B120 : sf_B 0 49 x3_117 := sf_ltL (Int32.not_le.mp c118) Bx3_117 sf_k50
        have B121 : sf_B 0 49 x2_117 := sf_leT R0_117 Bx2_117 B120
        refine pm_R_lo pm_M222 (pc' := 11) rfl rfl rfl ?_
        refine pm_R_lo pm_M222 (pc' := 12) rfl rfl rfl ?_
        refine pm_R_lo pm_M222 (pc' := 13) rfl rfl rfl ?_
        refine pm_R_cs pm_M222 (pc' := 16) (ra := [.int x3_117, .long a0]) (rest := [.int x2_117]) (ls' := [.long a0, pm_no, .int x3_117]) rfl rfl (Or.inl rfl) pm_M206 rfl rfl (Nat.le_of_ble_eq_true rfl) rfl rfl ?_
        refine pm_R_lo pm_M206 (pc' := 1) rfl rfl rfl ?_
        refine pm_R_lo pm_M206 (pc' := 2) rfl rfl rfl ?_
        refine sf_R_lany pm_M206 (pc' := 3) (st := []) rfl rfl rfl (fun z122 => ?_)
        refine pm_R_op pm_M206 (pc' := 4) (st' := [.long 1, .long z122]) rfl rfl rfl ?_
        refine sf_R_lany pm_M206 (pc' := 5) (st := []) rfl rfl rfl (fun z123 => ?_)
        refine pm_R_op pm_M206 (pc' := 6) (st' := [.long 1, .long z123]) rfl rfl rfl ?_
        refine sf_R_lcmp pm_M206 (pc' := 7) rfl rfl (fun z124 e125 => ?_)
        refine pm_R_ifc pm_M206 (t := 14) (pc' := 10) rfl rfl rfl (fun c126 => ?_) (fun c126 => ?_)
        · have k127 := sf_lneC e125 c126
          refine pm_R_op pm_M206 (pc' := 15) (st' := [.int 0]) rfl rfl rfl ?_
          refine pm_R_ret pm_M206 (r := some (.int 0)) rfl rfl ?_
          show pm_R _ 222 16 [.long a0, pm_no, .int x2_117, .int x3_117] [.int 0, .int x2_117] _ _
          refine pm_R_br pm_M222 (pc' := 23) (st' := [.int x2_117]) rfl rfl ?_
          refine pm_R_op pm_M222 (pc' := 24) (st' := [.int 0, .int x2_117]) rfl rfl rfl ?_
          refine sf_R_iadd pm_M222 (pc' := 25) rfl rfl B121 sf_k0 (by decide) (by decide) (fun z128 e129 B130 => ?_)
          refine pm_R_lo pm_M222 (pc' := 26) (ls' := [.long a0, pm_no, .int z128, .int x3_117]) (st' := []) rfl rfl rfl ?_
          refine sf_R_iinc pm_M222 (pc' := 29) (ls' := fun z => [.long a0, pm_no, .int z128, .int z]) rfl B120 rfl (by decide) (by decide) (by decide) (fun _ => rfl) rfl (fun z131 e132 B133 => ?_)
          show pm_R _ 222 29 [.long a0, pm_no, .int z128, .int z131] [] _ _
          refine pm_R_br pm_M222 (pc' := 4) rfl rfl ?_
          exact ih_117 _ (sf_up hN_117 e132 B120 (by decide) (by decide)) z128 z131 (sf_weak B130 (by decide) (by decide)) (sf_weak B133 (by decide) (by decide)) (by have q0 := e129; have q1 := e132; have q2 := B121.1; have q3 := B121.2; have q4 := B120.1; have q5 := B120.2; have q6 := R0_117; (try simp only [(show (0 : Int32).toInt = 0 from rfl), (show (0 : Int64).toInt = 0 from rfl)] at q0 q1 ⊢); omega) rfl
        · have B134 : sf_B 0 0 z124 := sf_eqL (Classical.not_not.mp c126) sf_k0
          refine pm_R_op pm_M206 (pc' := 11) (st' := [.int 1]) rfl rfl rfl ?_
          refine pm_R_br pm_M206 (pc' := 15) rfl rfl ?_
          refine pm_R_ret pm_M206 (r := some (.int 1)) rfl rfl ?_
          show pm_R _ 222 16 [.long a0, pm_no, .int x2_117, .int x3_117] [.int 1, .int x2_117] _ _
          refine pm_R_br pm_M222 (pc' := 19) (st' := [.int x2_117]) rfl rfl ?_
          refine pm_R_op pm_M222 (pc' := 20) (st' := [.int 1, .int x2_117]) rfl rfl rfl ?_
          refine pm_R_br pm_M222 (pc' := 24) rfl rfl ?_
          refine sf_R_iadd pm_M222 (pc' := 25) rfl rfl B121 sf_k1 (by decide) (by decide) (fun z135 e136 B137 => ?_)
          refine pm_R_lo pm_M222 (pc' := 26) (ls' := [.long a0, pm_no, .int z135, .int x3_117]) (st' := []) rfl rfl rfl ?_
          refine sf_R_iinc pm_M222 (pc' := 29) (ls' := fun z => [.long a0, pm_no, .int z135, .int z]) rfl B120 rfl (by decide) (by decide) (by decide) (fun _ => rfl) rfl (fun z138 e139 B140 => ?_)
          show pm_R _ 222 29 [.long a0, pm_no, .int z135, .int z138] [] _ _
          refine pm_R_br pm_M222 (pc' := 4) rfl rfl ?_
          exact ih_117 _ (sf_up hN_117 e139 B120 (by decide) (by decide)) z135 z138 (sf_weak B137 (by decide) (by decide)) (sf_weak B140 (by decide) (by decide)) (by have q0 := e136; have q1 := e139; have q2 := B121.1; have q3 := B121.2; have q4 := B120.1; have q5 := B120.2; have q6 := R0_117; (try simp only [(show (1 : Int32).toInt = 1 from rfl), (show (1 : Int64).toInt = 1 from rfl)] at q0 q1 ⊢); omega) rfl
  exact L_117 _ 0 0 (sf_weak sf_k0 (by decide) (by decide)) (sf_weak sf_k0 (by decide) (by decide)) (by decide) rfl

set_option maxRecDepth 100000 in
set_option maxHeartbeats 4000000 in
/-- SilentTableModel.turned -/
theorem rf_c219 {d : Nat} {h : pm_H} {Q : Option Value → pm_H → Prop} {a0 : Int64}   (K : ∀ (r : Int64), Q (some (.long r)) h) : pm_R (d + 1) 219 0 [.long a0, pm_no, pm_no, pm_no, pm_no] [] h Q := by
  refine pm_R_op pm_M219 (pc' := 1) (st' := [.long 0]) rfl rfl rfl ?_
  refine pm_R_lo pm_M219 (pc' := 2) (ls' := [.long a0, pm_no, .long 0, pm_no, pm_no]) (st' := []) rfl rfl rfl ?_
  refine pm_R_op pm_M219 (pc' := 3) (st' := [.int 0]) rfl rfl rfl ?_
  refine pm_R_lo pm_M219 (pc' := 5) (ls' := [.long a0, pm_no, .long 0, pm_no, .int 0]) (st' := []) rfl rfl rfl ?_
  have L_115 : ∀ (N : Nat) (x4_115 : Int32) (y2_115 : Int64), sf_B 0 50 x4_115 → (50 - x4_115.toInt).toNat = N → pm_R (d + 1) 219 5 [.long a0, pm_no, .long y2_115, pm_no, .int x4_115] [] h Q := by
    intro N
    induction N using Nat.strongRecOn with
    | ind N ih_115 =>
      intro x4_115 y2_115 Bx4_115 hN_115
      refine pm_R_lo pm_M219 (pc' := 7) rfl rfl rfl ?_
      refine pm_R_op pm_M219 (pc' := 9) (st' := [.int 50, .int x4_115]) rfl rfl rfl ?_
      refine pm_R_icmp pm_M219 (t := 41) (pc' := 12) rfl rfl rfl (fun c116 => ?_) (fun c116 => ?_)
      · have B117 : sf_B 50 50 x4_115 := sf_leR c116 sf_k50 Bx4_115
        refine pm_R_lo pm_M219 (pc' := 42) rfl rfl rfl ?_
        exact pm_R_ret pm_M219 (r := some (.long y2_115)) rfl rfl (K y2_115)
      · have B118 : sf_B 0 49 x4_115 := sf_ltL (Int32.not_le.mp c116) Bx4_115 sf_k50
        refine pm_R_lo pm_M219 (pc' := 13) rfl rfl rfl ?_
        refine pm_R_lo pm_M219 (pc' := 14) rfl rfl rfl ?_
        refine pm_R_lo pm_M219 (pc' := 16) rfl rfl rfl ?_
        refine pm_R_cs pm_M219 (pc' := 19) (ra := [.int x4_115, .long a0]) (rest := [.long y2_115]) (ls' := [.long a0, pm_no, .int x4_115]) rfl rfl (Or.inl rfl) pm_M206 rfl rfl (Nat.le_of_ble_eq_true rfl) rfl rfl ?_
        refine pm_R_lo pm_M206 (pc' := 1) rfl rfl rfl ?_
        refine pm_R_lo pm_M206 (pc' := 2) rfl rfl rfl ?_
        refine sf_R_lany pm_M206 (pc' := 3) (st := []) rfl rfl rfl (fun z119 => ?_)
        refine pm_R_op pm_M206 (pc' := 4) (st' := [.long 1, .long z119]) rfl rfl rfl ?_
        refine sf_R_lany pm_M206 (pc' := 5) (st := []) rfl rfl rfl (fun z120 => ?_)
        refine pm_R_op pm_M206 (pc' := 6) (st' := [.long 1, .long z120]) rfl rfl rfl ?_
        refine sf_R_lcmp pm_M206 (pc' := 7) rfl rfl (fun z121 e122 => ?_)
        refine pm_R_ifc pm_M206 (t := 14) (pc' := 10) rfl rfl rfl (fun c123 => ?_) (fun c123 => ?_)
        · have k124 := sf_lneC e122 c123
          refine pm_R_op pm_M206 (pc' := 15) (st' := [.int 0]) rfl rfl rfl ?_
          refine pm_R_ret pm_M206 (r := some (.int 0)) rfl rfl ?_
          show pm_R _ 219 19 [.long a0, pm_no, .long y2_115, pm_no, .int x4_115] [.int 0, .long y2_115] _ _
          refine pm_R_br pm_M219 (pc' := 32) (st' := [.long y2_115]) rfl rfl ?_
          refine pm_R_op pm_M219 (pc' := 33) (st' := [.long 0, .long y2_115]) rfl rfl rfl ?_
          refine sf_R_lany pm_M219 (pc' := 34) (st := []) rfl rfl rfl (fun z125 => ?_)
          refine pm_R_lo pm_M219 (pc' := 35) (ls' := [.long a0, pm_no, .long z125, pm_no, .int x4_115]) (st' := []) rfl rfl rfl ?_
          refine sf_R_iinc pm_M219 (pc' := 38) (ls' := fun z => [.long a0, pm_no, .long z125, pm_no, .int z]) rfl B118 rfl (by decide) (by decide) (by decide) (fun _ => rfl) rfl (fun z126 e127 B128 => ?_)
          show pm_R _ 219 38 [.long a0, pm_no, .long z125, pm_no, .int z126] [] _ _
          refine pm_R_br pm_M219 (pc' := 5) rfl rfl ?_
          exact ih_115 _ (sf_up hN_115 e127 B118 (by decide) (by decide)) z126 z125 (sf_weak B128 (by decide) (by decide)) rfl
        · have B129 : sf_B 0 0 z121 := sf_eqL (Classical.not_not.mp c123) sf_k0
          refine pm_R_op pm_M206 (pc' := 11) (st' := [.int 1]) rfl rfl rfl ?_
          refine pm_R_br pm_M206 (pc' := 15) rfl rfl ?_
          refine pm_R_ret pm_M206 (r := some (.int 1)) rfl rfl ?_
          show pm_R _ 219 19 [.long a0, pm_no, .long y2_115, pm_no, .int x4_115] [.int 1, .long y2_115] _ _
          refine pm_R_br pm_M219 (pc' := 22) (st' := [.long y2_115]) rfl rfl ?_
          refine pm_R_op pm_M219 (pc' := 23) (st' := [.long 1, .long y2_115]) rfl rfl rfl ?_
          refine pm_R_op pm_M219 (pc' := 25) (st' := [.int 49, .long 1, .long y2_115]) rfl rfl rfl ?_
          refine pm_R_lo pm_M219 (pc' := 27) rfl rfl rfl ?_
          refine sf_R_isub pm_M219 (pc' := 28) rfl rfl sf_k49 B118 (by decide) (by decide) (fun z130 e131 B132 => ?_)
          refine sf_R_lany pm_M219 (pc' := 29) (st := [.long y2_115]) rfl rfl rfl (fun z133 => ?_)
          refine pm_R_br pm_M219 (pc' := 33) rfl rfl ?_
          refine sf_R_lany pm_M219 (pc' := 34) (st := []) rfl rfl rfl (fun z134 => ?_)
          refine pm_R_lo pm_M219 (pc' := 35) (ls' := [.long a0, pm_no, .long z134, pm_no, .int x4_115]) (st' := []) rfl rfl rfl ?_
          refine sf_R_iinc pm_M219 (pc' := 38) (ls' := fun z => [.long a0, pm_no, .long z134, pm_no, .int z]) rfl B118 rfl (by decide) (by decide) (by decide) (fun _ => rfl) rfl (fun z135 e136 B137 => ?_)
          show pm_R _ 219 38 [.long a0, pm_no, .long z134, pm_no, .int z135] [] _ _
          refine pm_R_br pm_M219 (pc' := 5) rfl rfl ?_
          exact ih_115 _ (sf_up hN_115 e136 B118 (by decide) (by decide)) z135 z134 (sf_weak B137 (by decide) (by decide)) rfl
  exact L_115 _ 0 0 (sf_weak sf_k0 (by decide) (by decide)) rfl

set_option maxRecDepth 100000 in
set_option maxHeartbeats 4000000 in
/-- SilentTableModel.made -/
theorem rf_c218 {d : Nat} {h : pm_H} {Q : Option Value → pm_H → Prop} {a0 : Int32} {a1 : Int64} {a2 : Int64}   (K : ∀ (r : Int64), Q (some (.long r)) h) : pm_R (d + 2) 218 0 [.int a0, .long a1, pm_no, .long a2, pm_no, pm_no, pm_no, pm_no] [] h Q := by
  refine pm_R_lo pm_M218 (pc' := 1) rfl rfl rfl ?_
  refine pm_R_op pm_M218 (pc' := 2) (st' := [.long 0, .long a1]) rfl rfl rfl ?_
  refine sf_R_lcmp pm_M218 (pc' := 3) rfl rfl (fun z1 e2 => ?_)
  refine pm_R_ifc pm_M218 (t := 12) (pc' := 6) rfl rfl rfl (fun c3 => ?_) (fun c3 => ?_)
  · have B4 : sf_B 0 0 z1 := sf_eqL c3 sf_k0
    refine pm_R_op pm_M218 (pc' := 13) (st' := [.long 0]) rfl rfl rfl ?_
    exact pm_R_ret pm_M218 (r := some (.long 0)) rfl rfl (K 0)
  · have k5 := sf_lneC e2 c3
    refine pm_R_lo pm_M218 (pc' := 7) rfl rfl rfl ?_
    refine pm_R_op pm_M218 (pc' := 8) (st' := [.long 0, .long a2]) rfl rfl rfl ?_
    refine sf_R_lcmp pm_M218 (pc' := 9) rfl rfl (fun z6 e7 => ?_)
    refine pm_R_ifc pm_M218 (t := 14) (pc' := 12) rfl rfl rfl (fun c8 => ?_) (fun c8 => ?_)
    · have k9 := sf_lneC e7 c8
      refine pm_R_lo pm_M218 (pc' := 15) rfl rfl rfl ?_
      refine pm_R_ifc pm_M218 (t := 23) (pc' := 18) rfl rfl rfl (fun c10 => ?_) (fun c10 => ?_)
      · have B11 : sf_B 0 0 a0 := sf_eqL c10 sf_k0
        refine pm_R_lo pm_M218 (pc' := 24) rfl rfl rfl ?_
        refine pm_R_ifc pm_M218 (t := 31) (pc' := 27) rfl rfl rfl (fun c12 => absurd (sf_pt2 B11 sf_k0) c12) (fun c12 => ?_)
        refine pm_R_lo pm_M218 (pc' := 28) rfl rfl rfl ?_
        refine pm_R_br pm_M218 (pc' := 32) rfl rfl ?_
        exact pm_R_ret pm_M218 (r := some (.long a1)) rfl rfl (K a1)
      · skip
        refine pm_R_lo pm_M218 (pc' := 19) rfl rfl rfl ?_
        refine pm_R_op pm_M218 (pc' := 20) (st' := [.int 1, .int a0]) rfl rfl rfl ?_
        refine pm_R_icmp pm_M218 (t := 33) (pc' := 23) rfl rfl rfl (fun c13 => ?_) (fun c13 => ?_)
        · skip
          refine pm_R_lo pm_M218 (pc' := 34) rfl rfl rfl ?_
          refine pm_R_op pm_M218 (pc' := 35) (st' := [.int 4, .int a0]) rfl rfl rfl ?_
          refine pm_R_icmp pm_M218 (t := 43) (pc' := 38) rfl rfl rfl (fun c14 => ?_) (fun c14 => ?_)
          · skip
            refine pm_R_op pm_M218 (pc' := 44) (st' := [.long 0]) rfl rfl rfl ?_
            refine pm_R_lo pm_M218 (pc' := 46) (ls' := [.int a0, .long a1, pm_no, .long a2, pm_no, .long 0, pm_no, pm_no]) (st' := []) rfl rfl rfl ?_
            refine pm_R_op pm_M218 (pc' := 47) (st' := [.int 0]) rfl rfl rfl ?_
            refine pm_R_lo pm_M218 (pc' := 49) (ls' := [.int a0, .long a1, pm_no, .long a2, pm_no, .long 0, pm_no, .int 0]) (st' := []) rfl rfl rfl ?_
            have L_278 : ∀ (N : Nat) (x7_278 : Int32) (y5_278 : Int64), sf_B 0 50 x7_278 → (50 - x7_278.toInt).toNat = N → pm_R (d + 2) 218 49 [.int a0, .long a1, pm_no, .long a2, pm_no, .long y5_278, pm_no, .int x7_278] [] h Q := by
              intro N
              induction N using Nat.strongRecOn with
              | ind N ih_278 =>
                intro x7_278 y5_278 Bx7_278 hN_278
                refine pm_R_lo pm_M218 (pc' := 51) rfl rfl rfl ?_
                refine pm_R_op pm_M218 (pc' := 53) (st' := [.int 50, .int x7_278]) rfl rfl rfl ?_
                refine pm_R_icmp pm_M218 (t := 104) (pc' := 56) rfl rfl rfl (fun c279 => ?_) (fun c279 => ?_)
                · have B280 : sf_B 50 50 x7_278 := sf_leR c279 sf_k50 Bx7_278
                  refine pm_R_lo pm_M218 (pc' := 106) rfl rfl rfl ?_
                  exact pm_R_ret pm_M218 (r := some (.long y5_278)) rfl rfl (K y5_278)
                · have B281 : sf_B 0 49 x7_278 := sf_ltL (Int32.not_le.mp c279) Bx7_278 sf_k50
                  refine pm_R_lo pm_M218 (pc' := 58) rfl rfl rfl ?_
                  refine pm_R_lo pm_M218 (pc' := 59) rfl rfl rfl ?_
                  refine pm_R_lo pm_M218 (pc' := 61) rfl rfl rfl ?_
                  refine pm_R_cs pm_M218 (pc' := 64) (ra := [.int x7_278, .long a2]) (rest := [.long y5_278]) (ls' := [.long a2, pm_no, .int x7_278]) rfl rfl (Or.inl rfl) pm_M206 rfl rfl (Nat.le_of_ble_eq_true rfl) rfl rfl ?_
                  refine pm_R_lo pm_M206 (pc' := 1) rfl rfl rfl ?_
                  refine pm_R_lo pm_M206 (pc' := 2) rfl rfl rfl ?_
                  refine sf_R_lany pm_M206 (pc' := 3) (st := []) rfl rfl rfl (fun z282 => ?_)
                  refine pm_R_op pm_M206 (pc' := 4) (st' := [.long 1, .long z282]) rfl rfl rfl ?_
                  refine sf_R_lany pm_M206 (pc' := 5) (st := []) rfl rfl rfl (fun z283 => ?_)
                  refine pm_R_op pm_M206 (pc' := 6) (st' := [.long 1, .long z283]) rfl rfl rfl ?_
                  refine sf_R_lcmp pm_M206 (pc' := 7) rfl rfl (fun z284 e285 => ?_)
                  refine pm_R_ifc pm_M206 (t := 14) (pc' := 10) rfl rfl rfl (fun c286 => ?_) (fun c286 => ?_)
                  · have k287 := sf_lneC e285 c286
                    refine pm_R_op pm_M206 (pc' := 15) (st' := [.int 0]) rfl rfl rfl ?_
                    refine pm_R_ret pm_M206 (r := some (.int 0)) rfl rfl ?_
                    show pm_R _ 218 64 [.int a0, .long a1, pm_no, .long a2, pm_no, .long y5_278, pm_no, .int x7_278] [.int 0, .long y5_278] _ _
                    refine pm_R_br pm_M218 (pc' := 94) (st' := [.long y5_278]) rfl rfl ?_
                    refine pm_R_op pm_M218 (pc' := 95) (st' := [.long 0, .long y5_278]) rfl rfl rfl ?_
                    refine sf_R_lany pm_M218 (pc' := 96) (st := []) rfl rfl rfl (fun z288 => ?_)
                    refine pm_R_lo pm_M218 (pc' := 98) (ls' := [.int a0, .long a1, pm_no, .long a2, pm_no, .long z288, pm_no, .int x7_278]) (st' := []) rfl rfl rfl ?_
                    refine sf_R_iinc pm_M218 (pc' := 101) (ls' := fun z => [.int a0, .long a1, pm_no, .long a2, pm_no, .long z288, pm_no, .int z]) rfl B281 rfl (by decide) (by decide) (by decide) (fun _ => rfl) rfl (fun z289 e290 B291 => ?_)
                    show pm_R _ 218 101 [.int a0, .long a1, pm_no, .long a2, pm_no, .long z288, pm_no, .int z289] [] _ _
                    refine pm_R_br pm_M218 (pc' := 49) rfl rfl ?_
                    exact ih_278 _ (sf_up hN_278 e290 B281 (by decide) (by decide)) z289 z288 (sf_weak B291 (by decide) (by decide)) rfl
                  · have B292 : sf_B 0 0 z284 := sf_eqL (Classical.not_not.mp c286) sf_k0
                    refine pm_R_op pm_M206 (pc' := 11) (st' := [.int 1]) rfl rfl rfl ?_
                    refine pm_R_br pm_M206 (pc' := 15) rfl rfl ?_
                    refine pm_R_ret pm_M206 (r := some (.int 1)) rfl rfl ?_
                    show pm_R _ 218 64 [.int a0, .long a1, pm_no, .long a2, pm_no, .long y5_278, pm_no, .int x7_278] [.int 1, .long y5_278] _ _
                    refine pm_R_br pm_M218 (pc' := 67) (st' := [.long y5_278]) rfl rfl ?_
                    refine pm_R_lo pm_M218 (pc' := 68) rfl rfl rfl ?_
                    refine pm_R_lo pm_M218 (pc' := 69) rfl rfl rfl ?_
                    refine pm_R_op pm_M218 (pc' := 70) (st' := [.int 2, .int a0, .long a1, .long y5_278]) rfl rfl rfl ?_
                    refine pm_R_icmp pm_M218 (t := 78) (pc' := 73) rfl rfl rfl (fun c293 => ?_) (fun c293 => ?_)
                    · have B294 : sf_B 2 2 a0 := sf_eqL c293 sf_k2
                      refine pm_R_lo pm_M218 (pc' := 80) rfl rfl rfl ?_
                      refine pm_R_br pm_M218 (pc' := 88) rfl rfl ?_
                      refine pm_R_cs pm_M218 (pc' := 91) (ra := [.int x7_278, .long a1]) (rest := [.long y5_278]) (ls' := [.long a1, pm_no, .int x7_278]) rfl rfl (Or.inl rfl) pm_M220 rfl rfl (Nat.le_of_ble_eq_true rfl) rfl rfl ?_
                      refine pm_R_lo pm_M220 (pc' := 1) rfl rfl rfl ?_
                      refine pm_R_lo pm_M220 (pc' := 2) rfl rfl rfl ?_
                      refine sf_R_lany pm_M220 (pc' := 3) (st := []) rfl rfl rfl (fun z295 => ?_)
                      refine pm_R_lo pm_M220 (pc' := 4) rfl rfl rfl ?_
                      refine pm_R_op pm_M220 (pc' := 6) (st' := [.int 50, .long a1, .long z295]) rfl rfl rfl ?_
                      refine pm_R_lo pm_M220 (pc' := 7) rfl rfl rfl ?_
                      refine sf_R_isub pm_M220 (pc' := 8) rfl rfl sf_k50 B281 (by decide) (by decide) (fun z296 e297 B298 => ?_)
                      refine sf_R_lany pm_M220 (pc' := 9) (st := [.long z295]) rfl rfl rfl (fun z299 => ?_)
                      refine sf_R_lany pm_M220 (pc' := 10) (st := []) rfl rfl rfl (fun z300 => ?_)
                      refine pm_R_ldc2 pm_M220 (pc' := 13) rfl rfl rfl ?_
                      refine sf_R_lany pm_M220 (pc' := 14) (st := []) rfl rfl rfl (fun z301 => ?_)
                      refine pm_R_ret pm_M220 (r := some (.long z301)) rfl rfl ?_
                      show pm_R _ 218 91 [.int a0, .long a1, pm_no, .long a2, pm_no, .long y5_278, pm_no, .int x7_278] [.long z301, .long y5_278] _ _
                      refine pm_R_br pm_M218 (pc' := 95) rfl rfl ?_
                      refine sf_R_lany pm_M218 (pc' := 96) (st := []) rfl rfl rfl (fun z302 => ?_)
                      refine pm_R_lo pm_M218 (pc' := 98) (ls' := [.int a0, .long a1, pm_no, .long a2, pm_no, .long z302, pm_no, .int x7_278]) (st' := []) rfl rfl rfl ?_
                      refine sf_R_iinc pm_M218 (pc' := 101) (ls' := fun z => [.int a0, .long a1, pm_no, .long a2, pm_no, .long z302, pm_no, .int z]) rfl B281 rfl (by decide) (by decide) (by decide) (fun _ => rfl) rfl (fun z303 e304 B305 => ?_)
                      show pm_R _ 218 101 [.int a0, .long a1, pm_no, .long a2, pm_no, .long z302, pm_no, .int z303] [] _ _
                      refine pm_R_br pm_M218 (pc' := 49) rfl rfl ?_
                      exact ih_278 _ (sf_up hN_278 e304 B281 (by decide) (by decide)) z303 z302 (sf_weak B305 (by decide) (by decide)) rfl
                    · skip
                      refine pm_R_lo pm_M218 (pc' := 75) rfl rfl rfl ?_
                      refine pm_R_ifc pm_M218 (t := 83) (pc' := 78) rfl rfl rfl (fun c306 => ?_) (fun c306 => ?_)
                      · have B307 : sf_B 1 49 x7_278 := sf_neL0 c306 sf_k0 B281
                        refine pm_R_op pm_M218 (pc' := 85) (st' := [.int 50, .long a1, .long y5_278]) rfl rfl rfl ?_
                        refine pm_R_lo pm_M218 (pc' := 87) rfl rfl rfl ?_
                        refine sf_R_isub pm_M218 (pc' := 88) rfl rfl sf_k50 B307 (by decide) (by decide) (fun z308 e309 B310 => ?_)
                        refine pm_R_cs pm_M218 (pc' := 91) (ra := [.int z308, .long a1]) (rest := [.long y5_278]) (ls' := [.long a1, pm_no, .int z308]) rfl rfl (Or.inl rfl) pm_M220 rfl rfl (Nat.le_of_ble_eq_true rfl) rfl rfl ?_
                        refine pm_R_lo pm_M220 (pc' := 1) rfl rfl rfl ?_
                        refine pm_R_lo pm_M220 (pc' := 2) rfl rfl rfl ?_
                        refine sf_R_lany pm_M220 (pc' := 3) (st := []) rfl rfl rfl (fun z311 => ?_)
                        refine pm_R_lo pm_M220 (pc' := 4) rfl rfl rfl ?_
                        refine pm_R_op pm_M220 (pc' := 6) (st' := [.int 50, .long a1, .long z311]) rfl rfl rfl ?_
                        refine pm_R_lo pm_M220 (pc' := 7) rfl rfl rfl ?_
                        refine sf_R_isub pm_M220 (pc' := 8) rfl rfl sf_k50 B310 (by decide) (by decide) (fun z312 e313 B314 => ?_)
                        refine sf_R_lany pm_M220 (pc' := 9) (st := [.long z311]) rfl rfl rfl (fun z315 => ?_)
                        refine sf_R_lany pm_M220 (pc' := 10) (st := []) rfl rfl rfl (fun z316 => ?_)
                        refine pm_R_ldc2 pm_M220 (pc' := 13) rfl rfl rfl ?_
                        refine sf_R_lany pm_M220 (pc' := 14) (st := []) rfl rfl rfl (fun z317 => ?_)
                        refine pm_R_ret pm_M220 (r := some (.long z317)) rfl rfl ?_
                        show pm_R _ 218 91 [.int a0, .long a1, pm_no, .long a2, pm_no, .long y5_278, pm_no, .int x7_278] [.long z317, .long y5_278] _ _
                        refine pm_R_br pm_M218 (pc' := 95) rfl rfl ?_
                        refine sf_R_lany pm_M218 (pc' := 96) (st := []) rfl rfl rfl (fun z318 => ?_)
                        refine pm_R_lo pm_M218 (pc' := 98) (ls' := [.int a0, .long a1, pm_no, .long a2, pm_no, .long z318, pm_no, .int x7_278]) (st' := []) rfl rfl rfl ?_
                        refine sf_R_iinc pm_M218 (pc' := 101) (ls' := fun z => [.int a0, .long a1, pm_no, .long a2, pm_no, .long z318, pm_no, .int z]) rfl B307 rfl (by decide) (by decide) (by decide) (fun _ => rfl) rfl (fun z319 e320 B321 => ?_)
                        show pm_R _ 218 101 [.int a0, .long a1, pm_no, .long a2, pm_no, .long z318, pm_no, .int z319] [] _ _
                        refine pm_R_br pm_M218 (pc' := 49) rfl rfl ?_
                        exact ih_278 _ (sf_up hN_278 e320 B307 (by decide) (by decide)) z319 z318 (sf_weak B321 (by decide) (by decide)) rfl
                      · have B322 : sf_B 0 0 x7_278 := sf_eqL (Classical.not_not.mp c306) sf_k0
                        refine pm_R_lo pm_M218 (pc' := 80) rfl rfl rfl ?_
                        refine pm_R_br pm_M218 (pc' := 88) rfl rfl ?_
                        refine pm_R_cs pm_M218 (pc' := 91) (ra := [.int x7_278, .long a1]) (rest := [.long y5_278]) (ls' := [.long a1, pm_no, .int x7_278]) rfl rfl (Or.inl rfl) pm_M220 rfl rfl (Nat.le_of_ble_eq_true rfl) rfl rfl ?_
                        refine pm_R_lo pm_M220 (pc' := 1) rfl rfl rfl ?_
                        refine pm_R_lo pm_M220 (pc' := 2) rfl rfl rfl ?_
                        refine sf_R_lany pm_M220 (pc' := 3) (st := []) rfl rfl rfl (fun z323 => ?_)
                        refine pm_R_lo pm_M220 (pc' := 4) rfl rfl rfl ?_
                        refine pm_R_op pm_M220 (pc' := 6) (st' := [.int 50, .long a1, .long z323]) rfl rfl rfl ?_
                        refine pm_R_lo pm_M220 (pc' := 7) rfl rfl rfl ?_
                        refine sf_R_isub pm_M220 (pc' := 8) rfl rfl sf_k50 B322 (by decide) (by decide) (fun z324 e325 B326 => ?_)
                        refine sf_R_lany pm_M220 (pc' := 9) (st := [.long z323]) rfl rfl rfl (fun z327 => ?_)
                        refine sf_R_lany pm_M220 (pc' := 10) (st := []) rfl rfl rfl (fun z328 => ?_)
                        refine pm_R_ldc2 pm_M220 (pc' := 13) rfl rfl rfl ?_
                        refine sf_R_lany pm_M220 (pc' := 14) (st := []) rfl rfl rfl (fun z329 => ?_)
                        refine pm_R_ret pm_M220 (r := some (.long z329)) rfl rfl ?_
                        show pm_R _ 218 91 [.int a0, .long a1, pm_no, .long a2, pm_no, .long y5_278, pm_no, .int x7_278] [.long z329, .long y5_278] _ _
                        refine pm_R_br pm_M218 (pc' := 95) rfl rfl ?_
                        refine sf_R_lany pm_M218 (pc' := 96) (st := []) rfl rfl rfl (fun z330 => ?_)
                        refine pm_R_lo pm_M218 (pc' := 98) (ls' := [.int a0, .long a1, pm_no, .long a2, pm_no, .long z330, pm_no, .int x7_278]) (st' := []) rfl rfl rfl ?_
                        refine sf_R_iinc pm_M218 (pc' := 101) (ls' := fun z => [.int a0, .long a1, pm_no, .long a2, pm_no, .long z330, pm_no, .int z]) rfl B322 rfl (by decide) (by decide) (by decide) (fun _ => rfl) rfl (fun z331 e332 B333 => ?_)
                        show pm_R _ 218 101 [.int a0, .long a1, pm_no, .long a2, pm_no, .long z330, pm_no, .int z331] [] _ _
                        refine pm_R_br pm_M218 (pc' := 49) rfl rfl ?_
                        exact ih_278 _ (sf_up hN_278 e332 B322 (by decide) (by decide)) z331 z330 (sf_weak B333 (by decide) (by decide)) rfl
            exact L_278 _ 0 0 (sf_weak sf_k0 (by decide) (by decide)) rfl
          · have B334 : sf_B 4 4 a0 := sf_eqL (Classical.not_not.mp c14) sf_k4
            refine pm_R_lo pm_M218 (pc' := 39) rfl rfl rfl ?_
            refine pm_R_cs pm_M218 (pc' := 42) (ra := [.long a2]) (rest := []) (ls' := [.long a2, pm_no, pm_no, pm_no, pm_no]) rfl rfl (Or.inl rfl) pm_M219 rfl rfl (Nat.le_of_ble_eq_true rfl) rfl rfl ?_
            refine rf_c219 (d := d + 0)  (fun r335 => ?_)
            show pm_R _ 218 42 [.int a0, .long a1, pm_no, .long a2, pm_no, pm_no, pm_no, pm_no] [.long r335] _ _
            exact pm_R_ret pm_M218 (r := some (.long r335)) rfl rfl (K r335)
        · have B343 : sf_B 1 1 a0 := sf_eqL (Classical.not_not.mp c13) sf_k1
          refine pm_R_lo pm_M218 (pc' := 24) rfl rfl rfl ?_
          refine pm_R_ifc pm_M218 (t := 31) (pc' := 27) rfl rfl rfl (fun c344 => ?_) (fun c344 => absurd (Classical.not_not.mp c344) (sf_neq1 B343 sf_k0 (by decide)))
          skip
          refine pm_R_lo pm_M218 (pc' := 32) rfl rfl rfl ?_
          exact pm_R_ret pm_M218 (r := some (.long a2)) rfl rfl (K a2)
    · have B345 : sf_B 0 0 z6 := sf_eqL (Classical.not_not.mp c8) sf_k0
      refine pm_R_op pm_M218 (pc' := 13) (st' := [.long 0]) rfl rfl rfl ?_
      exact pm_R_ret pm_M218 (r := some (.long 0)) rfl rfl (K 0)

set_option maxRecDepth 100000 in
set_option maxHeartbeats 4000000 in
/-- SilentTableModel.tell -/
theorem rf_c221 {d : Nat} {h : pm_H} {Q : Option Value → pm_H → Prop} {a0 : Int64} {a1 : Int32}   (K : ∀ (r : Int32), sf_B (-2) 50 r → Q (some (.int r)) h) : pm_R (d + 2) 221 0 [.long a0, pm_no, .int a1, pm_no, pm_no] [] h Q := by
  refine pm_R_lo pm_M221 (pc' := 1) rfl rfl rfl ?_
  refine pm_R_op pm_M221 (pc' := 2) (st' := [.int (-1), .int a1]) rfl rfl rfl ?_
  refine pm_R_icmp pm_M221 (t := 10) (pc' := 5) rfl rfl rfl (fun c1 => ?_) (fun c1 => ?_)
  · skip
    refine pm_R_lo pm_M221 (pc' := 11) rfl rfl rfl ?_
    refine pm_R_lo pm_M221 (pc' := 12) (ls' := [.long a0, pm_no, .int a1, .int a1, pm_no]) (st' := []) rfl rfl rfl ?_
    refine pm_R_op pm_M221 (pc' := 13) (st' := [.int 0]) rfl rfl rfl ?_
    refine pm_R_lo pm_M221 (pc' := 15) (ls' := [.long a0, pm_no, .int a1, .int a1, .int 0]) (st' := []) rfl rfl rfl ?_
    have L_116 : ∀ (N : Nat) (x3_116 : Int32) (x4_116 : Int32), sf_B (-2147483648) 2147483647 x3_116 → sf_B 0 50 x4_116 → (50 - x4_116.toInt).toNat = N → pm_R (d + 2) 221 15 [.long a0, pm_no, .int a1, .int x3_116, .int x4_116] [] h Q := by
      intro N
      induction N using Nat.strongRecOn with
      | ind N ih_116 =>
        intro x3_116 x4_116 Bx3_116 Bx4_116 hN_116
        refine pm_R_lo pm_M221 (pc' := 17) rfl rfl rfl ?_
        refine pm_R_op pm_M221 (pc' := 19) (st' := [.int 50, .int x4_116]) rfl rfl rfl ?_
        refine pm_R_icmp pm_M221 (t := 51) (pc' := 22) rfl rfl rfl (fun c117 => ?_) (fun c117 => ?_)
        · have B118 : sf_B 50 50 x4_116 := sf_leR c117 sf_k50 Bx4_116
          refine pm_R_op pm_M221 (pc' := 53) (st' := [.int (-2)]) rfl rfl rfl ?_
          exact pm_R_ret pm_M221 (r := some (.int (-2))) rfl rfl (K (-2) (sf_weak sf_kn2 (by decide) (by decide)))
        · have B119 : sf_B 0 49 x4_116 := sf_ltL (Int32.not_le.mp c117) Bx4_116 sf_k50
          refine pm_R_lo pm_M221 (pc' := 23) rfl rfl rfl ?_
          refine pm_R_ifc pm_M221 (t := 51) (pc' := 26) rfl rfl rfl (fun c120 => ?_) (fun c120 => ?_)
          · have B121 : sf_B (-2147483648) (-1) a1 := sf_ltL c120 (sf_any a1) sf_k0
            refine pm_R_op pm_M221 (pc' := 53) (st' := [.int (-2)]) rfl rfl rfl ?_
            exact pm_R_ret pm_M221 (r := some (.int (-2))) rfl rfl (K (-2) (sf_weak sf_kn2 (by decide) (by decide)))
          · have B122 : sf_B 0 2147483647 a1 := sf_leR (Int32.not_lt.mp c120) sf_k0 (sf_any a1)
            refine pm_R_lo pm_M221 (pc' := 27) rfl rfl rfl ?_
            refine pm_R_lo pm_M221 (pc' := 29) rfl rfl rfl ?_
            refine pm_R_cs pm_M221 (pc' := 32) (ra := [.int x4_116, .long a0]) (rest := []) (ls' := [.long a0, pm_no, .int x4_116]) rfl rfl (Or.inl rfl) pm_M206 rfl rfl (Nat.le_of_ble_eq_true rfl) rfl rfl ?_
            refine pm_R_lo pm_M206 (pc' := 1) rfl rfl rfl ?_
            refine pm_R_lo pm_M206 (pc' := 2) rfl rfl rfl ?_
            refine sf_R_lany pm_M206 (pc' := 3) (st := []) rfl rfl rfl (fun z123 => ?_)
            refine pm_R_op pm_M206 (pc' := 4) (st' := [.long 1, .long z123]) rfl rfl rfl ?_
            refine sf_R_lany pm_M206 (pc' := 5) (st := []) rfl rfl rfl (fun z124 => ?_)
            refine pm_R_op pm_M206 (pc' := 6) (st' := [.long 1, .long z124]) rfl rfl rfl ?_
            refine sf_R_lcmp pm_M206 (pc' := 7) rfl rfl (fun z125 e126 => ?_)
            refine pm_R_ifc pm_M206 (t := 14) (pc' := 10) rfl rfl rfl (fun c127 => ?_) (fun c127 => ?_)
            · have k128 := sf_lneC e126 c127
              refine pm_R_op pm_M206 (pc' := 15) (st' := [.int 0]) rfl rfl rfl ?_
              refine pm_R_ret pm_M206 (r := some (.int 0)) rfl rfl ?_
              show pm_R _ 221 32 [.long a0, pm_no, .int a1, .int x3_116, .int x4_116] [.int 0] _ _
              refine pm_R_br pm_M221 (pc' := 45) (st' := []) rfl rfl ?_
              refine sf_R_iinc pm_M221 (pc' := 48) (ls' := fun z => [.long a0, pm_no, .int a1, .int x3_116, .int z]) rfl B119 rfl (by decide) (by decide) (by decide) (fun _ => rfl) rfl (fun z129 e130 B131 => ?_)
              show pm_R _ 221 48 [.long a0, pm_no, .int a1, .int x3_116, .int z129] [] _ _
              refine pm_R_br pm_M221 (pc' := 15) rfl rfl ?_
              exact ih_116 _ (sf_up hN_116 e130 B119 (by decide) (by decide)) x3_116 z129 Bx3_116 (sf_weak B131 (by decide) (by decide)) rfl
            · have B132 : sf_B 0 0 z125 := sf_eqL (Classical.not_not.mp c127) sf_k0
              refine pm_R_op pm_M206 (pc' := 11) (st' := [.int 1]) rfl rfl rfl ?_
              refine pm_R_br pm_M206 (pc' := 15) rfl rfl ?_
              refine pm_R_ret pm_M206 (r := some (.int 1)) rfl rfl ?_
              show pm_R _ 221 32 [.long a0, pm_no, .int a1, .int x3_116, .int x4_116] [.int 1] _ _
              refine pm_R_br pm_M221 (pc' := 35) (st' := []) rfl rfl ?_
              refine pm_R_lo pm_M221 (pc' := 36) rfl rfl rfl ?_
              refine pm_R_ifc pm_M221 (t := 42) (pc' := 39) rfl rfl rfl (fun c133 => ?_) (fun c133 => ?_)
              · skip
                refine sf_R_iincA pm_M221 (pc' := 45) (ls' := fun z => [.long a0, pm_no, .int a1, .int z, .int x4_116]) rfl rfl (fun _ => rfl) rfl (fun z134 => ?_)
                show pm_R _ 221 45 [.long a0, pm_no, .int a1, .int z134, .int x4_116] [] _ _
                refine sf_R_iinc pm_M221 (pc' := 48) (ls' := fun z => [.long a0, pm_no, .int a1, .int z134, .int z]) rfl B119 rfl (by decide) (by decide) (by decide) (fun _ => rfl) rfl (fun z135 e136 B137 => ?_)
                show pm_R _ 221 48 [.long a0, pm_no, .int a1, .int z134, .int z135] [] _ _
                refine pm_R_br pm_M221 (pc' := 15) rfl rfl ?_
                exact ih_116 _ (sf_up hN_116 e136 B119 (by decide) (by decide)) z134 z135 (sf_any z134) (sf_weak B137 (by decide) (by decide)) rfl
              · have B138 : sf_B 0 0 x3_116 := sf_eqL (Classical.not_not.mp c133) sf_k0
                refine pm_R_lo pm_M221 (pc' := 41) rfl rfl rfl ?_
                exact pm_R_ret pm_M221 (r := some (.int x4_116)) rfl (pm_ret_i _) (K x4_116 (sf_weak B119 (by decide) (by decide)))
    exact L_116 _ a1 0 (sf_any a1) (sf_weak sf_k0 (by decide) (by decide)) rfl
  · have B139 : sf_B (-1) (-1) a1 := sf_eqL (Classical.not_not.mp c1) sf_kn1
    refine pm_R_lo pm_M221 (pc' := 6) rfl rfl rfl ?_
    refine pm_R_cs pm_M221 (pc' := 9) (ra := [.long a0]) (rest := []) (ls' := [.long a0, pm_no, pm_no, pm_no]) rfl rfl (Or.inl rfl) pm_M222 rfl rfl (Nat.le_of_ble_eq_true rfl) rfl rfl ?_
    refine rf_c222 (d := d + 0)  (fun r140 B141 => ?_)
    show pm_R _ 221 9 [.long a0, pm_no, .int a1, pm_no, pm_no] [.int r140] _ _
    exact pm_R_ret pm_M221 (r := some (.int r140)) rfl (pm_ret_i _) (K r140 (sf_weak B141 (by decide) (by decide)))

set_option maxRecDepth 100000 in
set_option maxHeartbeats 4000000 in
/-- SilentTableModel.rowsOf -/
theorem rf_c242 {d : Nat} {h : pm_H} {Q : Option Value → pm_H → Prop} {a0 : Int32}  (Ba0 : sf_B 0 4 a0) (K : ∀ (r : Int32), Q (some (.int r)) h) : pm_R (d + 0) 242 0 [.int a0, pm_no, pm_no] [] h Q := by
  refine pm_R_op pm_M242 (pc' := 1) (st' := [.int 1]) rfl rfl rfl ?_
  refine pm_R_lo pm_M242 (pc' := 2) (ls' := [.int a0, .int 1, pm_no]) (st' := []) rfl rfl rfl ?_
  refine pm_R_op pm_M242 (pc' := 3) (st' := [.int 0]) rfl rfl rfl ?_
  refine pm_R_lo pm_M242 (pc' := 4) (ls' := [.int a0, .int 1, .int 0]) (st' := []) rfl rfl rfl ?_
  have L_59 : ∀ (N : Nat) (x1_59 : Int32) (x2_59 : Int32), sf_B (-2147483648) 2147483647 x1_59 → sf_B 0 4 x2_59 → (4 - x2_59.toInt).toNat = N → pm_R (d + 0) 242 4 [.int a0, .int x1_59, .int x2_59] [] h Q := by
    intro N
    induction N using Nat.strongRecOn with
    | ind N ih_59 =>
      intro x1_59 x2_59 Bx1_59 Bx2_59 hN_59
      refine pm_R_lo pm_M242 (pc' := 5) rfl rfl rfl ?_
      refine pm_R_lo pm_M242 (pc' := 6) rfl rfl rfl ?_
      refine pm_R_icmp pm_M242 (t := 20) (pc' := 9) rfl rfl rfl (fun c60 => ?_) (fun c60 => ?_)
      · skip
        refine pm_R_lo pm_M242 (pc' := 21) rfl rfl rfl ?_
        exact pm_R_ret pm_M242 (r := some (.int x1_59)) rfl (pm_ret_i _) (K x1_59)
      · have B61 : sf_B 0 3 x2_59 := sf_ltL (Int32.not_le.mp c60) Bx2_59 Ba0
        have B62 : sf_B 1 4 a0 := sf_ltR (Int32.not_le.mp c60) Bx2_59 Ba0
        refine pm_R_lo pm_M242 (pc' := 10) rfl rfl rfl ?_
        refine pm_R_op pm_M242 (pc' := 12) (st' := [.int 10, .int x1_59]) rfl rfl rfl ?_
        refine sf_R_iany pm_M242 (pc' := 13) (st := []) rfl rfl rfl (fun z66 => ?_)
        refine pm_R_lo pm_M242 (pc' := 14) (ls' := [.int a0, .int z66, .int x2_59]) (st' := []) rfl rfl rfl ?_
        refine sf_R_iinc pm_M242 (pc' := 17) (ls' := fun z => [.int a0, .int z66, .int z]) rfl B61 rfl (by decide) (by decide) (by decide) (fun _ => rfl) rfl (fun z67 e68 B69 => ?_)
        show pm_R _ 242 17 [.int a0, .int z66, .int z67] [] _ _
        refine pm_R_br pm_M242 (pc' := 4) rfl rfl ?_
        exact ih_59 _ (sf_up hN_59 e68 B61 (by decide) (by decide)) z66 z67 (sf_any z66) (sf_weak B69 (by decide) (by decide)) rfl
  exact L_59 _ 1 0 (sf_weak sf_k1 (by decide) (by decide)) (sf_weak sf_k0 (by decide) (by decide)) rfl

set_option maxRecDepth 100000 in
set_option maxHeartbeats 4000000 in
/-- SilentTableModel.valuesOf -/
theorem rf_c217 {d : Nat} {m : Nat → Int32} {w : Int64} {h : pm_H} {Q : Option Value → pm_H → Prop} {a0 : Int32} {a1 : Int32} {a2 : Int32} (T : rf_T m w h) (Ba0 : sf_B 0 5 a0) (Ba1 : sf_B 0 11 a1) (Ba2 : sf_B 0 11 a2) (K : ∀ (r : Int64), Q (some (.long r)) h) : pm_R (d + 3) 217 0 [.ref 41, .int a0, .int a1, .int a2, pm_no, pm_no, pm_no, pm_no] [] h Q := by
  refine pm_R_op pm_M217 (pc' := 1) (st' := [.long 0]) rfl rfl rfl ?_
  refine pm_R_lo pm_M217 (pc' := 3) (ls' := [.ref 41, .int a0, .int a1, .int a2, .long 0, pm_no, pm_no, pm_no]) (st' := []) rfl rfl rfl ?_
  refine pm_R_op pm_M217 (pc' := 4) (st' := [.int 0]) rfl rfl rfl ?_
  refine pm_R_lo pm_M217 (pc' := 6) (ls' := [.ref 41, .int a0, .int a1, .int a2, .long 0, pm_no, .int 0, pm_no]) (st' := []) rfl rfl rfl ?_
  have L_1560 : ∀ (N : Nat) (x6_1560 : Int32) (y4_1560 : Int64) (g7_1560 : Value), sf_B 0 10 x6_1560 → g7_1560.category = 1 → (10 - x6_1560.toInt).toNat = N → pm_R (d + 3) 217 6 [.ref 41, .int a0, .int a1, .int a2, .long y4_1560, pm_no, .int x6_1560, g7_1560] [] h Q := by
    intro N
    induction N using Nat.strongRecOn with
    | ind N ih_1560 =>
      intro x6_1560 y4_1560 g7_1560 Bx6_1560 Cg7_1560 hN_1560
      refine pm_R_lo pm_M217 (pc' := 8) rfl rfl rfl ?_
      refine pm_R_lo pm_M217 (pc' := 9) rfl rfl rfl ?_
      refine pm_R_cv pm_M217 (pc' := 12) (a := 41) (ra := []) (rest := [.int x6_1560]) (ls' := [.ref 41]) rfl rfl (Or.inl rfl) pm_M209 T.2.1 rfl (by decide) (Nat.lt_of_lt_of_le (by decide) T.1) rfl rfl (Nat.le_of_ble_eq_true rfl) rfl rfl ?_
      refine pm_R_lo pm_M209 (pc' := 1) rfl rfl rfl ?_
      refine rf_R_get pm_M209 T (pc' := 4) (v := .ref 47) rfl rfl rfl rfl ?_
      refine pm_R_op pm_M209 (pc' := 6) (st' := [.int 100, .ref 47]) rfl rfl rfl ?_
      refine pm_R_lo pm_M209 (pc' := 7) rfl rfl rfl ?_
      have B1561 : sf_B 0 1 (m 23) := T.2.2.1 23
      refine rf_R_get pm_M209 T (pc' := 10) (v := .int (m 23)) rfl rfl rfl rfl ?_
      refine sf_R_imul pm_M209 (pc' := 11) rfl rfl sf_k100 B1561 (by decide) (by decide) (by decide) (fun z1562 e1563 B1564 => ?_)
      obtain ⟨f1565, e1566, b1567⟩ := T.2.2.2.1 47 (by decide) (by decide)
      refine rf_R_ild pm_M209 T (pc' := 12) rfl e1566 (by decide) (sf_in B1564 (by decide) (by decide)) rfl (fun z1568 ez1569 => ?_)
      have e1570 : (z1562).toInt = 100 * ((m 23)).toInt + 0 := by
        have q0 := e1563
        simp only [(show (100 : Int32).toInt = 100 from rfl)] at q0
        omega
      have B1571 : sf_B 0 10 z1568 := ez1569 ▸ rf_p47a b1567 e1570 B1561 (by decide)
      refine pm_R_ret pm_M209 (r := some (.int z1568)) rfl (pm_ret_i _) ?_
      show pm_R _ 217 12 [.ref 41, .int a0, .int a1, .int a2, .long y4_1560, pm_no, .int x6_1560, g7_1560] [.int z1568, .int x6_1560] _ _
      refine pm_R_icmp pm_M217 (t := 100) (pc' := 15) rfl rfl rfl (fun c1572 => ?_) (fun c1572 => ?_)
      · skip
        refine pm_R_lo pm_M217 (pc' := 102) rfl rfl rfl ?_
        exact pm_R_ret pm_M217 (r := some (.long y4_1560)) rfl rfl (K y4_1560)
      · have B1573 : sf_B 0 9 x6_1560 := sf_ltL (Int32.not_le.mp c1572) Bx6_1560 B1571
        have B1574 : sf_B 1 10 z1568 := sf_ltR (Int32.not_le.mp c1572) Bx6_1560 B1571
        refine pm_R_lo pm_M217 (pc' := 16) rfl rfl rfl ?_
        refine pm_R_lo pm_M217 (pc' := 18) (ls' := [.ref 41, .int a0, .int a1, .int a2, .long y4_1560, pm_no, .int x6_1560, .int a1]) (st' := []) rfl rfl rfl ?_
        have L_1843 : ∀ (N : Nat) (x7_1843 : Int32) (y4_1843 : Int64), sf_B 0 11 x7_1843 → (11 - x7_1843.toInt).toNat = N → pm_R (d + 3) 217 18 [.ref 41, .int a0, .int a1, .int a2, .long y4_1843, pm_no, .int x6_1560, .int x7_1843] [] h Q := by
          intro N
          induction N using Nat.strongRecOn with
          | ind N ih_1843 =>
            intro x7_1843 y4_1843 Bx7_1843 hN_1843
            refine pm_R_lo pm_M217 (pc' := 20) rfl rfl rfl ?_
            refine pm_R_lo pm_M217 (pc' := 21) rfl rfl rfl ?_
            refine pm_R_icmp pm_M217 (t := 94) (pc' := 24) rfl rfl rfl (fun c1844 => ?_) (fun c1844 => ?_)
            · skip
              refine sf_R_iinc pm_M217 (pc' := 97) (ls' := fun z => [.ref 41, .int a0, .int a1, .int a2, .long y4_1843, pm_no, .int z, .int x7_1843]) rfl B1573 rfl (by decide) (by decide) (by decide) (fun _ => rfl) rfl (fun z1845 e1846 B1847 => ?_)
              show pm_R _ 217 97 [.ref 41, .int a0, .int a1, .int a2, .long y4_1843, pm_no, .int z1845, .int x7_1843] [] _ _
              refine pm_R_br pm_M217 (pc' := 6) rfl rfl ?_
              exact ih_1560 _ (sf_up hN_1560 e1846 B1573 (by decide) (by decide)) z1845 y4_1843 (.int x7_1843) (sf_weak B1847 (by decide) (by decide)) rfl rfl
            · have B1848 : sf_B 0 10 x7_1843 := sf_ltL (Int32.not_le.mp c1844) Bx7_1843 Ba2
              have B1849 : sf_B 1 11 a2 := sf_ltR (Int32.not_le.mp c1844) Bx7_1843 Ba2
              refine pm_R_lo pm_M217 (pc' := 25) rfl rfl rfl ?_
              refine pm_R_lo pm_M217 (pc' := 27) rfl rfl rfl ?_
              refine pm_R_op pm_M217 (pc' := 28) (st' := [.int 0, .int x6_1560, .ref 41]) rfl rfl rfl ?_
              refine pm_R_cv pm_M217 (pc' := 31) (a := 41) (ra := [.int 0, .int x6_1560]) (rest := []) (ls' := [.ref 41, .int x6_1560, .int 0]) rfl rfl (Or.inl rfl) pm_M210 T.2.1 rfl (by decide) (Nat.lt_of_lt_of_le (by decide) T.1) rfl rfl (Nat.le_of_ble_eq_true rfl) rfl rfl ?_
              refine pm_R_lo pm_M210 (pc' := 1) rfl rfl rfl ?_
              refine rf_R_get pm_M210 T (pc' := 4) (v := .ref 47) rfl rfl rfl rfl ?_
              refine pm_R_op pm_M210 (pc' := 6) (st' := [.int 100, .ref 47]) rfl rfl rfl ?_
              refine pm_R_lo pm_M210 (pc' := 7) rfl rfl rfl ?_
              refine rf_R_get pm_M210 T (pc' := 10) (v := .int (m 23)) rfl rfl rfl rfl ?_
              refine sf_R_imul pm_M210 (pc' := 11) rfl rfl sf_k100 B1561 (by decide) (by decide) (by decide) (fun z1850 e1851 B1852 => ?_)
              refine pm_R_op pm_M210 (pc' := 12) (st' := [.int 2, .int z1850, .ref 47]) rfl rfl rfl ?_
              refine sf_R_iadd pm_M210 (pc' := 13) rfl rfl B1852 sf_k2 (by decide) (by decide) (fun z1853 e1854 B1855 => ?_)
              refine pm_R_op pm_M210 (pc' := 14) (st' := [.int 4, .int z1853, .ref 47]) rfl rfl rfl ?_
              refine pm_R_lo pm_M210 (pc' := 15) rfl rfl rfl ?_
              refine sf_R_imul pm_M210 (pc' := 16) rfl rfl sf_k4 B1573 (by decide) (by decide) (by decide) (fun z1856 e1857 B1858 => ?_)
              refine sf_R_iadd pm_M210 (pc' := 17) rfl rfl B1855 B1858 (by decide) (by decide) (fun z1859 e1860 B1861 => ?_)
              refine pm_R_lo pm_M210 (pc' := 18) rfl rfl rfl ?_
              refine sf_R_iadd pm_M210 (pc' := 19) rfl rfl B1861 sf_k0 (by decide) (by decide) (fun z1862 e1863 B1864 => ?_)
              refine rf_R_ild pm_M210 T (pc' := 20) rfl e1566 (by decide) (sf_in B1864 (by decide) (by decide)) rfl (fun z1865 ez1866 => ?_)
              have e1867 : (z1862).toInt = 100 * ((m 23)).toInt + 4 * (x6_1560).toInt + 2 := by
                have q0 := e1851
                have q1 := e1854
                have q2 := e1857
                have q3 := e1860
                have q4 := e1863
                simp only [(show (0 : Int32).toInt = 0 from rfl), (show (2 : Int32).toInt = 2 from rfl), (show (4 : Int32).toInt = 4 from rfl), (show (100 : Int32).toInt = 100 from rfl)] at q0 q1 q2 q3 q4
                omega
              have B1868 : sf_B 0 5 z1865 := ez1866 ▸ rf_p47r b1567 e1867 B1561 B1573 (by decide) (by decide) (by decide)
              refine pm_R_ret pm_M210 (r := some (.int z1865)) rfl (pm_ret_i _) ?_
              show pm_R _ 217 31 [.ref 41, .int a0, .int a1, .int a2, .long y4_1843, pm_no, .int x6_1560, .int x7_1843] [.int z1865] _ _
              refine pm_R_lo pm_M217 (pc' := 32) rfl rfl rfl ?_
              refine pm_R_icmp pm_M217 (t := 94) (pc' := 35) rfl rfl rfl (fun c1869 => ?_) (fun c1869 => ?_)
              · skip
                refine sf_R_iinc pm_M217 (pc' := 97) (ls' := fun z => [.ref 41, .int a0, .int a1, .int a2, .long y4_1843, pm_no, .int z, .int x7_1843]) rfl B1573 rfl (by decide) (by decide) (by decide) (fun _ => rfl) rfl (fun z1870 e1871 B1872 => ?_)
                show pm_R _ 217 97 [.ref 41, .int a0, .int a1, .int a2, .long y4_1843, pm_no, .int z1870, .int x7_1843] [] _ _
                refine pm_R_br pm_M217 (pc' := 6) rfl rfl ?_
                exact ih_1560 _ (sf_up hN_1560 e1871 B1573 (by decide) (by decide)) z1870 y4_1843 (.int x7_1843) (sf_weak B1872 (by decide) (by decide)) rfl rfl
              · refine pm_R_lo pm_M217 (pc' := 37) rfl rfl rfl ?_
                refine pm_R_lo pm_M217 (pc' := 38) rfl rfl rfl ?_
                refine pm_R_lo pm_M217 (pc' := 40) rfl rfl rfl ?_
                refine pm_R_op pm_M217 (pc' := 41) (st' := [.int 3, .int x6_1560, .ref 41, .long y4_1843]) rfl rfl rfl ?_
                refine pm_R_cv pm_M217 (pc' := 44) (a := 41) (ra := [.int 3, .int x6_1560]) (rest := [.long y4_1843]) (ls' := [.ref 41, .int x6_1560, .int 3]) rfl rfl (Or.inl rfl) pm_M210 T.2.1 rfl (by decide) (Nat.lt_of_lt_of_le (by decide) T.1) rfl rfl (Nat.le_of_ble_eq_true rfl) rfl rfl ?_
                refine pm_R_lo pm_M210 (pc' := 1) rfl rfl rfl ?_
                refine rf_R_get pm_M210 T (pc' := 4) (v := .ref 47) rfl rfl rfl rfl ?_
                refine pm_R_op pm_M210 (pc' := 6) (st' := [.int 100, .ref 47]) rfl rfl rfl ?_
                refine pm_R_lo pm_M210 (pc' := 7) rfl rfl rfl ?_
                refine rf_R_get pm_M210 T (pc' := 10) (v := .int (m 23)) rfl rfl rfl rfl ?_
                refine sf_R_imul pm_M210 (pc' := 11) rfl rfl sf_k100 B1561 (by decide) (by decide) (by decide) (fun z1873 e1874 B1875 => ?_)
                refine pm_R_op pm_M210 (pc' := 12) (st' := [.int 2, .int z1873, .ref 47]) rfl rfl rfl ?_
                refine sf_R_iadd pm_M210 (pc' := 13) rfl rfl B1875 sf_k2 (by decide) (by decide) (fun z1876 e1877 B1878 => ?_)
                refine pm_R_op pm_M210 (pc' := 14) (st' := [.int 4, .int z1876, .ref 47]) rfl rfl rfl ?_
                refine pm_R_lo pm_M210 (pc' := 15) rfl rfl rfl ?_
                refine sf_R_imul pm_M210 (pc' := 16) rfl rfl sf_k4 B1573 (by decide) (by decide) (by decide) (fun z1879 e1880 B1881 => ?_)
                refine sf_R_iadd pm_M210 (pc' := 17) rfl rfl B1878 B1881 (by decide) (by decide) (fun z1882 e1883 B1884 => ?_)
                refine pm_R_lo pm_M210 (pc' := 18) rfl rfl rfl ?_
                refine sf_R_iadd pm_M210 (pc' := 19) rfl rfl B1884 sf_k3 (by decide) (by decide) (fun z1885 e1886 B1887 => ?_)
                refine rf_R_ild pm_M210 T (pc' := 20) rfl e1566 (by decide) (sf_in B1887 (by decide) (by decide)) rfl (fun z1888 ez1889 => ?_)
                have e1890 : (z1885).toInt = 100 * ((m 23)).toInt + 4 * (x6_1560).toInt + 5 := by
                  have q0 := e1874
                  have q1 := e1877
                  have q2 := e1880
                  have q3 := e1883
                  have q4 := e1886
                  simp only [(show (2 : Int32).toInt = 2 from rfl), (show (3 : Int32).toInt = 3 from rfl), (show (4 : Int32).toInt = 4 from rfl), (show (100 : Int32).toInt = 100 from rfl)] at q0 q1 q2 q3 q4
                  omega
                have B1891 : sf_B 0 4 z1888 := ez1889 ▸ rf_p47t b1567 e1890 B1561 B1573 (by decide) (by decide) (by decide)
                refine pm_R_ret pm_M210 (r := some (.int z1888)) rfl (pm_ret_i _) ?_
                show pm_R _ 217 44 [.ref 41, .int a0, .int a1, .int a2, .long y4_1843, pm_no, .int x6_1560, .int x7_1843] [.int z1888, .long y4_1843] _ _
                refine pm_R_lo pm_M217 (pc' := 45) rfl rfl rfl ?_
                refine rf_R_get pm_M217 T (pc' := 48) (v := .ref 54) rfl rfl rfl rfl ?_
                refine pm_R_lo pm_M217 (pc' := 49) rfl rfl rfl ?_
                refine pm_R_lo pm_M217 (pc' := 51) rfl rfl rfl ?_
                refine pm_R_op pm_M217 (pc' := 52) (st' := [.int 1, .int x6_1560, .ref 41, .ref 54, .int z1888, .long y4_1843]) rfl rfl rfl ?_
                refine pm_R_cv pm_M217 (pc' := 55) (a := 41) (ra := [.int 1, .int x6_1560]) (rest := [.ref 54, .int z1888, .long y4_1843]) (ls' := [.ref 41, .int x6_1560, .int 1]) rfl rfl (Or.inl rfl) pm_M210 T.2.1 rfl (by decide) (Nat.lt_of_lt_of_le (by decide) T.1) rfl rfl (Nat.le_of_ble_eq_true rfl) rfl rfl ?_
                refine pm_R_lo pm_M210 (pc' := 1) rfl rfl rfl ?_
                refine rf_R_get pm_M210 T (pc' := 4) (v := .ref 47) rfl rfl rfl rfl ?_
                refine pm_R_op pm_M210 (pc' := 6) (st' := [.int 100, .ref 47]) rfl rfl rfl ?_
                refine pm_R_lo pm_M210 (pc' := 7) rfl rfl rfl ?_
                refine rf_R_get pm_M210 T (pc' := 10) (v := .int (m 23)) rfl rfl rfl rfl ?_
                refine sf_R_imul pm_M210 (pc' := 11) rfl rfl sf_k100 B1561 (by decide) (by decide) (by decide) (fun z1892 e1893 B1894 => ?_)
                refine pm_R_op pm_M210 (pc' := 12) (st' := [.int 2, .int z1892, .ref 47]) rfl rfl rfl ?_
                refine sf_R_iadd pm_M210 (pc' := 13) rfl rfl B1894 sf_k2 (by decide) (by decide) (fun z1895 e1896 B1897 => ?_)
                refine pm_R_op pm_M210 (pc' := 14) (st' := [.int 4, .int z1895, .ref 47]) rfl rfl rfl ?_
                refine pm_R_lo pm_M210 (pc' := 15) rfl rfl rfl ?_
                refine sf_R_imul pm_M210 (pc' := 16) rfl rfl sf_k4 B1573 (by decide) (by decide) (by decide) (fun z1898 e1899 B1900 => ?_)
                refine sf_R_iadd pm_M210 (pc' := 17) rfl rfl B1897 B1900 (by decide) (by decide) (fun z1901 e1902 B1903 => ?_)
                refine pm_R_lo pm_M210 (pc' := 18) rfl rfl rfl ?_
                refine sf_R_iadd pm_M210 (pc' := 19) rfl rfl B1903 sf_k1 (by decide) (by decide) (fun z1904 e1905 B1906 => ?_)
                refine rf_R_ild pm_M210 T (pc' := 20) rfl e1566 (by decide) (sf_in B1906 (by decide) (by decide)) rfl (fun z1907 ez1908 => ?_)
                have e1909 : (z1904).toInt = 100 * ((m 23)).toInt + 4 * (x6_1560).toInt + 3 := by
                  have q0 := e1893
                  have q1 := e1896
                  have q2 := e1899
                  have q3 := e1902
                  have q4 := e1905
                  simp only [(show (1 : Int32).toInt = 1 from rfl), (show (2 : Int32).toInt = 2 from rfl), (show (4 : Int32).toInt = 4 from rfl), (show (100 : Int32).toInt = 100 from rfl)] at q0 q1 q2 q3 q4
                  omega
                have B1910 : sf_B 0 5 z1907 := ez1908 ▸ rf_p47r b1567 e1909 B1561 B1573 (by decide) (by decide) (by decide)
                refine pm_R_ret pm_M210 (r := some (.int z1907)) rfl (pm_ret_i _) ?_
                show pm_R _ 217 55 [.ref 41, .int a0, .int a1, .int a2, .long y4_1843, pm_no, .int x6_1560, .int x7_1843] [.int z1907, .ref 54, .int z1888, .long y4_1843] _ _
                refine pm_R_lo pm_M217 (pc' := 56) rfl rfl rfl ?_
                refine pm_R_lo pm_M217 (pc' := 58) rfl rfl rfl ?_
                refine pm_R_cs pm_M217 (pc' := 61) (ra := [.int x7_1843, .int a1, .int z1907]) (rest := [.ref 54, .int z1888, .long y4_1843]) (ls' := [.int z1907, .int a1, .int x7_1843]) rfl rfl (Or.inl rfl) pm_M207 rfl rfl (Nat.le_of_ble_eq_true rfl) rfl rfl ?_
                refine pm_R_op pm_M207 (pc' := 3) (st' := [.int 144]) rfl rfl rfl ?_
                refine pm_R_lo pm_M207 (pc' := 4) rfl rfl rfl ?_
                refine sf_R_imul pm_M207 (pc' := 5) rfl rfl sf_k144 B1910 (by decide) (by decide) (by decide) (fun z1911 e1912 B1913 => ?_)
                refine pm_R_op pm_M207 (pc' := 7) (st' := [.int 12, .int z1911]) rfl rfl rfl ?_
                refine pm_R_lo pm_M207 (pc' := 8) rfl rfl rfl ?_
                refine sf_R_imul pm_M207 (pc' := 9) rfl rfl sf_k12 Ba1 (by decide) (by decide) (by decide) (fun z1914 e1915 B1916 => ?_)
                refine sf_R_iadd pm_M207 (pc' := 10) rfl rfl B1913 B1916 (by decide) (by decide) (fun z1917 e1918 B1919 => ?_)
                refine pm_R_lo pm_M207 (pc' := 11) rfl rfl rfl ?_
                refine sf_R_iadd pm_M207 (pc' := 12) rfl rfl B1919 B1848 (by decide) (by decide) (fun z1920 e1921 B1922 => ?_)
                refine pm_R_ret pm_M207 (r := some (.int z1920)) rfl (pm_ret_i _) ?_
                show pm_R _ 217 61 [.ref 41, .int a0, .int a1, .int a2, .long y4_1843, pm_no, .int x6_1560, .int x7_1843] [.int z1920, .ref 54, .int z1888, .long y4_1843] _ _
                obtain ⟨f1923, e1924⟩ := T.2.2.2.1 54 (by decide) (by decide)
                refine rf_R_lld pm_M217 T (pc' := 62) rfl e1924 (by decide) (by decide) (sf_in B1922 (by decide) (by decide)) rfl (fun z1926 ez1927 => ?_)
                refine pm_R_lo pm_M217 (pc' := 63) rfl rfl rfl ?_
                refine rf_R_get pm_M217 T (pc' := 66) (v := .ref 54) rfl rfl rfl rfl ?_
                refine pm_R_lo pm_M217 (pc' := 67) rfl rfl rfl ?_
                refine pm_R_lo pm_M217 (pc' := 69) rfl rfl rfl ?_
                refine pm_R_op pm_M217 (pc' := 70) (st' := [.int 2, .int x6_1560, .ref 41, .ref 54, .long z1926, .int z1888, .long y4_1843]) rfl rfl rfl ?_
                refine pm_R_cv pm_M217 (pc' := 73) (a := 41) (ra := [.int 2, .int x6_1560]) (rest := [.ref 54, .long z1926, .int z1888, .long y4_1843]) (ls' := [.ref 41, .int x6_1560, .int 2]) rfl rfl (Or.inl rfl) pm_M210 T.2.1 rfl (by decide) (Nat.lt_of_lt_of_le (by decide) T.1) rfl rfl (Nat.le_of_ble_eq_true rfl) rfl rfl ?_
                refine pm_R_lo pm_M210 (pc' := 1) rfl rfl rfl ?_
                refine rf_R_get pm_M210 T (pc' := 4) (v := .ref 47) rfl rfl rfl rfl ?_
                refine pm_R_op pm_M210 (pc' := 6) (st' := [.int 100, .ref 47]) rfl rfl rfl ?_
                refine pm_R_lo pm_M210 (pc' := 7) rfl rfl rfl ?_
                refine rf_R_get pm_M210 T (pc' := 10) (v := .int (m 23)) rfl rfl rfl rfl ?_
                refine sf_R_imul pm_M210 (pc' := 11) rfl rfl sf_k100 B1561 (by decide) (by decide) (by decide) (fun z1928 e1929 B1930 => ?_)
                refine pm_R_op pm_M210 (pc' := 12) (st' := [.int 2, .int z1928, .ref 47]) rfl rfl rfl ?_
                refine sf_R_iadd pm_M210 (pc' := 13) rfl rfl B1930 sf_k2 (by decide) (by decide) (fun z1931 e1932 B1933 => ?_)
                refine pm_R_op pm_M210 (pc' := 14) (st' := [.int 4, .int z1931, .ref 47]) rfl rfl rfl ?_
                refine pm_R_lo pm_M210 (pc' := 15) rfl rfl rfl ?_
                refine sf_R_imul pm_M210 (pc' := 16) rfl rfl sf_k4 B1573 (by decide) (by decide) (by decide) (fun z1934 e1935 B1936 => ?_)
                refine sf_R_iadd pm_M210 (pc' := 17) rfl rfl B1933 B1936 (by decide) (by decide) (fun z1937 e1938 B1939 => ?_)
                refine pm_R_lo pm_M210 (pc' := 18) rfl rfl rfl ?_
                refine sf_R_iadd pm_M210 (pc' := 19) rfl rfl B1939 sf_k2 (by decide) (by decide) (fun z1940 e1941 B1942 => ?_)
                refine rf_R_ild pm_M210 T (pc' := 20) rfl e1566 (by decide) (sf_in B1942 (by decide) (by decide)) rfl (fun z1943 ez1944 => ?_)
                have e1945 : (z1940).toInt = 100 * ((m 23)).toInt + 4 * (x6_1560).toInt + 4 := by
                  have q0 := e1929
                  have q1 := e1932
                  have q2 := e1935
                  have q3 := e1938
                  have q4 := e1941
                  simp only [(show (2 : Int32).toInt = 2 from rfl), (show (4 : Int32).toInt = 4 from rfl), (show (100 : Int32).toInt = 100 from rfl)] at q0 q1 q2 q3 q4
                  omega
                have B1946 : sf_B 0 5 z1943 := ez1944 ▸ rf_p47r b1567 e1945 B1561 B1573 (by decide) (by decide) (by decide)
                refine pm_R_ret pm_M210 (r := some (.int z1943)) rfl (pm_ret_i _) ?_
                show pm_R _ 217 73 [.ref 41, .int a0, .int a1, .int a2, .long y4_1843, pm_no, .int x6_1560, .int x7_1843] [.int z1943, .ref 54, .long z1926, .int z1888, .long y4_1843] _ _
                refine pm_R_lo pm_M217 (pc' := 75) rfl rfl rfl ?_
                refine pm_R_op pm_M217 (pc' := 76) (st' := [.int 1, .int x7_1843, .int z1943, .ref 54, .long z1926, .int z1888, .long y4_1843]) rfl rfl rfl ?_
                refine sf_R_iadd pm_M217 (pc' := 77) rfl rfl B1848 sf_k1 (by decide) (by decide) (fun z1947 e1948 B1949 => ?_)
                refine pm_R_lo pm_M217 (pc' := 78) rfl rfl rfl ?_
                refine pm_R_cs pm_M217 (pc' := 81) (ra := [.int a2, .int z1947, .int z1943]) (rest := [.ref 54, .long z1926, .int z1888, .long y4_1843]) (ls' := [.int z1943, .int z1947, .int a2]) rfl rfl (Or.inl rfl) pm_M207 rfl rfl (Nat.le_of_ble_eq_true rfl) rfl rfl ?_
                refine pm_R_op pm_M207 (pc' := 3) (st' := [.int 144]) rfl rfl rfl ?_
                refine pm_R_lo pm_M207 (pc' := 4) rfl rfl rfl ?_
                refine sf_R_imul pm_M207 (pc' := 5) rfl rfl sf_k144 B1946 (by decide) (by decide) (by decide) (fun z1950 e1951 B1952 => ?_)
                refine pm_R_op pm_M207 (pc' := 7) (st' := [.int 12, .int z1950]) rfl rfl rfl ?_
                refine pm_R_lo pm_M207 (pc' := 8) rfl rfl rfl ?_
                refine sf_R_imul pm_M207 (pc' := 9) rfl rfl sf_k12 B1949 (by decide) (by decide) (by decide) (fun z1953 e1954 B1955 => ?_)
                refine sf_R_iadd pm_M207 (pc' := 10) rfl rfl B1952 B1955 (by decide) (by decide) (fun z1956 e1957 B1958 => ?_)
                refine pm_R_lo pm_M207 (pc' := 11) rfl rfl rfl ?_
                refine sf_R_iadd pm_M207 (pc' := 12) rfl rfl B1958 B1849 (by decide) (by decide) (fun z1959 e1960 B1961 => ?_)
                refine pm_R_ret pm_M207 (r := some (.int z1959)) rfl (pm_ret_i _) ?_
                show pm_R _ 217 81 [.ref 41, .int a0, .int a1, .int a2, .long y4_1843, pm_no, .int x6_1560, .int x7_1843] [.int z1959, .ref 54, .long z1926, .int z1888, .long y4_1843] _ _
                refine rf_R_lld pm_M217 T (pc' := 82) rfl e1924 (by decide) (by decide) (sf_in B1961 (by decide) (by decide)) rfl (fun z1962 ez1963 => ?_)
                refine pm_R_cs pm_M217 (pc' := 85) (ra := [.long z1962, .long z1926, .int z1888]) (rest := [.long y4_1843]) (ls' := [.int z1888, .long z1926, pm_no, .long z1962, pm_no, pm_no, pm_no, pm_no]) rfl rfl (Or.inl rfl) pm_M218 rfl rfl (Nat.le_of_ble_eq_true rfl) rfl rfl ?_
                refine rf_c218 (d := d + 0)  (fun r1964 => ?_)
                show pm_R _ 217 85 [.ref 41, .int a0, .int a1, .int a2, .long y4_1843, pm_no, .int x6_1560, .int x7_1843] [.long r1964, .long y4_1843] _ _
                refine sf_R_lany pm_M217 (pc' := 86) (st := []) rfl rfl rfl (fun z1972 => ?_)
                refine pm_R_lo pm_M217 (pc' := 88) (ls' := [.ref 41, .int a0, .int a1, .int a2, .long z1972, pm_no, .int x6_1560, .int x7_1843]) (st' := []) rfl rfl rfl ?_
                refine sf_R_iinc pm_M217 (pc' := 91) (ls' := fun z => [.ref 41, .int a0, .int a1, .int a2, .long z1972, pm_no, .int x6_1560, .int z]) rfl B1848 rfl (by decide) (by decide) (by decide) (fun _ => rfl) rfl (fun z1973 e1974 B1975 => ?_)
                show pm_R _ 217 91 [.ref 41, .int a0, .int a1, .int a2, .long z1972, pm_no, .int x6_1560, .int z1973] [] _ _
                refine pm_R_br pm_M217 (pc' := 18) rfl rfl ?_
                exact ih_1843 _ (sf_up hN_1843 e1974 B1848 (by decide) (by decide)) z1973 z1972 (sf_weak B1975 (by decide) (by decide)) rfl
        exact L_1843 _ a1 y4_1560 Ba1 rfl
  exact L_1560 _ 0 0 (pm_no) (sf_weak sf_k0 (by decide) (by decide)) rfl rfl

set_option maxRecDepth 100000 in
set_option maxHeartbeats 4000000 in
/-- SilentTableModel.countsOf -/
theorem rf_c208 {d : Nat} {m : Nat → Int32} {w : Int64} {h : pm_H} {Q : Option Value → pm_H → Prop} {a0 : Int32} {a1 : Int32} {a2 : Int32} (T : rf_T m w h) (Ba0 : sf_B 0 5 a0) (Ba1 : sf_B 0 11 a1) (Ba2 : sf_B 0 11 a2) (K : ∀ (r : Int64), lf_B 0 1000000000000 r → Q (some (.long r)) h) : pm_R (d + 3) 208 0 [.ref 41, .int a0, .int a1, .int a2, pm_no, pm_no, pm_no, pm_no] [] h Q := by
  refine pm_R_op pm_M208 (pc' := 1) (st' := [.long 0]) rfl rfl rfl ?_
  refine pm_R_lo pm_M208 (pc' := 3) (ls' := [.ref 41, .int a0, .int a1, .int a2, .long 0, pm_no, pm_no, pm_no]) (st' := []) rfl rfl rfl ?_
  refine pm_R_op pm_M208 (pc' := 4) (st' := [.int 0]) rfl rfl rfl ?_
  refine pm_R_lo pm_M208 (pc' := 6) (ls' := [.ref 41, .int a0, .int a1, .int a2, .long 0, pm_no, .int 0, pm_no]) (st' := []) rfl rfl rfl ?_
  have L_1461 : ∀ (N : Nat) (x6_1461 : Int32) (y4_1461 : Int64) (g7_1461 : Value), sf_B 0 10 x6_1461 → lf_B 0 1000000000000 y4_1461 → g7_1461.category = 1 → (10 - x6_1461.toInt).toNat = N → pm_R (d + 3) 208 6 [.ref 41, .int a0, .int a1, .int a2, .long y4_1461, pm_no, .int x6_1461, g7_1461] [] h Q := by
    intro N
    induction N using Nat.strongRecOn with
    | ind N ih_1461 =>
      intro x6_1461 y4_1461 g7_1461 Bx6_1461 By4_1461 Cg7_1461 hN_1461
      refine pm_R_lo pm_M208 (pc' := 8) rfl rfl rfl ?_
      refine pm_R_lo pm_M208 (pc' := 9) rfl rfl rfl ?_
      refine pm_R_cv pm_M208 (pc' := 12) (a := 41) (ra := []) (rest := [.int x6_1461]) (ls' := [.ref 41]) rfl rfl (Or.inl rfl) pm_M209 T.2.1 rfl (by decide) (Nat.lt_of_lt_of_le (by decide) T.1) rfl rfl (Nat.le_of_ble_eq_true rfl) rfl rfl ?_
      refine pm_R_lo pm_M209 (pc' := 1) rfl rfl rfl ?_
      refine rf_R_get pm_M209 T (pc' := 4) (v := .ref 47) rfl rfl rfl rfl ?_
      refine pm_R_op pm_M209 (pc' := 6) (st' := [.int 100, .ref 47]) rfl rfl rfl ?_
      refine pm_R_lo pm_M209 (pc' := 7) rfl rfl rfl ?_
      have B1462 : sf_B 0 1 (m 23) := T.2.2.1 23
      refine rf_R_get pm_M209 T (pc' := 10) (v := .int (m 23)) rfl rfl rfl rfl ?_
      refine sf_R_imul pm_M209 (pc' := 11) rfl rfl sf_k100 B1462 (by decide) (by decide) (by decide) (fun z1463 e1464 B1465 => ?_)
      obtain ⟨f1466, e1467, b1468⟩ := T.2.2.2.1 47 (by decide) (by decide)
      refine rf_R_ild pm_M209 T (pc' := 12) rfl e1467 (by decide) (sf_in B1465 (by decide) (by decide)) rfl (fun z1469 ez1470 => ?_)
      have e1471 : (z1463).toInt = 100 * ((m 23)).toInt + 0 := by
        have q0 := e1464
        simp only [(show (100 : Int32).toInt = 100 from rfl)] at q0
        omega
      have B1472 : sf_B 0 10 z1469 := ez1470 ▸ rf_p47a b1468 e1471 B1462 (by decide)
      refine pm_R_ret pm_M209 (r := some (.int z1469)) rfl (pm_ret_i _) ?_
      show pm_R _ 208 12 [.ref 41, .int a0, .int a1, .int a2, .long y4_1461, pm_no, .int x6_1461, g7_1461] [.int z1469, .int x6_1461] _ _
      refine pm_R_icmp pm_M208 (t := 64) (pc' := 15) rfl rfl rfl (fun c1473 => ?_) (fun c1473 => ?_)
      · skip
        refine pm_R_lo pm_M208 (pc' := 66) rfl rfl rfl ?_
        exact pm_R_ret pm_M208 (r := some (.long y4_1461)) rfl rfl (K y4_1461 By4_1461)
      · have B1474 : sf_B 0 9 x6_1461 := sf_ltL (Int32.not_le.mp c1473) Bx6_1461 B1472
        have B1475 : sf_B 1 10 z1469 := sf_ltR (Int32.not_le.mp c1473) Bx6_1461 B1472
        refine pm_R_lo pm_M208 (pc' := 16) rfl rfl rfl ?_
        refine pm_R_lo pm_M208 (pc' := 18) (ls' := [.ref 41, .int a0, .int a1, .int a2, .long y4_1461, pm_no, .int x6_1461, .int a1]) (st' := []) rfl rfl rfl ?_
        have L_1726 : ∀ (N : Nat) (x7_1726 : Int32) (y4_1726 : Int64), sf_B 0 11 x7_1726 → lf_B 0 1000000000000 y4_1726 → (11 - x7_1726.toInt).toNat = N → pm_R (d + 3) 208 18 [.ref 41, .int a0, .int a1, .int a2, .long y4_1726, pm_no, .int x6_1461, .int x7_1726] [] h Q := by
          intro N
          induction N using Nat.strongRecOn with
          | ind N ih_1726 =>
            intro x7_1726 y4_1726 Bx7_1726 By4_1726 hN_1726
            refine pm_R_lo pm_M208 (pc' := 20) rfl rfl rfl ?_
            refine pm_R_lo pm_M208 (pc' := 21) rfl rfl rfl ?_
            refine pm_R_icmp pm_M208 (t := 58) (pc' := 24) rfl rfl rfl (fun c1727 => ?_) (fun c1727 => ?_)
            · skip
              refine sf_R_iinc pm_M208 (pc' := 61) (ls' := fun z => [.ref 41, .int a0, .int a1, .int a2, .long y4_1726, pm_no, .int z, .int x7_1726]) rfl B1474 rfl (by decide) (by decide) (by decide) (fun _ => rfl) rfl (fun z1728 e1729 B1730 => ?_)
              show pm_R _ 208 61 [.ref 41, .int a0, .int a1, .int a2, .long y4_1726, pm_no, .int z1728, .int x7_1726] [] _ _
              refine pm_R_br pm_M208 (pc' := 6) rfl rfl ?_
              exact ih_1461 _ (sf_up hN_1461 e1729 B1474 (by decide) (by decide)) z1728 y4_1726 (.int x7_1726) (sf_weak B1730 (by decide) (by decide)) By4_1726 rfl rfl
            · have B1731 : sf_B 0 10 x7_1726 := sf_ltL (Int32.not_le.mp c1727) Bx7_1726 Ba2
              have B1732 : sf_B 1 11 a2 := sf_ltR (Int32.not_le.mp c1727) Bx7_1726 Ba2
              refine pm_R_lo pm_M208 (pc' := 25) rfl rfl rfl ?_
              refine pm_R_lo pm_M208 (pc' := 27) rfl rfl rfl ?_
              refine pm_R_op pm_M208 (pc' := 28) (st' := [.int 0, .int x6_1461, .ref 41]) rfl rfl rfl ?_
              refine pm_R_cv pm_M208 (pc' := 31) (a := 41) (ra := [.int 0, .int x6_1461]) (rest := []) (ls' := [.ref 41, .int x6_1461, .int 0]) rfl rfl (Or.inl rfl) pm_M210 T.2.1 rfl (by decide) (Nat.lt_of_lt_of_le (by decide) T.1) rfl rfl (Nat.le_of_ble_eq_true rfl) rfl rfl ?_
              refine pm_R_lo pm_M210 (pc' := 1) rfl rfl rfl ?_
              refine rf_R_get pm_M210 T (pc' := 4) (v := .ref 47) rfl rfl rfl rfl ?_
              refine pm_R_op pm_M210 (pc' := 6) (st' := [.int 100, .ref 47]) rfl rfl rfl ?_
              refine pm_R_lo pm_M210 (pc' := 7) rfl rfl rfl ?_
              refine rf_R_get pm_M210 T (pc' := 10) (v := .int (m 23)) rfl rfl rfl rfl ?_
              refine sf_R_imul pm_M210 (pc' := 11) rfl rfl sf_k100 B1462 (by decide) (by decide) (by decide) (fun z1733 e1734 B1735 => ?_)
              refine pm_R_op pm_M210 (pc' := 12) (st' := [.int 2, .int z1733, .ref 47]) rfl rfl rfl ?_
              refine sf_R_iadd pm_M210 (pc' := 13) rfl rfl B1735 sf_k2 (by decide) (by decide) (fun z1736 e1737 B1738 => ?_)
              refine pm_R_op pm_M210 (pc' := 14) (st' := [.int 4, .int z1736, .ref 47]) rfl rfl rfl ?_
              refine pm_R_lo pm_M210 (pc' := 15) rfl rfl rfl ?_
              refine sf_R_imul pm_M210 (pc' := 16) rfl rfl sf_k4 B1474 (by decide) (by decide) (by decide) (fun z1739 e1740 B1741 => ?_)
              refine sf_R_iadd pm_M210 (pc' := 17) rfl rfl B1738 B1741 (by decide) (by decide) (fun z1742 e1743 B1744 => ?_)
              refine pm_R_lo pm_M210 (pc' := 18) rfl rfl rfl ?_
              refine sf_R_iadd pm_M210 (pc' := 19) rfl rfl B1744 sf_k0 (by decide) (by decide) (fun z1745 e1746 B1747 => ?_)
              refine rf_R_ild pm_M210 T (pc' := 20) rfl e1467 (by decide) (sf_in B1747 (by decide) (by decide)) rfl (fun z1748 ez1749 => ?_)
              have e1750 : (z1745).toInt = 100 * ((m 23)).toInt + 4 * (x6_1461).toInt + 2 := by
                have q0 := e1734
                have q1 := e1737
                have q2 := e1740
                have q3 := e1743
                have q4 := e1746
                simp only [(show (0 : Int32).toInt = 0 from rfl), (show (2 : Int32).toInt = 2 from rfl), (show (4 : Int32).toInt = 4 from rfl), (show (100 : Int32).toInt = 100 from rfl)] at q0 q1 q2 q3 q4
                omega
              have B1751 : sf_B 0 5 z1748 := ez1749 ▸ rf_p47r b1468 e1750 B1462 B1474 (by decide) (by decide) (by decide)
              refine pm_R_ret pm_M210 (r := some (.int z1748)) rfl (pm_ret_i _) ?_
              show pm_R _ 208 31 [.ref 41, .int a0, .int a1, .int a2, .long y4_1726, pm_no, .int x6_1461, .int x7_1726] [.int z1748] _ _
              refine pm_R_lo pm_M208 (pc' := 32) rfl rfl rfl ?_
              refine pm_R_icmp pm_M208 (t := 58) (pc' := 35) rfl rfl rfl (fun c1752 => ?_) (fun c1752 => ?_)
              · skip
                refine sf_R_iinc pm_M208 (pc' := 61) (ls' := fun z => [.ref 41, .int a0, .int a1, .int a2, .long y4_1726, pm_no, .int z, .int x7_1726]) rfl B1474 rfl (by decide) (by decide) (by decide) (fun _ => rfl) rfl (fun z1753 e1754 B1755 => ?_)
                show pm_R _ 208 61 [.ref 41, .int a0, .int a1, .int a2, .long y4_1726, pm_no, .int z1753, .int x7_1726] [] _ _
                refine pm_R_br pm_M208 (pc' := 6) rfl rfl ?_
                exact ih_1461 _ (sf_up hN_1461 e1754 B1474 (by decide) (by decide)) z1753 y4_1726 (.int x7_1726) (sf_weak B1755 (by decide) (by decide)) By4_1726 rfl rfl
              · refine pm_R_lo pm_M208 (pc' := 37) rfl rfl rfl ?_
                refine pm_R_lo pm_M208 (pc' := 38) rfl rfl rfl ?_
                refine pm_R_lo pm_M208 (pc' := 40) rfl rfl rfl ?_
                refine pm_R_lo pm_M208 (pc' := 41) rfl rfl rfl ?_
                refine pm_R_lo pm_M208 (pc' := 43) rfl rfl rfl ?_
                refine pm_R_lo pm_M208 (pc' := 44) rfl rfl rfl ?_
                refine pm_R_cv pm_M208 (pc' := 47) (a := 41) (ra := [.int a2, .int x7_1726, .int a1, .int x6_1461]) (rest := [.long y4_1726]) (ls' := [.ref 41, .int x6_1461, .int a1, .int x7_1726, .int a2]) rfl rfl (Or.inl rfl) pm_M211 T.2.1 rfl (by decide) (Nat.lt_of_lt_of_le (by decide) T.1) rfl rfl (Nat.le_of_ble_eq_true rfl) rfl rfl ?_
                refine pm_R_lo pm_M211 (pc' := 1) rfl rfl rfl ?_
                refine rf_R_get pm_M211 T (pc' := 4) (v := .ref 55) rfl rfl rfl rfl ?_
                refine pm_R_lo pm_M211 (pc' := 5) rfl rfl rfl ?_
                refine pm_R_lo pm_M211 (pc' := 6) rfl rfl rfl ?_
                refine pm_R_op pm_M211 (pc' := 7) (st' := [.int 1, .int x6_1461, .ref 41, .ref 55]) rfl rfl rfl ?_
                refine pm_R_cv pm_M211 (pc' := 10) (a := 41) (ra := [.int 1, .int x6_1461]) (rest := [.ref 55]) (ls' := [.ref 41, .int x6_1461, .int 1]) rfl rfl (Or.inl rfl) pm_M210 T.2.1 rfl (by decide) (Nat.lt_of_lt_of_le (by decide) T.1) rfl rfl (Nat.le_of_ble_eq_true rfl) rfl rfl ?_
                refine pm_R_lo pm_M210 (pc' := 1) rfl rfl rfl ?_
                refine rf_R_get pm_M210 T (pc' := 4) (v := .ref 47) rfl rfl rfl rfl ?_
                refine pm_R_op pm_M210 (pc' := 6) (st' := [.int 100, .ref 47]) rfl rfl rfl ?_
                refine pm_R_lo pm_M210 (pc' := 7) rfl rfl rfl ?_
                refine rf_R_get pm_M210 T (pc' := 10) (v := .int (m 23)) rfl rfl rfl rfl ?_
                refine sf_R_imul pm_M210 (pc' := 11) rfl rfl sf_k100 B1462 (by decide) (by decide) (by decide) (fun z1756 e1757 B1758 => ?_)
                refine pm_R_op pm_M210 (pc' := 12) (st' := [.int 2, .int z1756, .ref 47]) rfl rfl rfl ?_
                refine sf_R_iadd pm_M210 (pc' := 13) rfl rfl B1758 sf_k2 (by decide) (by decide) (fun z1759 e1760 B1761 => ?_)
                refine pm_R_op pm_M210 (pc' := 14) (st' := [.int 4, .int z1759, .ref 47]) rfl rfl rfl ?_
                refine pm_R_lo pm_M210 (pc' := 15) rfl rfl rfl ?_
                refine sf_R_imul pm_M210 (pc' := 16) rfl rfl sf_k4 B1474 (by decide) (by decide) (by decide) (fun z1762 e1763 B1764 => ?_)
                refine sf_R_iadd pm_M210 (pc' := 17) rfl rfl B1761 B1764 (by decide) (by decide) (fun z1765 e1766 B1767 => ?_)
                refine pm_R_lo pm_M210 (pc' := 18) rfl rfl rfl ?_
                refine sf_R_iadd pm_M210 (pc' := 19) rfl rfl B1767 sf_k1 (by decide) (by decide) (fun z1768 e1769 B1770 => ?_)
                refine rf_R_ild pm_M210 T (pc' := 20) rfl e1467 (by decide) (sf_in B1770 (by decide) (by decide)) rfl (fun z1771 ez1772 => ?_)
                have e1773 : (z1768).toInt = 100 * ((m 23)).toInt + 4 * (x6_1461).toInt + 3 := by
                  have q0 := e1757
                  have q1 := e1760
                  have q2 := e1763
                  have q3 := e1766
                  have q4 := e1769
                  simp only [(show (1 : Int32).toInt = 1 from rfl), (show (2 : Int32).toInt = 2 from rfl), (show (4 : Int32).toInt = 4 from rfl), (show (100 : Int32).toInt = 100 from rfl)] at q0 q1 q2 q3 q4
                  omega
                have B1774 : sf_B 0 5 z1771 := ez1772 ▸ rf_p47r b1468 e1773 B1462 B1474 (by decide) (by decide) (by decide)
                refine pm_R_ret pm_M210 (r := some (.int z1771)) rfl (pm_ret_i _) ?_
                show pm_R _ 211 10 [.ref 41, .int x6_1461, .int a1, .int x7_1726, .int a2] [.int z1771, .ref 55] _ _
                refine pm_R_lo pm_M211 (pc' := 11) rfl rfl rfl ?_
                refine pm_R_lo pm_M211 (pc' := 12) rfl rfl rfl ?_
                refine pm_R_cs pm_M211 (pc' := 15) (ra := [.int x7_1726, .int a1, .int z1771]) (rest := [.ref 55]) (ls' := [.int z1771, .int a1, .int x7_1726]) rfl rfl (Or.inl rfl) pm_M207 rfl rfl (Nat.le_of_ble_eq_true rfl) rfl rfl ?_
                refine pm_R_op pm_M207 (pc' := 3) (st' := [.int 144]) rfl rfl rfl ?_
                refine pm_R_lo pm_M207 (pc' := 4) rfl rfl rfl ?_
                refine sf_R_imul pm_M207 (pc' := 5) rfl rfl sf_k144 B1774 (by decide) (by decide) (by decide) (fun z1775 e1776 B1777 => ?_)
                refine pm_R_op pm_M207 (pc' := 7) (st' := [.int 12, .int z1775]) rfl rfl rfl ?_
                refine pm_R_lo pm_M207 (pc' := 8) rfl rfl rfl ?_
                refine sf_R_imul pm_M207 (pc' := 9) rfl rfl sf_k12 Ba1 (by decide) (by decide) (by decide) (fun z1778 e1779 B1780 => ?_)
                refine sf_R_iadd pm_M207 (pc' := 10) rfl rfl B1777 B1780 (by decide) (by decide) (fun z1781 e1782 B1783 => ?_)
                refine pm_R_lo pm_M207 (pc' := 11) rfl rfl rfl ?_
                refine sf_R_iadd pm_M207 (pc' := 12) rfl rfl B1783 B1731 (by decide) (by decide) (fun z1784 e1785 B1786 => ?_)
                refine pm_R_ret pm_M207 (r := some (.int z1784)) rfl (pm_ret_i _) ?_
                show pm_R _ 211 15 [.ref 41, .int x6_1461, .int a1, .int x7_1726, .int a2] [.int z1784, .ref 55] _ _
                obtain ⟨f1787, e1788, b1789⟩ := T.2.2.2.1 55 (by decide) (by decide)
                refine rf_R_lld pm_M211 T (pc' := 16) rfl e1788 (by decide) (by decide) (sf_in B1786 (by decide) (by decide)) rfl (fun z1790 ez1791 => ?_)
                have B1792 : lf_B 0 1000000000000 z1790 := ez1791 ▸ b1789 _
                refine pm_R_lo pm_M211 (pc' := 17) rfl rfl rfl ?_
                refine rf_R_get pm_M211 T (pc' := 20) (v := .ref 55) rfl rfl rfl rfl ?_
                refine pm_R_lo pm_M211 (pc' := 21) rfl rfl rfl ?_
                refine pm_R_lo pm_M211 (pc' := 22) rfl rfl rfl ?_
                refine pm_R_op pm_M211 (pc' := 23) (st' := [.int 2, .int x6_1461, .ref 41, .ref 55, .long z1790]) rfl rfl rfl ?_
                refine pm_R_cv pm_M211 (pc' := 26) (a := 41) (ra := [.int 2, .int x6_1461]) (rest := [.ref 55, .long z1790]) (ls' := [.ref 41, .int x6_1461, .int 2]) rfl rfl (Or.inl rfl) pm_M210 T.2.1 rfl (by decide) (Nat.lt_of_lt_of_le (by decide) T.1) rfl rfl (Nat.le_of_ble_eq_true rfl) rfl rfl ?_
                refine pm_R_lo pm_M210 (pc' := 1) rfl rfl rfl ?_
                refine rf_R_get pm_M210 T (pc' := 4) (v := .ref 47) rfl rfl rfl rfl ?_
                refine pm_R_op pm_M210 (pc' := 6) (st' := [.int 100, .ref 47]) rfl rfl rfl ?_
                refine pm_R_lo pm_M210 (pc' := 7) rfl rfl rfl ?_
                refine rf_R_get pm_M210 T (pc' := 10) (v := .int (m 23)) rfl rfl rfl rfl ?_
                refine sf_R_imul pm_M210 (pc' := 11) rfl rfl sf_k100 B1462 (by decide) (by decide) (by decide) (fun z1793 e1794 B1795 => ?_)
                refine pm_R_op pm_M210 (pc' := 12) (st' := [.int 2, .int z1793, .ref 47]) rfl rfl rfl ?_
                refine sf_R_iadd pm_M210 (pc' := 13) rfl rfl B1795 sf_k2 (by decide) (by decide) (fun z1796 e1797 B1798 => ?_)
                refine pm_R_op pm_M210 (pc' := 14) (st' := [.int 4, .int z1796, .ref 47]) rfl rfl rfl ?_
                refine pm_R_lo pm_M210 (pc' := 15) rfl rfl rfl ?_
                refine sf_R_imul pm_M210 (pc' := 16) rfl rfl sf_k4 B1474 (by decide) (by decide) (by decide) (fun z1799 e1800 B1801 => ?_)
                refine sf_R_iadd pm_M210 (pc' := 17) rfl rfl B1798 B1801 (by decide) (by decide) (fun z1802 e1803 B1804 => ?_)
                refine pm_R_lo pm_M210 (pc' := 18) rfl rfl rfl ?_
                refine sf_R_iadd pm_M210 (pc' := 19) rfl rfl B1804 sf_k2 (by decide) (by decide) (fun z1805 e1806 B1807 => ?_)
                refine rf_R_ild pm_M210 T (pc' := 20) rfl e1467 (by decide) (sf_in B1807 (by decide) (by decide)) rfl (fun z1808 ez1809 => ?_)
                have e1810 : (z1805).toInt = 100 * ((m 23)).toInt + 4 * (x6_1461).toInt + 4 := by
                  have q0 := e1794
                  have q1 := e1797
                  have q2 := e1800
                  have q3 := e1803
                  have q4 := e1806
                  simp only [(show (2 : Int32).toInt = 2 from rfl), (show (4 : Int32).toInt = 4 from rfl), (show (100 : Int32).toInt = 100 from rfl)] at q0 q1 q2 q3 q4
                  omega
                have B1811 : sf_B 0 5 z1808 := ez1809 ▸ rf_p47r b1468 e1810 B1462 B1474 (by decide) (by decide) (by decide)
                refine pm_R_ret pm_M210 (r := some (.int z1808)) rfl (pm_ret_i _) ?_
                show pm_R _ 211 26 [.ref 41, .int x6_1461, .int a1, .int x7_1726, .int a2] [.int z1808, .ref 55, .long z1790] _ _
                refine pm_R_lo pm_M211 (pc' := 27) rfl rfl rfl ?_
                refine pm_R_op pm_M211 (pc' := 28) (st' := [.int 1, .int x7_1726, .int z1808, .ref 55, .long z1790]) rfl rfl rfl ?_
                refine sf_R_iadd pm_M211 (pc' := 29) rfl rfl B1731 sf_k1 (by decide) (by decide) (fun z1812 e1813 B1814 => ?_)
                refine pm_R_lo pm_M211 (pc' := 31) rfl rfl rfl ?_
                refine pm_R_cs pm_M211 (pc' := 34) (ra := [.int a2, .int z1812, .int z1808]) (rest := [.ref 55, .long z1790]) (ls' := [.int z1808, .int z1812, .int a2]) rfl rfl (Or.inl rfl) pm_M207 rfl rfl (Nat.le_of_ble_eq_true rfl) rfl rfl ?_
                refine pm_R_op pm_M207 (pc' := 3) (st' := [.int 144]) rfl rfl rfl ?_
                refine pm_R_lo pm_M207 (pc' := 4) rfl rfl rfl ?_
                refine sf_R_imul pm_M207 (pc' := 5) rfl rfl sf_k144 B1811 (by decide) (by decide) (by decide) (fun z1815 e1816 B1817 => ?_)
                refine pm_R_op pm_M207 (pc' := 7) (st' := [.int 12, .int z1815]) rfl rfl rfl ?_
                refine pm_R_lo pm_M207 (pc' := 8) rfl rfl rfl ?_
                refine sf_R_imul pm_M207 (pc' := 9) rfl rfl sf_k12 B1814 (by decide) (by decide) (by decide) (fun z1818 e1819 B1820 => ?_)
                refine sf_R_iadd pm_M207 (pc' := 10) rfl rfl B1817 B1820 (by decide) (by decide) (fun z1821 e1822 B1823 => ?_)
                refine pm_R_lo pm_M207 (pc' := 11) rfl rfl rfl ?_
                refine sf_R_iadd pm_M207 (pc' := 12) rfl rfl B1823 B1732 (by decide) (by decide) (fun z1824 e1825 B1826 => ?_)
                refine pm_R_ret pm_M207 (r := some (.int z1824)) rfl (pm_ret_i _) ?_
                show pm_R _ 211 34 [.ref 41, .int x6_1461, .int a1, .int x7_1726, .int a2] [.int z1824, .ref 55, .long z1790] _ _
                refine rf_R_lld pm_M211 T (pc' := 35) rfl e1788 (by decide) (by decide) (sf_in B1826 (by decide) (by decide)) rfl (fun z1827 ez1828 => ?_)
                have B1829 : lf_B 0 1000000000000 z1827 := ez1828 ▸ b1789 _
                refine pm_R_cs pm_M211 (pc' := 38) (ra := [.long z1827, .long z1790]) (rest := []) (ls' := [.long z1790, pm_no, .long z1827, pm_no]) rfl rfl (Or.inl rfl) pm_M212 rfl rfl (Nat.le_of_ble_eq_true rfl) rfl rfl ?_
                refine rf_c212 (d := d + 0) B1792 B1829 (fun r1830 X1838 B1831 => ?_)
                show pm_R _ 211 38 [.ref 41, .int x6_1461, .int a1, .int x7_1726, .int a2] [.long r1830] _ _
                refine pm_R_ret pm_M211 (r := some (.long r1830)) rfl rfl ?_
                show pm_R _ 208 47 [.ref 41, .int a0, .int a1, .int a2, .long y4_1726, pm_no, .int x6_1461, .int x7_1726] [.long r1830, .long y4_1726] _ _
                refine pm_R_cs pm_M208 (pc' := 50) (ra := [.long r1830, .long y4_1726]) (rest := []) (ls' := [.long y4_1726, pm_no, .long r1830, pm_no]) rfl rfl (Or.inl rfl) pm_M213 rfl rfl (Nat.le_of_ble_eq_true rfl) rfl rfl ?_
                refine rf_c213 (d := d + 2) By4_1726 B1831 (fun r1839 B1840 => ?_)
                show pm_R _ 208 50 [.ref 41, .int a0, .int a1, .int a2, .long y4_1726, pm_no, .int x6_1461, .int x7_1726] [.long r1839] _ _
                refine pm_R_lo pm_M208 (pc' := 52) (ls' := [.ref 41, .int a0, .int a1, .int a2, .long r1839, pm_no, .int x6_1461, .int x7_1726]) (st' := []) rfl rfl rfl ?_
                refine sf_R_iinc pm_M208 (pc' := 55) (ls' := fun z => [.ref 41, .int a0, .int a1, .int a2, .long r1839, pm_no, .int x6_1461, .int z]) rfl B1731 rfl (by decide) (by decide) (by decide) (fun _ => rfl) rfl (fun z1847 e1848 B1849 => ?_)
                show pm_R _ 208 55 [.ref 41, .int a0, .int a1, .int a2, .long r1839, pm_no, .int x6_1461, .int z1847] [] _ _
                refine pm_R_br pm_M208 (pc' := 18) rfl rfl ?_
                exact ih_1726 _ (sf_up hN_1726 e1848 B1731 (by decide) (by decide)) z1847 r1839 (sf_weak B1849 (by decide) (by decide)) B1840 rfl
        exact L_1726 _ a1 y4_1461 Ba1 By4_1461 rfl
  exact L_1461 _ 0 0 (pm_no) (sf_weak sf_k0 (by decide) (by decide)) (lf_weak (⟨by decide, by decide⟩ : lf_B 0 0 0) (by decide) (by decide)) rfl rfl

set_option maxRecDepth 100000 in
set_option maxHeartbeats 4000000 in
/-- SilentTableModel.findValues -/
theorem rf_c216 {d : Nat} {m : Nat → Int32} {w : Int64} {h : pm_H} {Q : Option Value → pm_H → Prop}  (T : rf_T m w h)  (K : ∀ (m' : Nat → Int32) (w' : Int64) (h' : pm_H), rf_T m' w' h' → rf_G [54] h h' → rf_W [] m m' → Q none h') : pm_R (d + 4) 216 0 [.ref 41, pm_no, pm_no, pm_no, pm_no, pm_no] [] h Q := by
  refine pm_R_op pm_M216 (pc' := 1) (st' := [.int 0]) rfl rfl rfl ?_
  refine pm_R_lo pm_M216 (pc' := 2) (ls' := [.ref 41, .int 0, pm_no, pm_no, pm_no, pm_no]) (st' := []) rfl rfl rfl ?_
  have L_53408 : ∀ (N : Nat) (h_53408 : pm_H) (m_53408 : Nat → Int32) (w_53408 : Int64) (x1_53408 : Int32) (g2_53408 : Value) (g3_53408 : Value) (g4_53408 : Value) (g5_53408 : Value), rf_T m_53408 w_53408 h_53408 → rf_G [54] h h_53408 → rf_W [] m m_53408 → sf_B 0 6 x1_53408 → g2_53408.category = 1 → g4_53408.category = 1 → g5_53408.category = 1 → (6 - x1_53408.toInt).toNat = N → pm_R (d + 4) 216 2 [.ref 41, .int x1_53408, g2_53408, g3_53408, g4_53408, g5_53408] [] h_53408 Q := by
    intro N
    induction N using Nat.strongRecOn with
    | ind N ih_53408 =>
      intro h_53408 m_53408 w_53408 x1_53408 g2_53408 g3_53408 g4_53408 g5_53408 T_53408 F_53408 W_53408 Bx1_53408 Cg2_53408 Cg4_53408 Cg5_53408 hN_53408
      have W53411 : rf_W [] m m_53408 := (rf_W.refl [] m).trans W_53408 (by decide)
      refine pm_R_lo pm_M216 (pc' := 3) rfl rfl rfl ?_
      refine pm_R_op pm_M216 (pc' := 5) (st' := [.int 6, .int x1_53408]) rfl rfl rfl ?_
      refine pm_R_icmp pm_M216 (t := 99) (pc' := 8) rfl rfl rfl (fun c53412 => ?_) (fun c53412 => ?_)
      · have B53413 : sf_B 6 6 x1_53408 := sf_leR c53412 sf_k6 Bx1_53408
        refine pm_R_op pm_M216 (pc' := 100) (st' := [.int 1]) rfl rfl rfl ?_
        refine pm_R_lo pm_M216 (pc' := 101) (ls' := [.ref 41, .int 1, g2_53408, g3_53408, g4_53408, g5_53408]) (st' := []) rfl rfl rfl ?_
        have L_59314 : ∀ (N : Nat) (h_59314 : pm_H) (m_59314 : Nat → Int32) (w_59314 : Int64) (x1_59314 : Int32) (g2_59314 : Value) (g3_59314 : Value), rf_T m_59314 w_59314 h_59314 → rf_G [54] h h_59314 → rf_W [] m_53408 m_59314 → sf_B 1 12 x1_59314 → g2_59314.category = 1 → (12 - x1_59314.toInt).toNat = N → pm_R (d + 4) 216 101 [.ref 41, .int x1_59314, g2_59314, g3_59314, g4_53408, g5_53408] [] h_59314 Q := by
          intro N
          induction N using Nat.strongRecOn with
          | ind N ih_59314 =>
            intro h_59314 m_59314 w_59314 x1_59314 g2_59314 g3_59314 T_59314 F_59314 W_59314 Bx1_59314 Cg2_59314 hN_59314
            have W59317 : rf_W [] m m_59314 := W53411.trans W_59314 (by decide)
            have W59318 : rf_W [] m m_59314 := W_53408.trans W_59314 (by decide)
            refine pm_R_lo pm_M216 (pc' := 102) rfl rfl rfl ?_
            refine pm_R_lo pm_M216 (pc' := 103) rfl rfl rfl ?_
            have B59319 : sf_B 0 12 (m_59314 24) := T_59314.2.2.1 24
            refine rf_R_get pm_M216 T_59314 (pc' := 106) (v := .int (m_59314 24)) rfl rfl rfl rfl ?_
            refine pm_R_icmp pm_M216 (t := 169) (pc' := 109) (pm_q216_1 (Nat.le_of_ble_eq_true rfl)) rfl rfl (fun c59320 => ?_) (fun c59320 => ?_)
            · skip
              exact pm_R_ret pm_M216 (r := none) (pm_q216_1 (Nat.le_of_ble_eq_true rfl)) rfl (K m_59314 w_59314 h_59314 T_59314 F_59314 W59317)
            · have B59321 : sf_B 1 11 x1_59314 := sf_ltL (Int32.not_le.mp c59320) Bx1_59314 B59319
              have B59322 : sf_B 2 12 (m_59314 24) := sf_ltR (Int32.not_le.mp c59320) Bx1_59314 B59319
              refine pm_R_op pm_M216 (pc' := 110) (st' := [.int 0]) (pm_q216_1 (Nat.le_of_ble_eq_true rfl)) rfl rfl ?_
              refine pm_R_lo pm_M216 (pc' := 111) (ls' := [.ref 41, .int x1_59314, .int 0, g3_59314, g4_53408, g5_53408]) (st' := []) (pm_q216_1 (Nat.le_of_ble_eq_true rfl)) rfl rfl ?_
              have L_60505 : ∀ (N : Nat) (h_60505 : pm_H) (m_60505 : Nat → Int32) (w_60505 : Int64) (x2_60505 : Int32) (g3_60505 : Value), rf_T m_60505 w_60505 h_60505 → rf_G [54] h h_60505 → rf_W [] m_59314 m_60505 → sf_B 0 11 x2_60505 → (11 - x2_60505.toInt).toNat = N → pm_R (d + 4) 216 111 [.ref 41, .int x1_59314, .int x2_60505, g3_60505, g4_53408, g5_53408] [] h_60505 Q := by
                intro N
                induction N using Nat.strongRecOn with
                | ind N ih_60505 =>
                  intro h_60505 m_60505 w_60505 x2_60505 g3_60505 T_60505 F_60505 W_60505 Bx2_60505 hN_60505
                  have B60508 : sf_B 2 12 (m_60505 24) := by rw [W_60505 24 (by decide)]; exact B59322
                  have W60509 : rf_W [] m m_60505 := W59317.trans W_60505 (by decide)
                  have W60510 : rf_W [] m m_60505 := W59318.trans W_60505 (by decide)
                  have W60511 : rf_W [] m_53408 m_60505 := W_59314.trans W_60505 (by decide)
                  refine pm_R_lo pm_M216 (pc' := 112) (pm_q216_1 (Nat.le_of_ble_eq_true rfl)) rfl rfl ?_
                  refine pm_R_lo pm_M216 (pc' := 113) (pm_q216_1 (Nat.le_of_ble_eq_true rfl)) rfl rfl ?_
                  refine sf_R_iadd pm_M216 (pc' := 114) (pm_q216_1 (Nat.le_of_ble_eq_true rfl)) rfl Bx2_60505 B59321 (by decide) (by decide) (fun z60512 e60513 B60514 => ?_)
                  refine pm_R_lo pm_M216 (pc' := 115) (pm_q216_1 (Nat.le_of_ble_eq_true rfl)) rfl rfl ?_
                  refine rf_R_get pm_M216 T_60505 (pc' := 118) (v := .int (m_60505 24)) (pm_q216_1 (Nat.le_of_ble_eq_true rfl)) rfl rfl rfl ?_
                  refine pm_R_icmp pm_M216 (t := 163) (pc' := 121) (pm_q216_1 (Nat.le_of_ble_eq_true rfl)) rfl rfl (fun c60515 => ?_) (fun c60515 => ?_)
                  · have B60516 : sf_B 2 22 z60512 := sf_leR c60515 B60508 B60514
                    refine sf_R_iinc pm_M216 (pc' := 166) (ls' := fun z => [.ref 41, .int z, .int x2_60505, g3_60505, g4_53408, g5_53408]) (pm_q216_1 (Nat.le_of_ble_eq_true rfl)) B59321 rfl (by decide) (by decide) (by decide) (fun _ => rfl) rfl (fun z60517 e60518 B60519 => ?_)
                    show pm_R _ 216 166 [.ref 41, .int z60517, .int x2_60505, g3_60505, g4_53408, g5_53408] [] _ _
                    refine pm_R_br pm_M216 (pc' := 101) (pm_q216_1 (Nat.le_of_ble_eq_true rfl)) rfl ?_
                    exact ih_59314 _ (sf_up hN_59314 e60518 B59321 (by decide) (by decide)) h_60505 m_60505 w_60505 z60517 (.int x2_60505) (g3_60505) T_60505 F_60505 W60511 (sf_weak B60519 (by decide) (by decide)) rfl rfl
                  · have B60520 : sf_B 1 11 z60512 := sf_ltL (Int32.not_le.mp c60515) B60514 B60508
                    have B60521 : sf_B 0 10 x2_60505 := sf_addL e60513 B60520 B59321 Bx2_60505
                    refine pm_R_op pm_M216 (pc' := 122) (st' := [.int 0]) (pm_q216_1 (Nat.le_of_ble_eq_true rfl)) rfl rfl ?_
                    refine pm_R_lo pm_M216 (pc' := 123) (ls' := [.ref 41, .int x1_59314, .int x2_60505, .int 0, g4_53408, g5_53408]) (st' := []) (pm_q216_1 (Nat.le_of_ble_eq_true rfl)) rfl rfl ?_
                    have L_60747 : ∀ (N : Nat) (h_60747 : pm_H) (m_60747 : Nat → Int32) (w_60747 : Int64) (x3_60747 : Int32), rf_T m_60747 w_60747 h_60747 → rf_G [54] h h_60747 → rf_W [] m_60505 m_60747 → sf_B 0 6 x3_60747 → (6 - x3_60747.toInt).toNat = N → pm_R (d + 4) 216 123 [.ref 41, .int x1_59314, .int x2_60505, .int x3_60747, g4_53408, g5_53408] [] h_60747 Q := by
                      intro N
                      induction N using Nat.strongRecOn with
                      | ind N ih_60747 =>
                        intro h_60747 m_60747 w_60747 x3_60747 T_60747 F_60747 W_60747 Bx3_60747 hN_60747
                        have B60750 : sf_B 2 12 (m_60747 24) := by rw [W_60747 24 (by decide)]; exact B60508
                        have W60751 : rf_W [] m m_60747 := W60509.trans W_60747 (by decide)
                        have W60752 : rf_W [] m m_60747 := W60510.trans W_60747 (by decide)
                        have W60753 : rf_W [] m_53408 m_60747 := W60511.trans W_60747 (by decide)
                        have W60754 : rf_W [] m_59314 m_60747 := W_60505.trans W_60747 (by decide)
                        refine pm_R_lo pm_M216 (pc' := 124) (pm_q216_1 (Nat.le_of_ble_eq_true rfl)) rfl rfl ?_
                        refine pm_R_op pm_M216 (pc' := 126) (st' := [.int 6, .int x3_60747]) (pm_q216_1 (Nat.le_of_ble_eq_true rfl)) rfl rfl ?_
                        refine pm_R_icmp pm_M216 (t := 157) (pc' := 129) (pm_q216_1 (Nat.le_of_ble_eq_true rfl)) rfl rfl (fun c60755 => ?_) (fun c60755 => ?_)
                        · have B60756 : sf_B 6 6 x3_60747 := sf_leR c60755 sf_k6 Bx3_60747
                          refine sf_R_iinc pm_M216 (pc' := 160) (ls' := fun z => [.ref 41, .int x1_59314, .int z, .int x3_60747, g4_53408, g5_53408]) (pm_q216_1 (Nat.le_of_ble_eq_true rfl)) B60521 rfl (by decide) (by decide) (by decide) (fun _ => rfl) rfl (fun z60757 e60758 B60759 => ?_)
                          show pm_R _ 216 160 [.ref 41, .int x1_59314, .int z60757, .int x3_60747, g4_53408, g5_53408] [] _ _
                          refine pm_R_br pm_M216 (pc' := 111) (pm_q216_1 (Nat.le_of_ble_eq_true rfl)) rfl ?_
                          exact ih_60505 _ (sf_up hN_60505 e60758 B60521 (by decide) (by decide)) h_60747 m_60747 w_60747 z60757 (.int x3_60747) T_60747 F_60747 W60754 (sf_weak B60759 (by decide) (by decide)) rfl
                        · have B60760 : sf_B 0 5 x3_60747 := sf_ltL (Int32.not_le.mp c60755) Bx3_60747 sf_k6
                          refine pm_R_lo pm_M216 (pc' := 130) (pm_q216_1 (Nat.le_of_ble_eq_true rfl)) rfl rfl ?_
                          refine rf_R_get pm_M216 T_60747 (pc' := 133) (v := .ref 54) (pm_q216_1 (Nat.le_of_ble_eq_true rfl)) rfl rfl rfl ?_
                          refine pm_R_lo pm_M216 (pc' := 134) (pm_q216_1 (Nat.le_of_ble_eq_true rfl)) rfl rfl ?_
                          refine pm_R_lo pm_M216 (pc' := 135) (pm_q216_1 (Nat.le_of_ble_eq_true rfl)) rfl rfl ?_
                          refine pm_R_lo pm_M216 (pc' := 136) (pm_q216_1 (Nat.le_of_ble_eq_true rfl)) rfl rfl ?_
                          refine pm_R_lo pm_M216 (pc' := 137) (pm_q216_1 (Nat.le_of_ble_eq_true rfl)) rfl rfl ?_
                          refine sf_R_iadd pm_M216 (pc' := 138) (pm_q216_1 (Nat.le_of_ble_eq_true rfl)) rfl B60521 B59321 (by decide) (by decide) (fun z60761 e60762 B60763 => ?_)
                          have B60764 : sf_B 1 11 z60761 := sf_same e60513 e60762 B60520
                          refine pm_R_cs pm_M216 (pc' := 141) (ra := [.int z60761, .int x2_60505, .int x3_60747]) (rest := [.ref 54]) (ls' := [.int x3_60747, .int x2_60505, .int z60761]) (pm_q216_1 (Nat.le_of_ble_eq_true rfl)) rfl (Or.inl rfl) pm_M207 rfl rfl (Nat.le_of_ble_eq_true rfl) rfl rfl ?_
                          refine pm_R_op pm_M207 (pc' := 3) (st' := [.int 144]) rfl rfl rfl ?_
                          refine pm_R_lo pm_M207 (pc' := 4) rfl rfl rfl ?_
                          refine sf_R_imul pm_M207 (pc' := 5) rfl rfl sf_k144 B60760 (by decide) (by decide) (by decide) (fun z60765 e60766 B60767 => ?_)
                          refine pm_R_op pm_M207 (pc' := 7) (st' := [.int 12, .int z60765]) rfl rfl rfl ?_
                          refine pm_R_lo pm_M207 (pc' := 8) rfl rfl rfl ?_
                          refine sf_R_imul pm_M207 (pc' := 9) rfl rfl sf_k12 B60521 (by decide) (by decide) (by decide) (fun z60768 e60769 B60770 => ?_)
                          refine sf_R_iadd pm_M207 (pc' := 10) rfl rfl B60767 B60770 (by decide) (by decide) (fun z60771 e60772 B60773 => ?_)
                          refine pm_R_lo pm_M207 (pc' := 11) rfl rfl rfl ?_
                          refine sf_R_iadd pm_M207 (pc' := 12) rfl rfl B60773 B60764 (by decide) (by decide) (fun z60774 e60775 B60776 => ?_)
                          refine pm_R_ret pm_M207 (r := some (.int z60774)) rfl (pm_ret_i _) ?_
                          show pm_R _ 216 141 [.ref 41, .int x1_59314, .int x2_60505, .int x3_60747, g4_53408, g5_53408] [.int z60774, .ref 54] _ _
                          refine pm_R_lo pm_M216 (pc' := 142) (pm_q216_1 (Nat.le_of_ble_eq_true rfl)) rfl rfl ?_
                          refine pm_R_lo pm_M216 (pc' := 143) (pm_q216_1 (Nat.le_of_ble_eq_true rfl)) rfl rfl ?_
                          refine pm_R_lo pm_M216 (pc' := 144) (pm_q216_1 (Nat.le_of_ble_eq_true rfl)) rfl rfl ?_
                          refine pm_R_lo pm_M216 (pc' := 145) (pm_q216_1 (Nat.le_of_ble_eq_true rfl)) rfl rfl ?_
                          refine pm_R_lo pm_M216 (pc' := 146) (pm_q216_1 (Nat.le_of_ble_eq_true rfl)) rfl rfl ?_
                          refine sf_R_iadd pm_M216 (pc' := 147) (pm_q216_1 (Nat.le_of_ble_eq_true rfl)) rfl B60521 B59321 (by decide) (by decide) (fun z60777 e60778 B60779 => ?_)
                          have B60780 : sf_B 1 11 z60777 := sf_same e60762 e60778 B60764
                          refine pm_R_cv pm_M216 (pc' := 150) (a := 41) (ra := [.int z60777, .int x2_60505, .int x3_60747]) (rest := [.int z60774, .ref 54]) (ls' := [.ref 41, .int x3_60747, .int x2_60505, .int z60777, pm_no, pm_no, pm_no, pm_no]) (pm_q216_1 (Nat.le_of_ble_eq_true rfl)) rfl (Or.inl rfl) pm_M217 T_60747.2.1 rfl (by decide) (Nat.lt_of_lt_of_le (by decide) T_60747.1) rfl rfl (Nat.le_of_ble_eq_true rfl) rfl rfl ?_
                          refine rf_c217 (d := d + 0) T_60747 B60760 (sf_weak B60521 (by decide) (by decide)) (sf_weak B60780 (by decide) (by decide)) (fun r60781 => ?_)
                          show pm_R _ 216 150 [.ref 41, .int x1_59314, .int x2_60505, .int x3_60747, g4_53408, g5_53408] [.long r60781, .int z60774, .ref 54] _ _
                          obtain ⟨f60789, e60790⟩ := T_60747.2.2.2.1 54 (by decide) (by decide)
                          refine rf_R_lst pm_M216 T_60747 (pc' := 151) (pm_q216_1 (Nat.le_of_ble_eq_true rfl)) e60790 (by decide) (by decide) (sf_in B60776 (by decide) (by decide)) ⟨_, rfl⟩ rfl (fun h60792 T60793 F60794 e60795 => ?_)
                          have F60796 := F_60747.trans F60794 (by decide)
                          refine sf_R_iinc pm_M216 (pc' := 154) (ls' := fun z => [.ref 41, .int x1_59314, .int x2_60505, .int z, g4_53408, g5_53408]) (pm_q216_1 (Nat.le_of_ble_eq_true rfl)) B60760 rfl (by decide) (by decide) (by decide) (fun _ => rfl) rfl (fun z60797 e60798 B60799 => ?_)
                          show pm_R _ 216 154 [.ref 41, .int x1_59314, .int x2_60505, .int z60797, g4_53408, g5_53408] [] _ _
                          refine pm_R_br pm_M216 (pc' := 123) (pm_q216_1 (Nat.le_of_ble_eq_true rfl)) rfl ?_
                          exact ih_60747 _ (sf_up hN_60747 e60798 B60760 (by decide) (by decide)) h60792 m_60747 w_60747 z60797 T60793 F60796 W_60747 (sf_weak B60799 (by decide) (by decide)) rfl
                    exact L_60747 _ h_60505 m_60505 w_60505 0 T_60505 F_60505 (rf_W.refl _ _) (sf_weak sf_k0 (by decide) (by decide)) rfl
              exact L_60505 _ h_59314 m_59314 w_59314 0 (g3_59314) T_59314 F_59314 (rf_W.refl _ _) (sf_weak sf_k0 (by decide) (by decide)) rfl
        exact L_59314 _ h_53408 m_53408 w_53408 1 (g2_53408) (g3_53408) T_53408 F_53408 (rf_W.refl _ _) (sf_weak sf_k1 (by decide) (by decide)) Cg2_53408 rfl
      · have B60800 : sf_B 0 5 x1_53408 := sf_ltL (Int32.not_le.mp c53412) Bx1_53408 sf_k6
        refine pm_R_op pm_M216 (pc' := 9) (st' := [.int 0]) rfl rfl rfl ?_
        refine pm_R_lo pm_M216 (pc' := 10) (ls' := [.ref 41, .int x1_53408, .int 0, g3_53408, g4_53408, g5_53408]) (st' := []) rfl rfl rfl ?_
        have L_67491 : ∀ (N : Nat) (h_67491 : pm_H) (m_67491 : Nat → Int32) (w_67491 : Int64) (x2_67491 : Int32) (g3_67491 : Value) (g4_67491 : Value) (g5_67491 : Value), rf_T m_67491 w_67491 h_67491 → rf_G [54] h h_67491 → rf_W [] m_53408 m_67491 → sf_B 0 12 x2_67491 → g4_67491.category = 1 → g5_67491.category = 1 → (12 - x2_67491.toInt).toNat = N → pm_R (d + 4) 216 10 [.ref 41, .int x1_53408, .int x2_67491, g3_67491, g4_67491, g5_67491] [] h_67491 Q := by
          intro N
          induction N using Nat.strongRecOn with
          | ind N ih_67491 =>
            intro h_67491 m_67491 w_67491 x2_67491 g3_67491 g4_67491 g5_67491 T_67491 F_67491 W_67491 Bx2_67491 Cg4_67491 Cg5_67491 hN_67491
            have W67494 : rf_W [] m m_67491 := W53411.trans W_67491 (by decide)
            have W67495 : rf_W [] m m_67491 := W_53408.trans W_67491 (by decide)
            refine pm_R_lo pm_M216 (pc' := 11) rfl rfl rfl ?_
            refine pm_R_lo pm_M216 (pc' := 12) rfl rfl rfl ?_
            have B67496 : sf_B 0 12 (m_67491 24) := T_67491.2.2.1 24
            refine rf_R_get pm_M216 T_67491 (pc' := 15) (v := .int (m_67491 24)) rfl rfl rfl rfl ?_
            refine pm_R_icmp pm_M216 (t := 93) (pc' := 18) rfl rfl rfl (fun c67497 => ?_) (fun c67497 => ?_)
            · skip
              refine sf_R_iinc pm_M216 (pc' := 96) (ls' := fun z => [.ref 41, .int z, .int x2_67491, g3_67491, g4_67491, g5_67491]) rfl B60800 rfl (by decide) (by decide) (by decide) (fun _ => rfl) rfl (fun z67498 e67499 B67500 => ?_)
              show pm_R _ 216 96 [.ref 41, .int z67498, .int x2_67491, g3_67491, g4_67491, g5_67491] [] _ _
              refine pm_R_br pm_M216 (pc' := 2) rfl rfl ?_
              exact ih_53408 _ (sf_up hN_53408 e67499 B60800 (by decide) (by decide)) h_67491 m_67491 w_67491 z67498 (.int x2_67491) (g3_67491) (g4_67491) (g5_67491) T_67491 F_67491 W67495 (sf_weak B67500 (by decide) (by decide)) rfl Cg4_67491 Cg5_67491 rfl
            · have B67501 : sf_B 0 11 x2_67491 := sf_ltL (Int32.not_le.mp c67497) Bx2_67491 B67496
              have B67502 : sf_B 1 12 (m_67491 24) := sf_ltR (Int32.not_le.mp c67497) Bx2_67491 B67496
              refine pm_R_op pm_M216 (pc' := 19) (st' := [.long 0]) rfl rfl rfl ?_
              refine pm_R_lo pm_M216 (pc' := 20) (ls' := [.ref 41, .int x1_53408, .int x2_67491, .long 0, pm_no, g5_67491]) (st' := []) rfl rfl rfl ?_
              refine pm_R_op pm_M216 (pc' := 21) (st' := [.int 0]) rfl rfl rfl ?_
              refine pm_R_lo pm_M216 (pc' := 23) (ls' := [.ref 41, .int x1_53408, .int x2_67491, .long 0, pm_no, .int 0]) (st' := []) rfl rfl rfl ?_
              have L_68605 : ∀ (N : Nat) (x5_68605 : Int32) (y3_68605 : Int64), sf_B 0 16 x5_68605 → (16 - x5_68605.toInt).toNat = N → pm_R (d + 4) 216 23 [.ref 41, .int x1_53408, .int x2_67491, .long y3_68605, pm_no, .int x5_68605] [] h_67491 Q := by
                intro N
                induction N using Nat.strongRecOn with
                | ind N ih_68605 =>
                  intro x5_68605 y3_68605 Bx5_68605 hN_68605
                  refine pm_R_lo pm_M216 (pc' := 25) rfl rfl rfl ?_
                  refine pm_R_lo pm_M216 (pc' := 26) rfl rfl rfl ?_
                  refine pm_R_cv pm_M216 (pc' := 29) (a := 41) (ra := []) (rest := [.int x5_68605]) (ls' := [.ref 41]) rfl rfl (Or.inl rfl) pm_M203 T_67491.2.1 rfl (by decide) (Nat.lt_of_lt_of_le (by decide) T_67491.1) rfl rfl (Nat.le_of_ble_eq_true rfl) rfl rfl ?_
                  refine pm_R_lo pm_M203 (pc' := 1) rfl rfl rfl ?_
                  refine rf_R_get pm_M203 T_67491 (pc' := 4) (v := .ref 47) rfl rfl rfl rfl ?_
                  refine pm_R_op pm_M203 (pc' := 6) (st' := [.int 100, .ref 47]) rfl rfl rfl ?_
                  refine pm_R_lo pm_M203 (pc' := 7) rfl rfl rfl ?_
                  have B68606 : sf_B 0 1 (m_67491 23) := T_67491.2.2.1 23
                  refine rf_R_get pm_M203 T_67491 (pc' := 10) (v := .int (m_67491 23)) rfl rfl rfl rfl ?_
                  refine sf_R_imul pm_M203 (pc' := 11) rfl rfl sf_k100 B68606 (by decide) (by decide) (by decide) (fun z68607 e68608 B68609 => ?_)
                  refine pm_R_op pm_M203 (pc' := 12) (st' := [.int 1, .int z68607, .ref 47]) rfl rfl rfl ?_
                  refine sf_R_iadd pm_M203 (pc' := 13) rfl rfl B68609 sf_k1 (by decide) (by decide) (fun z68610 e68611 B68612 => ?_)
                  obtain ⟨f68613, e68614, b68615⟩ := T_67491.2.2.2.1 47 (by decide) (by decide)
                  refine rf_R_ild pm_M203 T_67491 (pc' := 14) rfl e68614 (by decide) (sf_in B68612 (by decide) (by decide)) rfl (fun z68616 ez68617 => ?_)
                  have e68618 : (z68610).toInt = 100 * ((m_67491 23)).toInt + 1 := by
                    have q0 := e68608
                    have q1 := e68611
                    simp only [(show (1 : Int32).toInt = 1 from rfl), (show (100 : Int32).toInt = 100 from rfl)] at q0 q1
                    omega
                  have B68619 : sf_B 0 16 z68616 := ez68617 ▸ rf_p47b b68615 e68618 B68606 (by decide)
                  refine pm_R_ret pm_M203 (r := some (.int z68616)) rfl (pm_ret_i _) ?_
                  show pm_R _ 216 29 [.ref 41, .int x1_53408, .int x2_67491, .long y3_68605, pm_no, .int x5_68605] [.int z68616, .int x5_68605] _ _
                  refine pm_R_icmp pm_M216 (t := 75) (pc' := 32) rfl rfl rfl (fun c68620 => ?_) (fun c68620 => ?_)
                  · skip
                    refine pm_R_lo pm_M216 (pc' := 76) rfl rfl rfl ?_
                    refine rf_R_get pm_M216 T_67491 (pc' := 79) (v := .ref 54) rfl rfl rfl rfl ?_
                    refine pm_R_lo pm_M216 (pc' := 80) rfl rfl rfl ?_
                    refine pm_R_lo pm_M216 (pc' := 81) rfl rfl rfl ?_
                    refine pm_R_lo pm_M216 (pc' := 82) rfl rfl rfl ?_
                    refine pm_R_cs pm_M216 (pc' := 85) (ra := [.int x2_67491, .int x2_67491, .int x1_53408]) (rest := [.ref 54]) (ls' := [.int x1_53408, .int x2_67491, .int x2_67491]) rfl rfl (Or.inl rfl) pm_M207 rfl rfl (Nat.le_of_ble_eq_true rfl) rfl rfl ?_
                    refine pm_R_op pm_M207 (pc' := 3) (st' := [.int 144]) rfl rfl rfl ?_
                    refine pm_R_lo pm_M207 (pc' := 4) rfl rfl rfl ?_
                    refine sf_R_imul pm_M207 (pc' := 5) rfl rfl sf_k144 B60800 (by decide) (by decide) (by decide) (fun z68621 e68622 B68623 => ?_)
                    refine pm_R_op pm_M207 (pc' := 7) (st' := [.int 12, .int z68621]) rfl rfl rfl ?_
                    refine pm_R_lo pm_M207 (pc' := 8) rfl rfl rfl ?_
                    refine sf_R_imul pm_M207 (pc' := 9) rfl rfl sf_k12 B67501 (by decide) (by decide) (by decide) (fun z68624 e68625 B68626 => ?_)
                    refine sf_R_iadd pm_M207 (pc' := 10) rfl rfl B68623 B68626 (by decide) (by decide) (fun z68627 e68628 B68629 => ?_)
                    refine pm_R_lo pm_M207 (pc' := 11) rfl rfl rfl ?_
                    refine sf_R_iadd pm_M207 (pc' := 12) rfl rfl B68629 B67501 (by decide) (by decide) (fun z68630 e68631 B68632 => ?_)
                    refine pm_R_ret pm_M207 (r := some (.int z68630)) rfl (pm_ret_i _) ?_
                    show pm_R _ 216 85 [.ref 41, .int x1_53408, .int x2_67491, .long y3_68605, pm_no, .int x5_68605] [.int z68630, .ref 54] _ _
                    refine pm_R_lo pm_M216 (pc' := 86) rfl rfl rfl ?_
                    obtain ⟨f68633, e68634⟩ := T_67491.2.2.2.1 54 (by decide) (by decide)
                    refine rf_R_lst pm_M216 T_67491 (pc' := 87) rfl e68634 (by decide) (by decide) (sf_in B68632 (by decide) (by decide)) ⟨_, rfl⟩ rfl (fun h68636 T68637 F68638 e68639 => ?_)
                    have F68640 := F_67491.trans F68638 (by decide)
                    refine sf_R_iinc pm_M216 (pc' := 90) (ls' := fun z => [.ref 41, .int x1_53408, .int z, .long y3_68605, pm_no, .int x5_68605]) rfl B67501 rfl (by decide) (by decide) (by decide) (fun _ => rfl) rfl (fun z68641 e68642 B68643 => ?_)
                    show pm_R _ 216 90 [.ref 41, .int x1_53408, .int z68641, .long y3_68605, pm_no, .int x5_68605] [] _ _
                    refine pm_R_br pm_M216 (pc' := 10) rfl rfl ?_
                    exact ih_67491 _ (sf_up hN_67491 e68642 B67501 (by decide) (by decide)) h68636 m_67491 w_67491 z68641 (.long y3_68605) (pm_no) (.int x5_68605) T68637 F68640 W_67491 (sf_weak B68643 (by decide) (by decide)) rfl rfl rfl
                  · have B68644 : sf_B 0 15 x5_68605 := sf_ltL (Int32.not_le.mp c68620) Bx5_68605 B68619
                    have B68645 : sf_B 1 16 z68616 := sf_ltR (Int32.not_le.mp c68620) Bx5_68605 B68619
                    refine pm_R_lo pm_M216 (pc' := 33) rfl rfl rfl ?_
                    refine pm_R_lo pm_M216 (pc' := 34) rfl rfl rfl ?_
                    refine pm_R_lo pm_M216 (pc' := 36) rfl rfl rfl ?_
                    refine pm_R_lo pm_M216 (pc' := 37) rfl rfl rfl ?_
                    refine pm_R_cv pm_M216 (pc' := 40) (a := 41) (ra := [.int x2_67491, .int x5_68605]) (rest := [.long y3_68605]) (ls' := [.ref 41, .int x5_68605, .int x2_67491]) rfl rfl (Or.inl rfl) pm_M204 T_67491.2.1 rfl (by decide) (Nat.lt_of_lt_of_le (by decide) T_67491.1) rfl rfl (Nat.le_of_ble_eq_true rfl) rfl rfl ?_
                    refine pm_R_lo pm_M204 (pc' := 1) rfl rfl rfl ?_
                    refine rf_R_get pm_M204 T_67491 (pc' := 4) (v := .ref 53) rfl rfl rfl rfl ?_
                    refine pm_R_lo pm_M204 (pc' := 5) rfl rfl rfl ?_
                    obtain ⟨f68646, e68647⟩ := T_67491.2.2.2.1 53 (by decide) (by decide)
                    refine rf_R_ild pm_M204 T_67491 (pc' := 6) rfl e68647 (by decide) (sf_in B67501 (by decide) (by decide)) rfl (fun z68649 ez68650 => ?_)
                    refine sf_R_lany pm_M204 (pc' := 7) (st := []) rfl rfl rfl (fun z68651 => ?_)
                    refine pm_R_lo pm_M204 (pc' := 8) rfl rfl rfl ?_
                    refine pm_R_lo pm_M204 (pc' := 9) rfl rfl rfl ?_
                    refine pm_R_op pm_M204 (pc' := 10) (st' := [.int 0, .int x5_68605, .ref 41, .long z68651]) rfl rfl rfl ?_
                    refine pm_R_cv pm_M204 (pc' := 13) (a := 41) (ra := [.int 0, .int x5_68605]) (rest := [.long z68651]) (ls' := [.ref 41, .int x5_68605, .int 0]) rfl rfl (Or.inl rfl) pm_M205 T_67491.2.1 rfl (by decide) (Nat.lt_of_lt_of_le (by decide) T_67491.1) rfl rfl (Nat.le_of_ble_eq_true rfl) rfl rfl ?_
                    refine pm_R_lo pm_M205 (pc' := 1) rfl rfl rfl ?_
                    refine rf_R_get pm_M205 T_67491 (pc' := 4) (v := .ref 47) rfl rfl rfl rfl ?_
                    refine pm_R_op pm_M205 (pc' := 6) (st' := [.int 100, .ref 47]) rfl rfl rfl ?_
                    refine pm_R_lo pm_M205 (pc' := 7) rfl rfl rfl ?_
                    refine rf_R_get pm_M205 T_67491 (pc' := 10) (v := .int (m_67491 23)) rfl rfl rfl rfl ?_
                    refine sf_R_imul pm_M205 (pc' := 11) rfl rfl sf_k100 B68606 (by decide) (by decide) (by decide) (fun z68652 e68653 B68654 => ?_)
                    refine pm_R_op pm_M205 (pc' := 13) (st' := [.int 42, .int z68652, .ref 47]) rfl rfl rfl ?_
                    refine sf_R_iadd pm_M205 (pc' := 14) rfl rfl B68654 sf_k42 (by decide) (by decide) (fun z68655 e68656 B68657 => ?_)
                    refine pm_R_op pm_M205 (pc' := 15) (st' := [.int 3, .int z68655, .ref 47]) rfl rfl rfl ?_
                    refine pm_R_lo pm_M205 (pc' := 16) rfl rfl rfl ?_
                    refine sf_R_imul pm_M205 (pc' := 17) rfl rfl sf_k3 B68644 (by decide) (by decide) (by decide) (fun z68658 e68659 B68660 => ?_)
                    refine sf_R_iadd pm_M205 (pc' := 18) rfl rfl B68657 B68660 (by decide) (by decide) (fun z68661 e68662 B68663 => ?_)
                    refine pm_R_lo pm_M205 (pc' := 19) rfl rfl rfl ?_
                    refine sf_R_iadd pm_M205 (pc' := 20) rfl rfl B68663 sf_k0 (by decide) (by decide) (fun z68664 e68665 B68666 => ?_)
                    refine rf_R_ild pm_M205 T_67491 (pc' := 21) rfl e68614 (by decide) (sf_in B68666 (by decide) (by decide)) rfl (fun z68667 ez68668 => ?_)
                    have e68669 : (z68664).toInt = 100 * ((m_67491 23)).toInt + 3 * (x5_68605).toInt + 42 := by
                      have q0 := e68653
                      have q1 := e68656
                      have q2 := e68659
                      have q3 := e68662
                      have q4 := e68665
                      simp only [(show (0 : Int32).toInt = 0 from rfl), (show (3 : Int32).toInt = 3 from rfl), (show (42 : Int32).toInt = 42 from rfl), (show (100 : Int32).toInt = 100 from rfl)] at q0 q1 q2 q3 q4
                      omega
                    have B68670 : sf_B 0 9 z68667 := ez68668 ▸ rf_p47s b68615 e68669 B68606 B68644 (by decide) (by decide) (by decide)
                    refine pm_R_ret pm_M205 (r := some (.int z68667)) rfl (pm_ret_i _) ?_
                    show pm_R _ 204 13 [.ref 41, .int x5_68605, .int x2_67491] [.int z68667, .long z68651] _ _
                    refine pm_R_cs pm_M204 (pc' := 16) (ra := [.int z68667, .long z68651]) (rest := []) (ls' := [.long z68651, pm_no, .int z68667]) rfl rfl (Or.inl rfl) pm_M206 rfl rfl (Nat.le_of_ble_eq_true rfl) rfl rfl ?_
                    refine pm_R_lo pm_M206 (pc' := 1) rfl rfl rfl ?_
                    refine pm_R_lo pm_M206 (pc' := 2) rfl rfl rfl ?_
                    refine sf_R_lany pm_M206 (pc' := 3) (st := []) rfl rfl rfl (fun z68671 => ?_)
                    refine pm_R_op pm_M206 (pc' := 4) (st' := [.long 1, .long z68671]) rfl rfl rfl ?_
                    refine sf_R_lany pm_M206 (pc' := 5) (st := []) rfl rfl rfl (fun z68672 => ?_)
                    refine pm_R_op pm_M206 (pc' := 6) (st' := [.long 1, .long z68672]) rfl rfl rfl ?_
                    refine sf_R_lcmp pm_M206 (pc' := 7) rfl rfl (fun z68673 e68674 => ?_)
                    refine pm_R_ifc pm_M206 (t := 14) (pc' := 10) rfl rfl rfl (fun c68675 => ?_) (fun c68675 => ?_)
                    · have k68676 := sf_lneC e68674 c68675
                      refine pm_R_op pm_M206 (pc' := 15) (st' := [.int 0]) rfl rfl rfl ?_
                      refine pm_R_ret pm_M206 (r := some (.int 0)) rfl rfl ?_
                      show pm_R _ 204 16 [.ref 41, .int x5_68605, .int x2_67491] [.int 0] _ _
                      refine pm_R_br pm_M204 (pc' := 39) (st' := []) rfl rfl ?_
                      refine pm_R_op pm_M204 (pc' := 40) (st' := [.int 0]) rfl rfl rfl ?_
                      refine pm_R_ret pm_M204 (r := some (.int 0)) rfl rfl ?_
                      show pm_R _ 216 40 [.ref 41, .int x1_53408, .int x2_67491, .long y3_68605, pm_no, .int x5_68605] [.int 0, .long y3_68605] _ _
                      refine pm_R_br pm_M216 (pc' := 66) (st' := [.long y3_68605]) rfl rfl ?_
                      refine pm_R_op pm_M216 (pc' := 67) (st' := [.long 0, .long y3_68605]) rfl rfl rfl ?_
                      refine sf_R_lany pm_M216 (pc' := 68) (st := []) rfl rfl rfl (fun z68677 => ?_)
                      refine pm_R_lo pm_M216 (pc' := 69) (ls' := [.ref 41, .int x1_53408, .int x2_67491, .long z68677, pm_no, .int x5_68605]) (st' := []) rfl rfl rfl ?_
                      refine sf_R_iinc pm_M216 (pc' := 72) (ls' := fun z => [.ref 41, .int x1_53408, .int x2_67491, .long z68677, pm_no, .int z]) rfl B68644 rfl (by decide) (by decide) (by decide) (fun _ => rfl) rfl (fun z68678 e68679 B68680 => ?_)
                      show pm_R _ 216 72 [.ref 41, .int x1_53408, .int x2_67491, .long z68677, pm_no, .int z68678] [] _ _
                      refine pm_R_br pm_M216 (pc' := 23) rfl rfl ?_
                      exact ih_68605 _ (sf_up hN_68605 e68679 B68644 (by decide) (by decide)) z68678 z68677 (sf_weak B68680 (by decide) (by decide)) rfl
                    · have B68681 : sf_B 0 0 z68673 := sf_eqL (Classical.not_not.mp c68675) sf_k0
                      refine pm_R_op pm_M206 (pc' := 11) (st' := [.int 1]) rfl rfl rfl ?_
                      refine pm_R_br pm_M206 (pc' := 15) rfl rfl ?_
                      refine pm_R_ret pm_M206 (r := some (.int 1)) rfl rfl ?_
                      show pm_R _ 204 16 [.ref 41, .int x5_68605, .int x2_67491] [.int 1] _ _
                      refine pm_R_br pm_M204 (pc' := 19) (st' := []) rfl rfl ?_
                      refine pm_R_lo pm_M204 (pc' := 20) rfl rfl rfl ?_
                      have B68682 : sf_B (-1) 11 (m_67491 26) := T_67491.2.2.1 26
                      refine rf_R_get pm_M204 T_67491 (pc' := 23) (v := .int (m_67491 26)) rfl rfl rfl rfl ?_
                      refine pm_R_lo pm_M204 (pc' := 24) rfl rfl rfl ?_
                      refine pm_R_icmp pm_M204 (t := 35) (pc' := 27) rfl rfl rfl (fun c68683 => ?_) (fun c68683 => ?_)
                      · skip
                        refine pm_R_op pm_M204 (pc' := 36) (st' := [.int 1]) rfl rfl rfl ?_
                        refine pm_R_br pm_M204 (pc' := 40) rfl rfl ?_
                        refine pm_R_ret pm_M204 (r := some (.int 1)) rfl rfl ?_
                        show pm_R _ 216 40 [.ref 41, .int x1_53408, .int x2_67491, .long y3_68605, pm_no, .int x5_68605] [.int 1, .long y3_68605] _ _
                        refine pm_R_br pm_M216 (pc' := 43) (st' := [.long y3_68605]) rfl rfl ?_
                        refine pm_R_lo pm_M216 (pc' := 44) rfl rfl rfl ?_
                        refine pm_R_lo pm_M216 (pc' := 46) rfl rfl rfl ?_
                        refine pm_R_op pm_M216 (pc' := 47) (st' := [.int 1, .int x5_68605, .ref 41, .long y3_68605]) rfl rfl rfl ?_
                        refine pm_R_cv pm_M216 (pc' := 50) (a := 41) (ra := [.int 1, .int x5_68605]) (rest := [.long y3_68605]) (ls' := [.ref 41, .int x5_68605, .int 1]) rfl rfl (Or.inl rfl) pm_M205 T_67491.2.1 rfl (by decide) (Nat.lt_of_lt_of_le (by decide) T_67491.1) rfl rfl (Nat.le_of_ble_eq_true rfl) rfl rfl ?_
                        refine pm_R_lo pm_M205 (pc' := 1) rfl rfl rfl ?_
                        refine rf_R_get pm_M205 T_67491 (pc' := 4) (v := .ref 47) rfl rfl rfl rfl ?_
                        refine pm_R_op pm_M205 (pc' := 6) (st' := [.int 100, .ref 47]) rfl rfl rfl ?_
                        refine pm_R_lo pm_M205 (pc' := 7) rfl rfl rfl ?_
                        refine rf_R_get pm_M205 T_67491 (pc' := 10) (v := .int (m_67491 23)) rfl rfl rfl rfl ?_
                        refine sf_R_imul pm_M205 (pc' := 11) rfl rfl sf_k100 B68606 (by decide) (by decide) (by decide) (fun z68684 e68685 B68686 => ?_)
                        refine pm_R_op pm_M205 (pc' := 13) (st' := [.int 42, .int z68684, .ref 47]) rfl rfl rfl ?_
                        refine sf_R_iadd pm_M205 (pc' := 14) rfl rfl B68686 sf_k42 (by decide) (by decide) (fun z68687 e68688 B68689 => ?_)
                        refine pm_R_op pm_M205 (pc' := 15) (st' := [.int 3, .int z68687, .ref 47]) rfl rfl rfl ?_
                        refine pm_R_lo pm_M205 (pc' := 16) rfl rfl rfl ?_
                        refine sf_R_imul pm_M205 (pc' := 17) rfl rfl sf_k3 B68644 (by decide) (by decide) (by decide) (fun z68690 e68691 B68692 => ?_)
                        refine sf_R_iadd pm_M205 (pc' := 18) rfl rfl B68689 B68692 (by decide) (by decide) (fun z68693 e68694 B68695 => ?_)
                        refine pm_R_lo pm_M205 (pc' := 19) rfl rfl rfl ?_
                        refine sf_R_iadd pm_M205 (pc' := 20) rfl rfl B68695 sf_k1 (by decide) (by decide) (fun z68696 e68697 B68698 => ?_)
                        refine rf_R_ild pm_M205 T_67491 (pc' := 21) rfl e68614 (by decide) (sf_in B68698 (by decide) (by decide)) rfl (fun z68699 ez68700 => ?_)
                        have e68701 : (z68696).toInt = 100 * ((m_67491 23)).toInt + 3 * (x5_68605).toInt + 43 := by
                          have q0 := e68685
                          have q1 := e68688
                          have q2 := e68691
                          have q3 := e68694
                          have q4 := e68697
                          simp only [(show (1 : Int32).toInt = 1 from rfl), (show (3 : Int32).toInt = 3 from rfl), (show (42 : Int32).toInt = 42 from rfl), (show (100 : Int32).toInt = 100 from rfl)] at q0 q1 q2 q3 q4
                          omega
                        have B68702 : sf_B 0 5 z68699 := ez68700 ▸ rf_p47k b68615 e68701 B68606 B68644 (by decide) (by decide) (by decide)
                        refine pm_R_ret pm_M205 (r := some (.int z68699)) rfl (pm_ret_i _) ?_
                        show pm_R _ 216 50 [.ref 41, .int x1_53408, .int x2_67491, .long y3_68605, pm_no, .int x5_68605] [.int z68699, .long y3_68605] _ _
                        refine pm_R_lo pm_M216 (pc' := 51) rfl rfl rfl ?_
                        refine pm_R_icmp pm_M216 (t := 66) (pc' := 54) rfl rfl rfl (fun c68703 => ?_) (fun c68703 => ?_)
                        · skip
                          refine pm_R_op pm_M216 (pc' := 67) (st' := [.long 0, .long y3_68605]) rfl rfl rfl ?_
                          refine sf_R_lany pm_M216 (pc' := 68) (st := []) rfl rfl rfl (fun z68704 => ?_)
                          refine pm_R_lo pm_M216 (pc' := 69) (ls' := [.ref 41, .int x1_53408, .int x2_67491, .long z68704, pm_no, .int x5_68605]) (st' := []) rfl rfl rfl ?_
                          refine sf_R_iinc pm_M216 (pc' := 72) (ls' := fun z => [.ref 41, .int x1_53408, .int x2_67491, .long z68704, pm_no, .int z]) rfl B68644 rfl (by decide) (by decide) (by decide) (fun _ => rfl) rfl (fun z68705 e68706 B68707 => ?_)
                          show pm_R _ 216 72 [.ref 41, .int x1_53408, .int x2_67491, .long z68704, pm_no, .int z68705] [] _ _
                          refine pm_R_br pm_M216 (pc' := 23) rfl rfl ?_
                          exact ih_68605 _ (sf_up hN_68605 e68706 B68644 (by decide) (by decide)) z68705 z68704 (sf_weak B68707 (by decide) (by decide)) rfl
                        · refine pm_R_op pm_M216 (pc' := 55) (st' := [.long 1, .long y3_68605]) rfl rfl rfl ?_
                          refine pm_R_lo pm_M216 (pc' := 56) rfl rfl rfl ?_
                          refine pm_R_lo pm_M216 (pc' := 58) rfl rfl rfl ?_
                          refine pm_R_op pm_M216 (pc' := 59) (st' := [.int 2, .int x5_68605, .ref 41, .long 1, .long y3_68605]) rfl rfl rfl ?_
                          refine pm_R_cv pm_M216 (pc' := 62) (a := 41) (ra := [.int 2, .int x5_68605]) (rest := [.long 1, .long y3_68605]) (ls' := [.ref 41, .int x5_68605, .int 2]) rfl rfl (Or.inl rfl) pm_M205 T_67491.2.1 rfl (by decide) (Nat.lt_of_lt_of_le (by decide) T_67491.1) rfl rfl (Nat.le_of_ble_eq_true rfl) rfl rfl ?_
                          refine pm_R_lo pm_M205 (pc' := 1) rfl rfl rfl ?_
                          refine rf_R_get pm_M205 T_67491 (pc' := 4) (v := .ref 47) rfl rfl rfl rfl ?_
                          refine pm_R_op pm_M205 (pc' := 6) (st' := [.int 100, .ref 47]) rfl rfl rfl ?_
                          refine pm_R_lo pm_M205 (pc' := 7) rfl rfl rfl ?_
                          refine rf_R_get pm_M205 T_67491 (pc' := 10) (v := .int (m_67491 23)) rfl rfl rfl rfl ?_
                          refine sf_R_imul pm_M205 (pc' := 11) rfl rfl sf_k100 B68606 (by decide) (by decide) (by decide) (fun z68708 e68709 B68710 => ?_)
                          refine pm_R_op pm_M205 (pc' := 13) (st' := [.int 42, .int z68708, .ref 47]) rfl rfl rfl ?_
                          refine sf_R_iadd pm_M205 (pc' := 14) rfl rfl B68710 sf_k42 (by decide) (by decide) (fun z68711 e68712 B68713 => ?_)
                          refine pm_R_op pm_M205 (pc' := 15) (st' := [.int 3, .int z68711, .ref 47]) rfl rfl rfl ?_
                          refine pm_R_lo pm_M205 (pc' := 16) rfl rfl rfl ?_
                          refine sf_R_imul pm_M205 (pc' := 17) rfl rfl sf_k3 B68644 (by decide) (by decide) (by decide) (fun z68714 e68715 B68716 => ?_)
                          refine sf_R_iadd pm_M205 (pc' := 18) rfl rfl B68713 B68716 (by decide) (by decide) (fun z68717 e68718 B68719 => ?_)
                          refine pm_R_lo pm_M205 (pc' := 19) rfl rfl rfl ?_
                          refine sf_R_iadd pm_M205 (pc' := 20) rfl rfl B68719 sf_k2 (by decide) (by decide) (fun z68720 e68721 B68722 => ?_)
                          refine rf_R_ild pm_M205 T_67491 (pc' := 21) rfl e68614 (by decide) (sf_in B68722 (by decide) (by decide)) rfl (fun z68723 ez68724 => ?_)
                          have e68725 : (z68720).toInt = 100 * ((m_67491 23)).toInt + 3 * (x5_68605).toInt + 44 := by
                            have q0 := e68709
                            have q1 := e68712
                            have q2 := e68715
                            have q3 := e68718
                            have q4 := e68721
                            simp only [(show (2 : Int32).toInt = 2 from rfl), (show (3 : Int32).toInt = 3 from rfl), (show (42 : Int32).toInt = 42 from rfl), (show (100 : Int32).toInt = 100 from rfl)] at q0 q1 q2 q3 q4
                            omega
                          have B68726 : sf_B 0 49 z68723 := ez68724 ▸ rf_p47v b68615 e68725 B68606 B68644 (by decide) (by decide) (by decide)
                          refine pm_R_ret pm_M205 (r := some (.int z68723)) rfl (pm_ret_i _) ?_
                          show pm_R _ 216 62 [.ref 41, .int x1_53408, .int x2_67491, .long y3_68605, pm_no, .int x5_68605] [.int z68723, .long 1, .long y3_68605] _ _
                          refine sf_R_lany pm_M216 (pc' := 63) (st := [.long y3_68605]) rfl rfl rfl (fun z68727 => ?_)
                          refine pm_R_br pm_M216 (pc' := 67) rfl rfl ?_
                          refine sf_R_lany pm_M216 (pc' := 68) (st := []) rfl rfl rfl (fun z68728 => ?_)
                          refine pm_R_lo pm_M216 (pc' := 69) (ls' := [.ref 41, .int x1_53408, .int x2_67491, .long z68728, pm_no, .int x5_68605]) (st' := []) rfl rfl rfl ?_
                          refine sf_R_iinc pm_M216 (pc' := 72) (ls' := fun z => [.ref 41, .int x1_53408, .int x2_67491, .long z68728, pm_no, .int z]) rfl B68644 rfl (by decide) (by decide) (by decide) (fun _ => rfl) rfl (fun z68729 e68730 B68731 => ?_)
                          show pm_R _ 216 72 [.ref 41, .int x1_53408, .int x2_67491, .long z68728, pm_no, .int z68729] [] _ _
                          refine pm_R_br pm_M216 (pc' := 23) rfl rfl ?_
                          exact ih_68605 _ (sf_up hN_68605 e68730 B68644 (by decide) (by decide)) z68729 z68728 (sf_weak B68731 (by decide) (by decide)) rfl
                      · have B68732 : sf_B 0 11 (m_67491 26) := sf_eqL (Classical.not_not.mp c68683) B67501
                        refine pm_R_lo pm_M204 (pc' := 28) rfl rfl rfl ?_
                        have B68733 : sf_B 0 15 (m_67491 27) := T_67491.2.2.1 27
                        refine rf_R_get pm_M204 T_67491 (pc' := 31) (v := .int (m_67491 27)) rfl rfl rfl rfl ?_
                        refine pm_R_lo pm_M204 (pc' := 32) rfl rfl rfl ?_
                        refine pm_R_icmp pm_M204 (t := 39) (pc' := 35) rfl rfl rfl (fun c68734 => ?_) (fun c68734 => ?_)
                        · skip
                          refine pm_R_op pm_M204 (pc' := 40) (st' := [.int 0]) rfl rfl rfl ?_
                          refine pm_R_ret pm_M204 (r := some (.int 0)) rfl rfl ?_
                          show pm_R _ 216 40 [.ref 41, .int x1_53408, .int x2_67491, .long y3_68605, pm_no, .int x5_68605] [.int 0, .long y3_68605] _ _
                          refine pm_R_br pm_M216 (pc' := 66) (st' := [.long y3_68605]) rfl rfl ?_
                          refine pm_R_op pm_M216 (pc' := 67) (st' := [.long 0, .long y3_68605]) rfl rfl rfl ?_
                          refine sf_R_lany pm_M216 (pc' := 68) (st := []) rfl rfl rfl (fun z68735 => ?_)
                          refine pm_R_lo pm_M216 (pc' := 69) (ls' := [.ref 41, .int x1_53408, .int x2_67491, .long z68735, pm_no, .int x5_68605]) (st' := []) rfl rfl rfl ?_
                          refine sf_R_iinc pm_M216 (pc' := 72) (ls' := fun z => [.ref 41, .int x1_53408, .int x2_67491, .long z68735, pm_no, .int z]) rfl B68644 rfl (by decide) (by decide) (by decide) (fun _ => rfl) rfl (fun z68736 e68737 B68738 => ?_)
                          show pm_R _ 216 72 [.ref 41, .int x1_53408, .int x2_67491, .long z68735, pm_no, .int z68736] [] _ _
                          refine pm_R_br pm_M216 (pc' := 23) rfl rfl ?_
                          exact ih_68605 _ (sf_up hN_68605 e68737 B68644 (by decide) (by decide)) z68736 z68735 (sf_weak B68738 (by decide) (by decide)) rfl
                        · refine pm_R_op pm_M204 (pc' := 36) (st' := [.int 1]) rfl rfl rfl ?_
                          refine pm_R_br pm_M204 (pc' := 40) rfl rfl ?_
                          refine pm_R_ret pm_M204 (r := some (.int 1)) rfl rfl ?_
                          show pm_R _ 216 40 [.ref 41, .int x1_53408, .int x2_67491, .long y3_68605, pm_no, .int x5_68605] [.int 1, .long y3_68605] _ _
                          refine pm_R_br pm_M216 (pc' := 43) (st' := [.long y3_68605]) rfl rfl ?_
                          refine pm_R_lo pm_M216 (pc' := 44) rfl rfl rfl ?_
                          refine pm_R_lo pm_M216 (pc' := 46) rfl rfl rfl ?_
                          refine pm_R_op pm_M216 (pc' := 47) (st' := [.int 1, .int x5_68605, .ref 41, .long y3_68605]) rfl rfl rfl ?_
                          refine pm_R_cv pm_M216 (pc' := 50) (a := 41) (ra := [.int 1, .int x5_68605]) (rest := [.long y3_68605]) (ls' := [.ref 41, .int x5_68605, .int 1]) rfl rfl (Or.inl rfl) pm_M205 T_67491.2.1 rfl (by decide) (Nat.lt_of_lt_of_le (by decide) T_67491.1) rfl rfl (Nat.le_of_ble_eq_true rfl) rfl rfl ?_
                          refine pm_R_lo pm_M205 (pc' := 1) rfl rfl rfl ?_
                          refine rf_R_get pm_M205 T_67491 (pc' := 4) (v := .ref 47) rfl rfl rfl rfl ?_
                          refine pm_R_op pm_M205 (pc' := 6) (st' := [.int 100, .ref 47]) rfl rfl rfl ?_
                          refine pm_R_lo pm_M205 (pc' := 7) rfl rfl rfl ?_
                          refine rf_R_get pm_M205 T_67491 (pc' := 10) (v := .int (m_67491 23)) rfl rfl rfl rfl ?_
                          refine sf_R_imul pm_M205 (pc' := 11) rfl rfl sf_k100 B68606 (by decide) (by decide) (by decide) (fun z68739 e68740 B68741 => ?_)
                          refine pm_R_op pm_M205 (pc' := 13) (st' := [.int 42, .int z68739, .ref 47]) rfl rfl rfl ?_
                          refine sf_R_iadd pm_M205 (pc' := 14) rfl rfl B68741 sf_k42 (by decide) (by decide) (fun z68742 e68743 B68744 => ?_)
                          refine pm_R_op pm_M205 (pc' := 15) (st' := [.int 3, .int z68742, .ref 47]) rfl rfl rfl ?_
                          refine pm_R_lo pm_M205 (pc' := 16) rfl rfl rfl ?_
                          refine sf_R_imul pm_M205 (pc' := 17) rfl rfl sf_k3 B68644 (by decide) (by decide) (by decide) (fun z68745 e68746 B68747 => ?_)
                          refine sf_R_iadd pm_M205 (pc' := 18) rfl rfl B68744 B68747 (by decide) (by decide) (fun z68748 e68749 B68750 => ?_)
                          refine pm_R_lo pm_M205 (pc' := 19) rfl rfl rfl ?_
                          refine sf_R_iadd pm_M205 (pc' := 20) rfl rfl B68750 sf_k1 (by decide) (by decide) (fun z68751 e68752 B68753 => ?_)
                          refine rf_R_ild pm_M205 T_67491 (pc' := 21) rfl e68614 (by decide) (sf_in B68753 (by decide) (by decide)) rfl (fun z68754 ez68755 => ?_)
                          have e68756 : (z68751).toInt = 100 * ((m_67491 23)).toInt + 3 * (x5_68605).toInt + 43 := by
                            have q0 := e68740
                            have q1 := e68743
                            have q2 := e68746
                            have q3 := e68749
                            have q4 := e68752
                            simp only [(show (1 : Int32).toInt = 1 from rfl), (show (3 : Int32).toInt = 3 from rfl), (show (42 : Int32).toInt = 42 from rfl), (show (100 : Int32).toInt = 100 from rfl)] at q0 q1 q2 q3 q4
                            omega
                          have B68757 : sf_B 0 5 z68754 := ez68755 ▸ rf_p47k b68615 e68756 B68606 B68644 (by decide) (by decide) (by decide)
                          refine pm_R_ret pm_M205 (r := some (.int z68754)) rfl (pm_ret_i _) ?_
                          show pm_R _ 216 50 [.ref 41, .int x1_53408, .int x2_67491, .long y3_68605, pm_no, .int x5_68605] [.int z68754, .long y3_68605] _ _
                          refine pm_R_lo pm_M216 (pc' := 51) rfl rfl rfl ?_
                          refine pm_R_icmp pm_M216 (t := 66) (pc' := 54) rfl rfl rfl (fun c68758 => ?_) (fun c68758 => ?_)
                          · skip
                            refine pm_R_op pm_M216 (pc' := 67) (st' := [.long 0, .long y3_68605]) rfl rfl rfl ?_
                            refine sf_R_lany pm_M216 (pc' := 68) (st := []) rfl rfl rfl (fun z68759 => ?_)
                            refine pm_R_lo pm_M216 (pc' := 69) (ls' := [.ref 41, .int x1_53408, .int x2_67491, .long z68759, pm_no, .int x5_68605]) (st' := []) rfl rfl rfl ?_
                            refine sf_R_iinc pm_M216 (pc' := 72) (ls' := fun z => [.ref 41, .int x1_53408, .int x2_67491, .long z68759, pm_no, .int z]) rfl B68644 rfl (by decide) (by decide) (by decide) (fun _ => rfl) rfl (fun z68760 e68761 B68762 => ?_)
                            show pm_R _ 216 72 [.ref 41, .int x1_53408, .int x2_67491, .long z68759, pm_no, .int z68760] [] _ _
                            refine pm_R_br pm_M216 (pc' := 23) rfl rfl ?_
                            exact ih_68605 _ (sf_up hN_68605 e68761 B68644 (by decide) (by decide)) z68760 z68759 (sf_weak B68762 (by decide) (by decide)) rfl
                          · refine pm_R_op pm_M216 (pc' := 55) (st' := [.long 1, .long y3_68605]) rfl rfl rfl ?_
                            refine pm_R_lo pm_M216 (pc' := 56) rfl rfl rfl ?_
                            refine pm_R_lo pm_M216 (pc' := 58) rfl rfl rfl ?_
                            refine pm_R_op pm_M216 (pc' := 59) (st' := [.int 2, .int x5_68605, .ref 41, .long 1, .long y3_68605]) rfl rfl rfl ?_
                            refine pm_R_cv pm_M216 (pc' := 62) (a := 41) (ra := [.int 2, .int x5_68605]) (rest := [.long 1, .long y3_68605]) (ls' := [.ref 41, .int x5_68605, .int 2]) rfl rfl (Or.inl rfl) pm_M205 T_67491.2.1 rfl (by decide) (Nat.lt_of_lt_of_le (by decide) T_67491.1) rfl rfl (Nat.le_of_ble_eq_true rfl) rfl rfl ?_
                            refine pm_R_lo pm_M205 (pc' := 1) rfl rfl rfl ?_
                            refine rf_R_get pm_M205 T_67491 (pc' := 4) (v := .ref 47) rfl rfl rfl rfl ?_
                            refine pm_R_op pm_M205 (pc' := 6) (st' := [.int 100, .ref 47]) rfl rfl rfl ?_
                            refine pm_R_lo pm_M205 (pc' := 7) rfl rfl rfl ?_
                            refine rf_R_get pm_M205 T_67491 (pc' := 10) (v := .int (m_67491 23)) rfl rfl rfl rfl ?_
                            refine sf_R_imul pm_M205 (pc' := 11) rfl rfl sf_k100 B68606 (by decide) (by decide) (by decide) (fun z68763 e68764 B68765 => ?_)
                            refine pm_R_op pm_M205 (pc' := 13) (st' := [.int 42, .int z68763, .ref 47]) rfl rfl rfl ?_
                            refine sf_R_iadd pm_M205 (pc' := 14) rfl rfl B68765 sf_k42 (by decide) (by decide) (fun z68766 e68767 B68768 => ?_)
                            refine pm_R_op pm_M205 (pc' := 15) (st' := [.int 3, .int z68766, .ref 47]) rfl rfl rfl ?_
                            refine pm_R_lo pm_M205 (pc' := 16) rfl rfl rfl ?_
                            refine sf_R_imul pm_M205 (pc' := 17) rfl rfl sf_k3 B68644 (by decide) (by decide) (by decide) (fun z68769 e68770 B68771 => ?_)
                            refine sf_R_iadd pm_M205 (pc' := 18) rfl rfl B68768 B68771 (by decide) (by decide) (fun z68772 e68773 B68774 => ?_)
                            refine pm_R_lo pm_M205 (pc' := 19) rfl rfl rfl ?_
                            refine sf_R_iadd pm_M205 (pc' := 20) rfl rfl B68774 sf_k2 (by decide) (by decide) (fun z68775 e68776 B68777 => ?_)
                            refine rf_R_ild pm_M205 T_67491 (pc' := 21) rfl e68614 (by decide) (sf_in B68777 (by decide) (by decide)) rfl (fun z68778 ez68779 => ?_)
                            have e68780 : (z68775).toInt = 100 * ((m_67491 23)).toInt + 3 * (x5_68605).toInt + 44 := by
                              have q0 := e68764
                              have q1 := e68767
                              have q2 := e68770
                              have q3 := e68773
                              have q4 := e68776
                              simp only [(show (2 : Int32).toInt = 2 from rfl), (show (3 : Int32).toInt = 3 from rfl), (show (42 : Int32).toInt = 42 from rfl), (show (100 : Int32).toInt = 100 from rfl)] at q0 q1 q2 q3 q4
                              omega
                            have B68781 : sf_B 0 49 z68778 := ez68779 ▸ rf_p47v b68615 e68780 B68606 B68644 (by decide) (by decide) (by decide)
                            refine pm_R_ret pm_M205 (r := some (.int z68778)) rfl (pm_ret_i _) ?_
                            show pm_R _ 216 62 [.ref 41, .int x1_53408, .int x2_67491, .long y3_68605, pm_no, .int x5_68605] [.int z68778, .long 1, .long y3_68605] _ _
                            refine sf_R_lany pm_M216 (pc' := 63) (st := [.long y3_68605]) rfl rfl rfl (fun z68782 => ?_)
                            refine pm_R_br pm_M216 (pc' := 67) rfl rfl ?_
                            refine sf_R_lany pm_M216 (pc' := 68) (st := []) rfl rfl rfl (fun z68783 => ?_)
                            refine pm_R_lo pm_M216 (pc' := 69) (ls' := [.ref 41, .int x1_53408, .int x2_67491, .long z68783, pm_no, .int x5_68605]) (st' := []) rfl rfl rfl ?_
                            refine sf_R_iinc pm_M216 (pc' := 72) (ls' := fun z => [.ref 41, .int x1_53408, .int x2_67491, .long z68783, pm_no, .int z]) rfl B68644 rfl (by decide) (by decide) (by decide) (fun _ => rfl) rfl (fun z68784 e68785 B68786 => ?_)
                            show pm_R _ 216 72 [.ref 41, .int x1_53408, .int x2_67491, .long z68783, pm_no, .int z68784] [] _ _
                            refine pm_R_br pm_M216 (pc' := 23) rfl rfl ?_
                            exact ih_68605 _ (sf_up hN_68605 e68785 B68644 (by decide) (by decide)) z68784 z68783 (sf_weak B68786 (by decide) (by decide)) rfl
              exact L_68605 _ 0 0 (sf_weak sf_k0 (by decide) (by decide)) rfl
        exact L_67491 _ h_53408 m_53408 w_53408 0 (g3_53408) (g4_53408) (g5_53408) T_53408 F_53408 (rf_W.refl _ _) (sf_weak sf_k0 (by decide) (by decide)) Cg4_53408 Cg5_53408 rfl
  exact L_53408 _ h m w 0 (pm_no) (pm_no) (pm_no) (pm_no) T (rf_G.refl [54] h) (rf_W.refl _ _) (sf_weak sf_k0 (by decide) (by decide)) rfl rfl rfl rfl

set_option maxRecDepth 100000 in
set_option maxHeartbeats 4000000 in
/-- SilentTableModel.findCounts -/
theorem rf_c202 {d : Nat} {m : Nat → Int32} {w : Int64} {h : pm_H} {Q : Option Value → pm_H → Prop}  (T : rf_T m w h)  (K : ∀ (m' : Nat → Int32) (w' : Int64) (h' : pm_H), rf_T m' w' h' → rf_G [55] h h' → rf_W [] m m' → Q none h') : pm_R (d + 4) 202 0 [.ref 41, pm_no, pm_no, pm_no, pm_no, pm_no] [] h Q := by
  refine pm_R_op pm_M202 (pc' := 1) (st' := [.int 0]) rfl rfl rfl ?_
  refine pm_R_lo pm_M202 (pc' := 2) (ls' := [.ref 41, .int 0, pm_no, pm_no, pm_no, pm_no]) (st' := []) rfl rfl rfl ?_
  have L_51933 : ∀ (N : Nat) (h_51933 : pm_H) (m_51933 : Nat → Int32) (w_51933 : Int64) (x1_51933 : Int32) (g2_51933 : Value) (g3_51933 : Value) (g4_51933 : Value) (g5_51933 : Value), rf_T m_51933 w_51933 h_51933 → rf_G [55] h h_51933 → rf_W [] m m_51933 → sf_B 0 6 x1_51933 → g2_51933.category = 1 → g4_51933.category = 1 → g5_51933.category = 1 → (6 - x1_51933.toInt).toNat = N → pm_R (d + 4) 202 2 [.ref 41, .int x1_51933, g2_51933, g3_51933, g4_51933, g5_51933] [] h_51933 Q := by
    intro N
    induction N using Nat.strongRecOn with
    | ind N ih_51933 =>
      intro h_51933 m_51933 w_51933 x1_51933 g2_51933 g3_51933 g4_51933 g5_51933 T_51933 F_51933 W_51933 Bx1_51933 Cg2_51933 Cg4_51933 Cg5_51933 hN_51933
      have W51936 : rf_W [] m m_51933 := (rf_W.refl [] m).trans W_51933 (by decide)
      refine pm_R_lo pm_M202 (pc' := 3) rfl rfl rfl ?_
      refine pm_R_op pm_M202 (pc' := 5) (st' := [.int 6, .int x1_51933]) rfl rfl rfl ?_
      refine pm_R_icmp pm_M202 (t := 91) (pc' := 8) rfl rfl rfl (fun c51937 => ?_) (fun c51937 => ?_)
      · have B51938 : sf_B 6 6 x1_51933 := sf_leR c51937 sf_k6 Bx1_51933
        refine pm_R_op pm_M202 (pc' := 92) (st' := [.int 1]) rfl rfl rfl ?_
        refine pm_R_lo pm_M202 (pc' := 93) (ls' := [.ref 41, .int 1, g2_51933, g3_51933, g4_51933, g5_51933]) (st' := []) rfl rfl rfl ?_
        have L_57839 : ∀ (N : Nat) (h_57839 : pm_H) (m_57839 : Nat → Int32) (w_57839 : Int64) (x1_57839 : Int32) (g2_57839 : Value) (g3_57839 : Value), rf_T m_57839 w_57839 h_57839 → rf_G [55] h h_57839 → rf_W [] m_51933 m_57839 → sf_B 1 12 x1_57839 → g2_57839.category = 1 → (12 - x1_57839.toInt).toNat = N → pm_R (d + 4) 202 93 [.ref 41, .int x1_57839, g2_57839, g3_57839, g4_51933, g5_51933] [] h_57839 Q := by
          intro N
          induction N using Nat.strongRecOn with
          | ind N ih_57839 =>
            intro h_57839 m_57839 w_57839 x1_57839 g2_57839 g3_57839 T_57839 F_57839 W_57839 Bx1_57839 Cg2_57839 hN_57839
            have W57842 : rf_W [] m m_57839 := W51936.trans W_57839 (by decide)
            have W57843 : rf_W [] m m_57839 := W_51933.trans W_57839 (by decide)
            refine pm_R_lo pm_M202 (pc' := 94) rfl rfl rfl ?_
            refine pm_R_lo pm_M202 (pc' := 95) rfl rfl rfl ?_
            have B57844 : sf_B 0 12 (m_57839 24) := T_57839.2.2.1 24
            refine rf_R_get pm_M202 T_57839 (pc' := 98) (v := .int (m_57839 24)) rfl rfl rfl rfl ?_
            refine pm_R_icmp pm_M202 (t := 161) (pc' := 101) rfl rfl rfl (fun c57845 => ?_) (fun c57845 => ?_)
            · skip
              exact pm_R_ret pm_M202 (r := none) (pm_q202_1 (Nat.le_of_ble_eq_true rfl)) rfl (K m_57839 w_57839 h_57839 T_57839 F_57839 W57842)
            · have B57846 : sf_B 1 11 x1_57839 := sf_ltL (Int32.not_le.mp c57845) Bx1_57839 B57844
              have B57847 : sf_B 2 12 (m_57839 24) := sf_ltR (Int32.not_le.mp c57845) Bx1_57839 B57844
              refine pm_R_op pm_M202 (pc' := 102) (st' := [.int 0]) rfl rfl rfl ?_
              refine pm_R_lo pm_M202 (pc' := 103) (ls' := [.ref 41, .int x1_57839, .int 0, g3_57839, g4_51933, g5_51933]) (st' := []) rfl rfl rfl ?_
              have L_59030 : ∀ (N : Nat) (h_59030 : pm_H) (m_59030 : Nat → Int32) (w_59030 : Int64) (x2_59030 : Int32) (g3_59030 : Value), rf_T m_59030 w_59030 h_59030 → rf_G [55] h h_59030 → rf_W [] m_57839 m_59030 → sf_B 0 11 x2_59030 → (11 - x2_59030.toInt).toNat = N → pm_R (d + 4) 202 103 [.ref 41, .int x1_57839, .int x2_59030, g3_59030, g4_51933, g5_51933] [] h_59030 Q := by
                intro N
                induction N using Nat.strongRecOn with
                | ind N ih_59030 =>
                  intro h_59030 m_59030 w_59030 x2_59030 g3_59030 T_59030 F_59030 W_59030 Bx2_59030 hN_59030
                  have B59033 : sf_B 2 12 (m_59030 24) := by rw [W_59030 24 (by decide)]; exact B57847
                  have W59034 : rf_W [] m m_59030 := W57842.trans W_59030 (by decide)
                  have W59035 : rf_W [] m m_59030 := W57843.trans W_59030 (by decide)
                  have W59036 : rf_W [] m_51933 m_59030 := W_57839.trans W_59030 (by decide)
                  refine pm_R_lo pm_M202 (pc' := 104) rfl rfl rfl ?_
                  refine pm_R_lo pm_M202 (pc' := 105) rfl rfl rfl ?_
                  refine sf_R_iadd pm_M202 (pc' := 106) (pm_q202_1 (Nat.le_of_ble_eq_true rfl)) rfl Bx2_59030 B57846 (by decide) (by decide) (fun z59037 e59038 B59039 => ?_)
                  refine pm_R_lo pm_M202 (pc' := 107) (pm_q202_1 (Nat.le_of_ble_eq_true rfl)) rfl rfl ?_
                  refine rf_R_get pm_M202 T_59030 (pc' := 110) (v := .int (m_59030 24)) (pm_q202_1 (Nat.le_of_ble_eq_true rfl)) rfl rfl rfl ?_
                  refine pm_R_icmp pm_M202 (t := 155) (pc' := 113) (pm_q202_1 (Nat.le_of_ble_eq_true rfl)) rfl rfl (fun c59040 => ?_) (fun c59040 => ?_)
                  · have B59041 : sf_B 2 22 z59037 := sf_leR c59040 B59033 B59039
                    refine sf_R_iinc pm_M202 (pc' := 158) (ls' := fun z => [.ref 41, .int z, .int x2_59030, g3_59030, g4_51933, g5_51933]) (pm_q202_1 (Nat.le_of_ble_eq_true rfl)) B57846 rfl (by decide) (by decide) (by decide) (fun _ => rfl) rfl (fun z59042 e59043 B59044 => ?_)
                    show pm_R _ 202 158 [.ref 41, .int z59042, .int x2_59030, g3_59030, g4_51933, g5_51933] [] _ _
                    refine pm_R_br pm_M202 (pc' := 93) (pm_q202_1 (Nat.le_of_ble_eq_true rfl)) rfl ?_
                    exact ih_57839 _ (sf_up hN_57839 e59043 B57846 (by decide) (by decide)) h_59030 m_59030 w_59030 z59042 (.int x2_59030) (g3_59030) T_59030 F_59030 W59036 (sf_weak B59044 (by decide) (by decide)) rfl rfl
                  · have B59045 : sf_B 1 11 z59037 := sf_ltL (Int32.not_le.mp c59040) B59039 B59033
                    have B59046 : sf_B 0 10 x2_59030 := sf_addL e59038 B59045 B57846 Bx2_59030
                    refine pm_R_op pm_M202 (pc' := 114) (st' := [.int 0]) (pm_q202_1 (Nat.le_of_ble_eq_true rfl)) rfl rfl ?_
                    refine pm_R_lo pm_M202 (pc' := 115) (ls' := [.ref 41, .int x1_57839, .int x2_59030, .int 0, g4_51933, g5_51933]) (st' := []) (pm_q202_1 (Nat.le_of_ble_eq_true rfl)) rfl rfl ?_
                    have L_59272 : ∀ (N : Nat) (h_59272 : pm_H) (m_59272 : Nat → Int32) (w_59272 : Int64) (x3_59272 : Int32), rf_T m_59272 w_59272 h_59272 → rf_G [55] h h_59272 → rf_W [] m_59030 m_59272 → sf_B 0 6 x3_59272 → (6 - x3_59272.toInt).toNat = N → pm_R (d + 4) 202 115 [.ref 41, .int x1_57839, .int x2_59030, .int x3_59272, g4_51933, g5_51933] [] h_59272 Q := by
                      intro N
                      induction N using Nat.strongRecOn with
                      | ind N ih_59272 =>
                        intro h_59272 m_59272 w_59272 x3_59272 T_59272 F_59272 W_59272 Bx3_59272 hN_59272
                        have B59275 : sf_B 2 12 (m_59272 24) := by rw [W_59272 24 (by decide)]; exact B59033
                        have W59276 : rf_W [] m m_59272 := W59034.trans W_59272 (by decide)
                        have W59277 : rf_W [] m m_59272 := W59035.trans W_59272 (by decide)
                        have W59278 : rf_W [] m_51933 m_59272 := W59036.trans W_59272 (by decide)
                        have W59279 : rf_W [] m_57839 m_59272 := W_59030.trans W_59272 (by decide)
                        refine pm_R_lo pm_M202 (pc' := 116) (pm_q202_1 (Nat.le_of_ble_eq_true rfl)) rfl rfl ?_
                        refine pm_R_op pm_M202 (pc' := 118) (st' := [.int 6, .int x3_59272]) (pm_q202_1 (Nat.le_of_ble_eq_true rfl)) rfl rfl ?_
                        refine pm_R_icmp pm_M202 (t := 149) (pc' := 121) (pm_q202_1 (Nat.le_of_ble_eq_true rfl)) rfl rfl (fun c59280 => ?_) (fun c59280 => ?_)
                        · have B59281 : sf_B 6 6 x3_59272 := sf_leR c59280 sf_k6 Bx3_59272
                          refine sf_R_iinc pm_M202 (pc' := 152) (ls' := fun z => [.ref 41, .int x1_57839, .int z, .int x3_59272, g4_51933, g5_51933]) (pm_q202_1 (Nat.le_of_ble_eq_true rfl)) B59046 rfl (by decide) (by decide) (by decide) (fun _ => rfl) rfl (fun z59282 e59283 B59284 => ?_)
                          show pm_R _ 202 152 [.ref 41, .int x1_57839, .int z59282, .int x3_59272, g4_51933, g5_51933] [] _ _
                          refine pm_R_br pm_M202 (pc' := 103) (pm_q202_1 (Nat.le_of_ble_eq_true rfl)) rfl ?_
                          exact ih_59030 _ (sf_up hN_59030 e59283 B59046 (by decide) (by decide)) h_59272 m_59272 w_59272 z59282 (.int x3_59272) T_59272 F_59272 W59279 (sf_weak B59284 (by decide) (by decide)) rfl
                        · have B59285 : sf_B 0 5 x3_59272 := sf_ltL (Int32.not_le.mp c59280) Bx3_59272 sf_k6
                          refine pm_R_lo pm_M202 (pc' := 122) (pm_q202_1 (Nat.le_of_ble_eq_true rfl)) rfl rfl ?_
                          refine rf_R_get pm_M202 T_59272 (pc' := 125) (v := .ref 55) (pm_q202_1 (Nat.le_of_ble_eq_true rfl)) rfl rfl rfl ?_
                          refine pm_R_lo pm_M202 (pc' := 126) (pm_q202_1 (Nat.le_of_ble_eq_true rfl)) rfl rfl ?_
                          refine pm_R_lo pm_M202 (pc' := 127) (pm_q202_1 (Nat.le_of_ble_eq_true rfl)) rfl rfl ?_
                          refine pm_R_lo pm_M202 (pc' := 128) (pm_q202_1 (Nat.le_of_ble_eq_true rfl)) rfl rfl ?_
                          refine pm_R_lo pm_M202 (pc' := 129) (pm_q202_1 (Nat.le_of_ble_eq_true rfl)) rfl rfl ?_
                          refine sf_R_iadd pm_M202 (pc' := 130) (pm_q202_1 (Nat.le_of_ble_eq_true rfl)) rfl B59046 B57846 (by decide) (by decide) (fun z59286 e59287 B59288 => ?_)
                          have B59289 : sf_B 1 11 z59286 := sf_same e59038 e59287 B59045
                          refine pm_R_cs pm_M202 (pc' := 133) (ra := [.int z59286, .int x2_59030, .int x3_59272]) (rest := [.ref 55]) (ls' := [.int x3_59272, .int x2_59030, .int z59286]) (pm_q202_1 (Nat.le_of_ble_eq_true rfl)) rfl (Or.inl rfl) pm_M207 rfl rfl (Nat.le_of_ble_eq_true rfl) rfl rfl ?_
                          refine pm_R_op pm_M207 (pc' := 3) (st' := [.int 144]) rfl rfl rfl ?_
                          refine pm_R_lo pm_M207 (pc' := 4) rfl rfl rfl ?_
                          refine sf_R_imul pm_M207 (pc' := 5) rfl rfl sf_k144 B59285 (by decide) (by decide) (by decide) (fun z59290 e59291 B59292 => ?_)
                          refine pm_R_op pm_M207 (pc' := 7) (st' := [.int 12, .int z59290]) rfl rfl rfl ?_
                          refine pm_R_lo pm_M207 (pc' := 8) rfl rfl rfl ?_
                          refine sf_R_imul pm_M207 (pc' := 9) rfl rfl sf_k12 B59046 (by decide) (by decide) (by decide) (fun z59293 e59294 B59295 => ?_)
                          refine sf_R_iadd pm_M207 (pc' := 10) rfl rfl B59292 B59295 (by decide) (by decide) (fun z59296 e59297 B59298 => ?_)
                          refine pm_R_lo pm_M207 (pc' := 11) rfl rfl rfl ?_
                          refine sf_R_iadd pm_M207 (pc' := 12) rfl rfl B59298 B59289 (by decide) (by decide) (fun z59299 e59300 B59301 => ?_)
                          refine pm_R_ret pm_M207 (r := some (.int z59299)) rfl (pm_ret_i _) ?_
                          show pm_R _ 202 133 [.ref 41, .int x1_57839, .int x2_59030, .int x3_59272, g4_51933, g5_51933] [.int z59299, .ref 55] _ _
                          refine pm_R_lo pm_M202 (pc' := 134) (pm_q202_1 (Nat.le_of_ble_eq_true rfl)) rfl rfl ?_
                          refine pm_R_lo pm_M202 (pc' := 135) (pm_q202_1 (Nat.le_of_ble_eq_true rfl)) rfl rfl ?_
                          refine pm_R_lo pm_M202 (pc' := 136) (pm_q202_1 (Nat.le_of_ble_eq_true rfl)) rfl rfl ?_
                          refine pm_R_lo pm_M202 (pc' := 137) (pm_q202_1 (Nat.le_of_ble_eq_true rfl)) rfl rfl ?_
                          refine pm_R_lo pm_M202 (pc' := 138) (pm_q202_1 (Nat.le_of_ble_eq_true rfl)) rfl rfl ?_
                          refine sf_R_iadd pm_M202 (pc' := 139) (pm_q202_1 (Nat.le_of_ble_eq_true rfl)) rfl B59046 B57846 (by decide) (by decide) (fun z59302 e59303 B59304 => ?_)
                          have B59305 : sf_B 1 11 z59302 := sf_same e59287 e59303 B59289
                          refine pm_R_cv pm_M202 (pc' := 142) (a := 41) (ra := [.int z59302, .int x2_59030, .int x3_59272]) (rest := [.int z59299, .ref 55]) (ls' := [.ref 41, .int x3_59272, .int x2_59030, .int z59302, pm_no, pm_no, pm_no, pm_no]) (pm_q202_1 (Nat.le_of_ble_eq_true rfl)) rfl (Or.inl rfl) pm_M208 T_59272.2.1 rfl (by decide) (Nat.lt_of_lt_of_le (by decide) T_59272.1) rfl rfl (Nat.le_of_ble_eq_true rfl) rfl rfl ?_
                          refine rf_c208 (d := d + 0) T_59272 B59285 (sf_weak B59046 (by decide) (by decide)) (sf_weak B59305 (by decide) (by decide)) (fun r59306 B59307 => ?_)
                          show pm_R _ 202 142 [.ref 41, .int x1_57839, .int x2_59030, .int x3_59272, g4_51933, g5_51933] [.long r59306, .int z59299, .ref 55] _ _
                          obtain ⟨f59314, e59315, b59316⟩ := T_59272.2.2.2.1 55 (by decide) (by decide)
                          refine rf_R_lst pm_M202 T_59272 (pc' := 143) (pm_q202_1 (Nat.le_of_ble_eq_true rfl)) e59315 (by decide) (by decide) (sf_in B59301 (by decide) (by decide)) ⟨_, rfl, lf_upd b59316 B59307 _⟩ rfl (fun h59317 T59318 F59319 e59320 => ?_)
                          have F59321 := F_59272.trans F59319 (by decide)
                          refine sf_R_iinc pm_M202 (pc' := 146) (ls' := fun z => [.ref 41, .int x1_57839, .int x2_59030, .int z, g4_51933, g5_51933]) (pm_q202_1 (Nat.le_of_ble_eq_true rfl)) B59285 rfl (by decide) (by decide) (by decide) (fun _ => rfl) rfl (fun z59322 e59323 B59324 => ?_)
                          show pm_R _ 202 146 [.ref 41, .int x1_57839, .int x2_59030, .int z59322, g4_51933, g5_51933] [] _ _
                          refine pm_R_br pm_M202 (pc' := 115) (pm_q202_1 (Nat.le_of_ble_eq_true rfl)) rfl ?_
                          exact ih_59272 _ (sf_up hN_59272 e59323 B59285 (by decide) (by decide)) h59317 m_59272 w_59272 z59322 T59318 F59321 W_59272 (sf_weak B59324 (by decide) (by decide)) rfl
                    exact L_59272 _ h_59030 m_59030 w_59030 0 T_59030 F_59030 (rf_W.refl _ _) (sf_weak sf_k0 (by decide) (by decide)) rfl
              exact L_59030 _ h_57839 m_57839 w_57839 0 (g3_57839) T_57839 F_57839 (rf_W.refl _ _) (sf_weak sf_k0 (by decide) (by decide)) rfl
        exact L_57839 _ h_51933 m_51933 w_51933 1 (g2_51933) (g3_51933) T_51933 F_51933 (rf_W.refl _ _) (sf_weak sf_k1 (by decide) (by decide)) Cg2_51933 rfl
      · have B59325 : sf_B 0 5 x1_51933 := sf_ltL (Int32.not_le.mp c51937) Bx1_51933 sf_k6
        refine pm_R_op pm_M202 (pc' := 9) (st' := [.int 0]) rfl rfl rfl ?_
        refine pm_R_lo pm_M202 (pc' := 10) (ls' := [.ref 41, .int x1_51933, .int 0, g3_51933, g4_51933, g5_51933]) (st' := []) rfl rfl rfl ?_
        have L_65950 : ∀ (N : Nat) (h_65950 : pm_H) (m_65950 : Nat → Int32) (w_65950 : Int64) (x2_65950 : Int32) (g3_65950 : Value) (g4_65950 : Value) (g5_65950 : Value), rf_T m_65950 w_65950 h_65950 → rf_G [55] h h_65950 → rf_W [] m_51933 m_65950 → sf_B 0 12 x2_65950 → g4_65950.category = 1 → g5_65950.category = 1 → (12 - x2_65950.toInt).toNat = N → pm_R (d + 4) 202 10 [.ref 41, .int x1_51933, .int x2_65950, g3_65950, g4_65950, g5_65950] [] h_65950 Q := by
          intro N
          induction N using Nat.strongRecOn with
          | ind N ih_65950 =>
            intro h_65950 m_65950 w_65950 x2_65950 g3_65950 g4_65950 g5_65950 T_65950 F_65950 W_65950 Bx2_65950 Cg4_65950 Cg5_65950 hN_65950
            have W65953 : rf_W [] m m_65950 := W51936.trans W_65950 (by decide)
            have W65954 : rf_W [] m m_65950 := W_51933.trans W_65950 (by decide)
            refine pm_R_lo pm_M202 (pc' := 11) rfl rfl rfl ?_
            refine pm_R_lo pm_M202 (pc' := 12) rfl rfl rfl ?_
            have B65955 : sf_B 0 12 (m_65950 24) := T_65950.2.2.1 24
            refine rf_R_get pm_M202 T_65950 (pc' := 15) (v := .int (m_65950 24)) rfl rfl rfl rfl ?_
            refine pm_R_icmp pm_M202 (t := 85) (pc' := 18) rfl rfl rfl (fun c65956 => ?_) (fun c65956 => ?_)
            · skip
              refine sf_R_iinc pm_M202 (pc' := 88) (ls' := fun z => [.ref 41, .int z, .int x2_65950, g3_65950, g4_65950, g5_65950]) rfl B59325 rfl (by decide) (by decide) (by decide) (fun _ => rfl) rfl (fun z65957 e65958 B65959 => ?_)
              show pm_R _ 202 88 [.ref 41, .int z65957, .int x2_65950, g3_65950, g4_65950, g5_65950] [] _ _
              refine pm_R_br pm_M202 (pc' := 2) rfl rfl ?_
              exact ih_51933 _ (sf_up hN_51933 e65958 B59325 (by decide) (by decide)) h_65950 m_65950 w_65950 z65957 (.int x2_65950) (g3_65950) (g4_65950) (g5_65950) T_65950 F_65950 W65954 (sf_weak B65959 (by decide) (by decide)) rfl Cg4_65950 Cg5_65950 rfl
            · have B65960 : sf_B 0 11 x2_65950 := sf_ltL (Int32.not_le.mp c65956) Bx2_65950 B65955
              have B65961 : sf_B 1 12 (m_65950 24) := sf_ltR (Int32.not_le.mp c65956) Bx2_65950 B65955
              refine pm_R_op pm_M202 (pc' := 19) (st' := [.long 0]) rfl rfl rfl ?_
              refine pm_R_lo pm_M202 (pc' := 20) (ls' := [.ref 41, .int x1_51933, .int x2_65950, .long 0, pm_no, g5_65950]) (st' := []) rfl rfl rfl ?_
              refine pm_R_op pm_M202 (pc' := 21) (st' := [.int 0]) rfl rfl rfl ?_
              refine pm_R_lo pm_M202 (pc' := 23) (ls' := [.ref 41, .int x1_51933, .int x2_65950, .long 0, pm_no, .int 0]) (st' := []) rfl rfl rfl ?_
              have L_67053 : ∀ (N : Nat) (x5_67053 : Int32) (y3_67053 : Int64), sf_B 0 16 x5_67053 → lf_B 0 16 y3_67053 → y3_67053.toInt ≤ x5_67053.toInt → (16 - x5_67053.toInt).toNat = N → pm_R (d + 4) 202 23 [.ref 41, .int x1_51933, .int x2_65950, .long y3_67053, pm_no, .int x5_67053] [] h_65950 Q := by
                intro N
                induction N using Nat.strongRecOn with
                | ind N ih_67053 =>
                  intro x5_67053 y3_67053 Bx5_67053 By3_67053 R0_67053 hN_67053
                  refine pm_R_lo pm_M202 (pc' := 25) rfl rfl rfl ?_
                  refine pm_R_lo pm_M202 (pc' := 26) rfl rfl rfl ?_
                  refine pm_R_cv pm_M202 (pc' := 29) (a := 41) (ra := []) (rest := [.int x5_67053]) (ls' := [.ref 41]) rfl rfl (Or.inl rfl) pm_M203 T_65950.2.1 rfl (by decide) (Nat.lt_of_lt_of_le (by decide) T_65950.1) rfl rfl (Nat.le_of_ble_eq_true rfl) rfl rfl ?_
                  refine pm_R_lo pm_M203 (pc' := 1) rfl rfl rfl ?_
                  refine rf_R_get pm_M203 T_65950 (pc' := 4) (v := .ref 47) rfl rfl rfl rfl ?_
                  refine pm_R_op pm_M203 (pc' := 6) (st' := [.int 100, .ref 47]) rfl rfl rfl ?_
                  refine pm_R_lo pm_M203 (pc' := 7) rfl rfl rfl ?_
                  have B67054 : sf_B 0 1 (m_65950 23) := T_65950.2.2.1 23
                  refine rf_R_get pm_M203 T_65950 (pc' := 10) (v := .int (m_65950 23)) rfl rfl rfl rfl ?_
                  refine sf_R_imul pm_M203 (pc' := 11) rfl rfl sf_k100 B67054 (by decide) (by decide) (by decide) (fun z67055 e67056 B67057 => ?_)
                  refine pm_R_op pm_M203 (pc' := 12) (st' := [.int 1, .int z67055, .ref 47]) rfl rfl rfl ?_
                  refine sf_R_iadd pm_M203 (pc' := 13) rfl rfl B67057 sf_k1 (by decide) (by decide) (fun z67058 e67059 B67060 => ?_)
                  obtain ⟨f67061, e67062, b67063⟩ := T_65950.2.2.2.1 47 (by decide) (by decide)
                  refine rf_R_ild pm_M203 T_65950 (pc' := 14) rfl e67062 (by decide) (sf_in B67060 (by decide) (by decide)) rfl (fun z67064 ez67065 => ?_)
                  have e67066 : (z67058).toInt = 100 * ((m_65950 23)).toInt + 1 := by
                    have q0 := e67056
                    have q1 := e67059
                    simp only [(show (1 : Int32).toInt = 1 from rfl), (show (100 : Int32).toInt = 100 from rfl)] at q0 q1
                    omega
                  have B67067 : sf_B 0 16 z67064 := ez67065 ▸ rf_p47b b67063 e67066 B67054 (by decide)
                  refine pm_R_ret pm_M203 (r := some (.int z67064)) rfl (pm_ret_i _) ?_
                  show pm_R _ 202 29 [.ref 41, .int x1_51933, .int x2_65950, .long y3_67053, pm_no, .int x5_67053] [.int z67064, .int x5_67053] _ _
                  refine pm_R_icmp pm_M202 (t := 67) (pc' := 32) rfl rfl rfl (fun c67068 => ?_) (fun c67068 => ?_)
                  · skip
                    refine pm_R_lo pm_M202 (pc' := 68) rfl rfl rfl ?_
                    refine rf_R_get pm_M202 T_65950 (pc' := 71) (v := .ref 55) rfl rfl rfl rfl ?_
                    refine pm_R_lo pm_M202 (pc' := 72) rfl rfl rfl ?_
                    refine pm_R_lo pm_M202 (pc' := 73) rfl rfl rfl ?_
                    refine pm_R_lo pm_M202 (pc' := 74) rfl rfl rfl ?_
                    refine pm_R_cs pm_M202 (pc' := 77) (ra := [.int x2_65950, .int x2_65950, .int x1_51933]) (rest := [.ref 55]) (ls' := [.int x1_51933, .int x2_65950, .int x2_65950]) rfl rfl (Or.inl rfl) pm_M207 rfl rfl (Nat.le_of_ble_eq_true rfl) rfl rfl ?_
                    refine pm_R_op pm_M207 (pc' := 3) (st' := [.int 144]) rfl rfl rfl ?_
                    refine pm_R_lo pm_M207 (pc' := 4) rfl rfl rfl ?_
                    refine sf_R_imul pm_M207 (pc' := 5) rfl rfl sf_k144 B59325 (by decide) (by decide) (by decide) (fun z67069 e67070 B67071 => ?_)
                    refine pm_R_op pm_M207 (pc' := 7) (st' := [.int 12, .int z67069]) rfl rfl rfl ?_
                    refine pm_R_lo pm_M207 (pc' := 8) rfl rfl rfl ?_
                    refine sf_R_imul pm_M207 (pc' := 9) rfl rfl sf_k12 B65960 (by decide) (by decide) (by decide) (fun z67072 e67073 B67074 => ?_)
                    refine sf_R_iadd pm_M207 (pc' := 10) rfl rfl B67071 B67074 (by decide) (by decide) (fun z67075 e67076 B67077 => ?_)
                    refine pm_R_lo pm_M207 (pc' := 11) rfl rfl rfl ?_
                    refine sf_R_iadd pm_M207 (pc' := 12) rfl rfl B67077 B65960 (by decide) (by decide) (fun z67078 e67079 B67080 => ?_)
                    refine pm_R_ret pm_M207 (r := some (.int z67078)) rfl (pm_ret_i _) ?_
                    show pm_R _ 202 77 [.ref 41, .int x1_51933, .int x2_65950, .long y3_67053, pm_no, .int x5_67053] [.int z67078, .ref 55] _ _
                    refine pm_R_lo pm_M202 (pc' := 78) rfl rfl rfl ?_
                    obtain ⟨f67081, e67082, b67083⟩ := T_65950.2.2.2.1 55 (by decide) (by decide)
                    refine rf_R_lst pm_M202 T_65950 (pc' := 79) rfl e67082 (by decide) (by decide) (sf_in B67080 (by decide) (by decide)) ⟨_, rfl, lf_upd b67083 (lf_weak By3_67053 (by decide) (by decide)) _⟩ rfl (fun h67084 T67085 F67086 e67087 => ?_)
                    have F67088 := F_65950.trans F67086 (by decide)
                    refine sf_R_iinc pm_M202 (pc' := 82) (ls' := fun z => [.ref 41, .int x1_51933, .int z, .long y3_67053, pm_no, .int x5_67053]) rfl B65960 rfl (by decide) (by decide) (by decide) (fun _ => rfl) rfl (fun z67089 e67090 B67091 => ?_)
                    show pm_R _ 202 82 [.ref 41, .int x1_51933, .int z67089, .long y3_67053, pm_no, .int x5_67053] [] _ _
                    refine pm_R_br pm_M202 (pc' := 10) rfl rfl ?_
                    exact ih_65950 _ (sf_up hN_65950 e67090 B65960 (by decide) (by decide)) h67084 m_65950 w_65950 z67089 (.long y3_67053) (pm_no) (.int x5_67053) T67085 F67088 W_65950 (sf_weak B67091 (by decide) (by decide)) rfl rfl rfl
                  · have B67092 : sf_B 0 15 x5_67053 := sf_ltL (Int32.not_le.mp c67068) Bx5_67053 B67067
                    have B67093 : lf_B 0 15 y3_67053 := lf_leT R0_67053 By3_67053 B67092
                    have B67094 : sf_B 1 16 z67064 := sf_ltR (Int32.not_le.mp c67068) Bx5_67053 B67067
                    refine pm_R_lo pm_M202 (pc' := 33) rfl rfl rfl ?_
                    refine pm_R_lo pm_M202 (pc' := 34) rfl rfl rfl ?_
                    refine pm_R_lo pm_M202 (pc' := 36) rfl rfl rfl ?_
                    refine pm_R_lo pm_M202 (pc' := 37) rfl rfl rfl ?_
                    refine pm_R_cv pm_M202 (pc' := 40) (a := 41) (ra := [.int x2_65950, .int x5_67053]) (rest := [.long y3_67053]) (ls' := [.ref 41, .int x5_67053, .int x2_65950]) rfl rfl (Or.inl rfl) pm_M204 T_65950.2.1 rfl (by decide) (Nat.lt_of_lt_of_le (by decide) T_65950.1) rfl rfl (Nat.le_of_ble_eq_true rfl) rfl rfl ?_
                    refine pm_R_lo pm_M204 (pc' := 1) rfl rfl rfl ?_
                    refine rf_R_get pm_M204 T_65950 (pc' := 4) (v := .ref 53) rfl rfl rfl rfl ?_
                    refine pm_R_lo pm_M204 (pc' := 5) rfl rfl rfl ?_
                    obtain ⟨f67095, e67096⟩ := T_65950.2.2.2.1 53 (by decide) (by decide)
                    refine rf_R_ild pm_M204 T_65950 (pc' := 6) rfl e67096 (by decide) (sf_in B65960 (by decide) (by decide)) rfl (fun z67098 ez67099 => ?_)
                    refine sf_R_lany pm_M204 (pc' := 7) (st := []) rfl rfl rfl (fun z67100 => ?_)
                    refine pm_R_lo pm_M204 (pc' := 8) rfl rfl rfl ?_
                    refine pm_R_lo pm_M204 (pc' := 9) rfl rfl rfl ?_
                    refine pm_R_op pm_M204 (pc' := 10) (st' := [.int 0, .int x5_67053, .ref 41, .long z67100]) rfl rfl rfl ?_
                    refine pm_R_cv pm_M204 (pc' := 13) (a := 41) (ra := [.int 0, .int x5_67053]) (rest := [.long z67100]) (ls' := [.ref 41, .int x5_67053, .int 0]) rfl rfl (Or.inl rfl) pm_M205 T_65950.2.1 rfl (by decide) (Nat.lt_of_lt_of_le (by decide) T_65950.1) rfl rfl (Nat.le_of_ble_eq_true rfl) rfl rfl ?_
                    refine pm_R_lo pm_M205 (pc' := 1) rfl rfl rfl ?_
                    refine rf_R_get pm_M205 T_65950 (pc' := 4) (v := .ref 47) rfl rfl rfl rfl ?_
                    refine pm_R_op pm_M205 (pc' := 6) (st' := [.int 100, .ref 47]) rfl rfl rfl ?_
                    refine pm_R_lo pm_M205 (pc' := 7) rfl rfl rfl ?_
                    refine rf_R_get pm_M205 T_65950 (pc' := 10) (v := .int (m_65950 23)) rfl rfl rfl rfl ?_
                    refine sf_R_imul pm_M205 (pc' := 11) rfl rfl sf_k100 B67054 (by decide) (by decide) (by decide) (fun z67101 e67102 B67103 => ?_)
                    refine pm_R_op pm_M205 (pc' := 13) (st' := [.int 42, .int z67101, .ref 47]) rfl rfl rfl ?_
                    refine sf_R_iadd pm_M205 (pc' := 14) rfl rfl B67103 sf_k42 (by decide) (by decide) (fun z67104 e67105 B67106 => ?_)
                    refine pm_R_op pm_M205 (pc' := 15) (st' := [.int 3, .int z67104, .ref 47]) rfl rfl rfl ?_
                    refine pm_R_lo pm_M205 (pc' := 16) rfl rfl rfl ?_
                    refine sf_R_imul pm_M205 (pc' := 17) rfl rfl sf_k3 B67092 (by decide) (by decide) (by decide) (fun z67107 e67108 B67109 => ?_)
                    refine sf_R_iadd pm_M205 (pc' := 18) rfl rfl B67106 B67109 (by decide) (by decide) (fun z67110 e67111 B67112 => ?_)
                    refine pm_R_lo pm_M205 (pc' := 19) rfl rfl rfl ?_
                    refine sf_R_iadd pm_M205 (pc' := 20) rfl rfl B67112 sf_k0 (by decide) (by decide) (fun z67113 e67114 B67115 => ?_)
                    refine rf_R_ild pm_M205 T_65950 (pc' := 21) rfl e67062 (by decide) (sf_in B67115 (by decide) (by decide)) rfl (fun z67116 ez67117 => ?_)
                    have e67118 : (z67113).toInt = 100 * ((m_65950 23)).toInt + 3 * (x5_67053).toInt + 42 := by
                      have q0 := e67102
                      have q1 := e67105
                      have q2 := e67108
                      have q3 := e67111
                      have q4 := e67114
                      simp only [(show (0 : Int32).toInt = 0 from rfl), (show (3 : Int32).toInt = 3 from rfl), (show (42 : Int32).toInt = 42 from rfl), (show (100 : Int32).toInt = 100 from rfl)] at q0 q1 q2 q3 q4
                      omega
                    have B67119 : sf_B 0 9 z67116 := ez67117 ▸ rf_p47s b67063 e67118 B67054 B67092 (by decide) (by decide) (by decide)
                    refine pm_R_ret pm_M205 (r := some (.int z67116)) rfl (pm_ret_i _) ?_
                    show pm_R _ 204 13 [.ref 41, .int x5_67053, .int x2_65950] [.int z67116, .long z67100] _ _
                    refine pm_R_cs pm_M204 (pc' := 16) (ra := [.int z67116, .long z67100]) (rest := []) (ls' := [.long z67100, pm_no, .int z67116]) rfl rfl (Or.inl rfl) pm_M206 rfl rfl (Nat.le_of_ble_eq_true rfl) rfl rfl ?_
                    refine pm_R_lo pm_M206 (pc' := 1) rfl rfl rfl ?_
                    refine pm_R_lo pm_M206 (pc' := 2) rfl rfl rfl ?_
                    refine sf_R_lany pm_M206 (pc' := 3) (st := []) rfl rfl rfl (fun z67120 => ?_)
                    refine pm_R_op pm_M206 (pc' := 4) (st' := [.long 1, .long z67120]) rfl rfl rfl ?_
                    refine sf_R_lany pm_M206 (pc' := 5) (st := []) rfl rfl rfl (fun z67121 => ?_)
                    refine pm_R_op pm_M206 (pc' := 6) (st' := [.long 1, .long z67121]) rfl rfl rfl ?_
                    refine sf_R_lcmp pm_M206 (pc' := 7) rfl rfl (fun z67122 e67123 => ?_)
                    refine pm_R_ifc pm_M206 (t := 14) (pc' := 10) rfl rfl rfl (fun c67124 => ?_) (fun c67124 => ?_)
                    · have k67125 := sf_lneC e67123 c67124
                      refine pm_R_op pm_M206 (pc' := 15) (st' := [.int 0]) rfl rfl rfl ?_
                      refine pm_R_ret pm_M206 (r := some (.int 0)) rfl rfl ?_
                      show pm_R _ 204 16 [.ref 41, .int x5_67053, .int x2_65950] [.int 0] _ _
                      refine pm_R_br pm_M204 (pc' := 39) (st' := []) rfl rfl ?_
                      refine pm_R_op pm_M204 (pc' := 40) (st' := [.int 0]) rfl rfl rfl ?_
                      refine pm_R_ret pm_M204 (r := some (.int 0)) rfl rfl ?_
                      show pm_R _ 202 40 [.ref 41, .int x1_51933, .int x2_65950, .long y3_67053, pm_no, .int x5_67053] [.int 0, .long y3_67053] _ _
                      refine pm_R_br pm_M202 (pc' := 58) (st' := [.long y3_67053]) rfl rfl ?_
                      refine pm_R_op pm_M202 (pc' := 59) (st' := [.long 0, .long y3_67053]) rfl rfl rfl ?_
                      refine sf_R_ladd pm_M202 (pc' := 60) rfl rfl B67093 (⟨by decide, by decide⟩ : lf_B 0 0 0) (by decide) (by decide) (fun z67126 e67127 B67128 => ?_)
                      refine pm_R_lo pm_M202 (pc' := 61) (ls' := [.ref 41, .int x1_51933, .int x2_65950, .long z67126, pm_no, .int x5_67053]) (st' := []) rfl rfl rfl ?_
                      refine sf_R_iinc pm_M202 (pc' := 64) (ls' := fun z => [.ref 41, .int x1_51933, .int x2_65950, .long z67126, pm_no, .int z]) rfl B67092 rfl (by decide) (by decide) (by decide) (fun _ => rfl) rfl (fun z67129 e67130 B67131 => ?_)
                      show pm_R _ 202 64 [.ref 41, .int x1_51933, .int x2_65950, .long z67126, pm_no, .int z67129] [] _ _
                      refine pm_R_br pm_M202 (pc' := 23) rfl rfl ?_
                      exact ih_67053 _ (sf_up hN_67053 e67130 B67092 (by decide) (by decide)) z67129 z67126 (sf_weak B67131 (by decide) (by decide)) (lf_weak B67128 (by decide) (by decide)) (by have q0 := e67127; have q1 := e67130; have q2 := B67093.1; have q3 := B67093.2; have q4 := B67092.1; have q5 := B67092.2; have q6 := R0_67053; (try simp only [(show (0 : Int32).toInt = 0 from rfl), (show (0 : Int64).toInt = 0 from rfl)] at q0 q1 ⊢); omega) rfl
                    · have B67132 : sf_B 0 0 z67122 := sf_eqL (Classical.not_not.mp c67124) sf_k0
                      refine pm_R_op pm_M206 (pc' := 11) (st' := [.int 1]) rfl rfl rfl ?_
                      refine pm_R_br pm_M206 (pc' := 15) rfl rfl ?_
                      refine pm_R_ret pm_M206 (r := some (.int 1)) rfl rfl ?_
                      show pm_R _ 204 16 [.ref 41, .int x5_67053, .int x2_65950] [.int 1] _ _
                      refine pm_R_br pm_M204 (pc' := 19) (st' := []) rfl rfl ?_
                      refine pm_R_lo pm_M204 (pc' := 20) rfl rfl rfl ?_
                      have B67133 : sf_B (-1) 11 (m_65950 26) := T_65950.2.2.1 26
                      refine rf_R_get pm_M204 T_65950 (pc' := 23) (v := .int (m_65950 26)) rfl rfl rfl rfl ?_
                      refine pm_R_lo pm_M204 (pc' := 24) rfl rfl rfl ?_
                      refine pm_R_icmp pm_M204 (t := 35) (pc' := 27) rfl rfl rfl (fun c67134 => ?_) (fun c67134 => ?_)
                      · skip
                        refine pm_R_op pm_M204 (pc' := 36) (st' := [.int 1]) rfl rfl rfl ?_
                        refine pm_R_br pm_M204 (pc' := 40) rfl rfl ?_
                        refine pm_R_ret pm_M204 (r := some (.int 1)) rfl rfl ?_
                        show pm_R _ 202 40 [.ref 41, .int x1_51933, .int x2_65950, .long y3_67053, pm_no, .int x5_67053] [.int 1, .long y3_67053] _ _
                        refine pm_R_br pm_M202 (pc' := 43) (st' := [.long y3_67053]) rfl rfl ?_
                        refine pm_R_lo pm_M202 (pc' := 44) rfl rfl rfl ?_
                        refine pm_R_lo pm_M202 (pc' := 46) rfl rfl rfl ?_
                        refine pm_R_op pm_M202 (pc' := 47) (st' := [.int 1, .int x5_67053, .ref 41, .long y3_67053]) rfl rfl rfl ?_
                        refine pm_R_cv pm_M202 (pc' := 50) (a := 41) (ra := [.int 1, .int x5_67053]) (rest := [.long y3_67053]) (ls' := [.ref 41, .int x5_67053, .int 1]) rfl rfl (Or.inl rfl) pm_M205 T_65950.2.1 rfl (by decide) (Nat.lt_of_lt_of_le (by decide) T_65950.1) rfl rfl (Nat.le_of_ble_eq_true rfl) rfl rfl ?_
                        refine pm_R_lo pm_M205 (pc' := 1) rfl rfl rfl ?_
                        refine rf_R_get pm_M205 T_65950 (pc' := 4) (v := .ref 47) rfl rfl rfl rfl ?_
                        refine pm_R_op pm_M205 (pc' := 6) (st' := [.int 100, .ref 47]) rfl rfl rfl ?_
                        refine pm_R_lo pm_M205 (pc' := 7) rfl rfl rfl ?_
                        refine rf_R_get pm_M205 T_65950 (pc' := 10) (v := .int (m_65950 23)) rfl rfl rfl rfl ?_
                        refine sf_R_imul pm_M205 (pc' := 11) rfl rfl sf_k100 B67054 (by decide) (by decide) (by decide) (fun z67135 e67136 B67137 => ?_)
                        refine pm_R_op pm_M205 (pc' := 13) (st' := [.int 42, .int z67135, .ref 47]) rfl rfl rfl ?_
                        refine sf_R_iadd pm_M205 (pc' := 14) rfl rfl B67137 sf_k42 (by decide) (by decide) (fun z67138 e67139 B67140 => ?_)
                        refine pm_R_op pm_M205 (pc' := 15) (st' := [.int 3, .int z67138, .ref 47]) rfl rfl rfl ?_
                        refine pm_R_lo pm_M205 (pc' := 16) rfl rfl rfl ?_
                        refine sf_R_imul pm_M205 (pc' := 17) rfl rfl sf_k3 B67092 (by decide) (by decide) (by decide) (fun z67141 e67142 B67143 => ?_)
                        refine sf_R_iadd pm_M205 (pc' := 18) rfl rfl B67140 B67143 (by decide) (by decide) (fun z67144 e67145 B67146 => ?_)
                        refine pm_R_lo pm_M205 (pc' := 19) rfl rfl rfl ?_
                        refine sf_R_iadd pm_M205 (pc' := 20) rfl rfl B67146 sf_k1 (by decide) (by decide) (fun z67147 e67148 B67149 => ?_)
                        refine rf_R_ild pm_M205 T_65950 (pc' := 21) rfl e67062 (by decide) (sf_in B67149 (by decide) (by decide)) rfl (fun z67150 ez67151 => ?_)
                        have e67152 : (z67147).toInt = 100 * ((m_65950 23)).toInt + 3 * (x5_67053).toInt + 43 := by
                          have q0 := e67136
                          have q1 := e67139
                          have q2 := e67142
                          have q3 := e67145
                          have q4 := e67148
                          simp only [(show (1 : Int32).toInt = 1 from rfl), (show (3 : Int32).toInt = 3 from rfl), (show (42 : Int32).toInt = 42 from rfl), (show (100 : Int32).toInt = 100 from rfl)] at q0 q1 q2 q3 q4
                          omega
                        have B67153 : sf_B 0 5 z67150 := ez67151 ▸ rf_p47k b67063 e67152 B67054 B67092 (by decide) (by decide) (by decide)
                        refine pm_R_ret pm_M205 (r := some (.int z67150)) rfl (pm_ret_i _) ?_
                        show pm_R _ 202 50 [.ref 41, .int x1_51933, .int x2_65950, .long y3_67053, pm_no, .int x5_67053] [.int z67150, .long y3_67053] _ _
                        refine pm_R_lo pm_M202 (pc' := 51) rfl rfl rfl ?_
                        refine pm_R_icmp pm_M202 (t := 58) (pc' := 54) rfl rfl rfl (fun c67154 => ?_) (fun c67154 => ?_)
                        · skip
                          refine pm_R_op pm_M202 (pc' := 59) (st' := [.long 0, .long y3_67053]) rfl rfl rfl ?_
                          refine sf_R_ladd pm_M202 (pc' := 60) rfl rfl B67093 (⟨by decide, by decide⟩ : lf_B 0 0 0) (by decide) (by decide) (fun z67155 e67156 B67157 => ?_)
                          refine pm_R_lo pm_M202 (pc' := 61) (ls' := [.ref 41, .int x1_51933, .int x2_65950, .long z67155, pm_no, .int x5_67053]) (st' := []) rfl rfl rfl ?_
                          refine sf_R_iinc pm_M202 (pc' := 64) (ls' := fun z => [.ref 41, .int x1_51933, .int x2_65950, .long z67155, pm_no, .int z]) rfl B67092 rfl (by decide) (by decide) (by decide) (fun _ => rfl) rfl (fun z67158 e67159 B67160 => ?_)
                          show pm_R _ 202 64 [.ref 41, .int x1_51933, .int x2_65950, .long z67155, pm_no, .int z67158] [] _ _
                          refine pm_R_br pm_M202 (pc' := 23) rfl rfl ?_
                          exact ih_67053 _ (sf_up hN_67053 e67159 B67092 (by decide) (by decide)) z67158 z67155 (sf_weak B67160 (by decide) (by decide)) (lf_weak B67157 (by decide) (by decide)) (by have q0 := e67156; have q1 := e67159; have q2 := B67093.1; have q3 := B67093.2; have q4 := B67092.1; have q5 := B67092.2; have q6 := R0_67053; (try simp only [(show (0 : Int32).toInt = 0 from rfl), (show (0 : Int64).toInt = 0 from rfl)] at q0 q1 ⊢); omega) rfl
                        · refine pm_R_op pm_M202 (pc' := 55) (st' := [.long 1, .long y3_67053]) rfl rfl rfl ?_
                          refine pm_R_br pm_M202 (pc' := 59) rfl rfl ?_
                          refine sf_R_ladd pm_M202 (pc' := 60) rfl rfl B67093 (⟨by decide, by decide⟩ : lf_B 1 1 1) (by decide) (by decide) (fun z67161 e67162 B67163 => ?_)
                          refine pm_R_lo pm_M202 (pc' := 61) (ls' := [.ref 41, .int x1_51933, .int x2_65950, .long z67161, pm_no, .int x5_67053]) (st' := []) rfl rfl rfl ?_
                          refine sf_R_iinc pm_M202 (pc' := 64) (ls' := fun z => [.ref 41, .int x1_51933, .int x2_65950, .long z67161, pm_no, .int z]) rfl B67092 rfl (by decide) (by decide) (by decide) (fun _ => rfl) rfl (fun z67164 e67165 B67166 => ?_)
                          show pm_R _ 202 64 [.ref 41, .int x1_51933, .int x2_65950, .long z67161, pm_no, .int z67164] [] _ _
                          refine pm_R_br pm_M202 (pc' := 23) rfl rfl ?_
                          exact ih_67053 _ (sf_up hN_67053 e67165 B67092 (by decide) (by decide)) z67164 z67161 (sf_weak B67166 (by decide) (by decide)) (lf_weak B67163 (by decide) (by decide)) (by have q0 := e67162; have q1 := e67165; have q2 := B67093.1; have q3 := B67093.2; have q4 := B67092.1; have q5 := B67092.2; have q6 := R0_67053; (try simp only [(show (1 : Int32).toInt = 1 from rfl), (show (1 : Int64).toInt = 1 from rfl)] at q0 q1 ⊢); omega) rfl
                      · have B67167 : sf_B 0 11 (m_65950 26) := sf_eqL (Classical.not_not.mp c67134) B65960
                        refine pm_R_lo pm_M204 (pc' := 28) rfl rfl rfl ?_
                        have B67168 : sf_B 0 15 (m_65950 27) := T_65950.2.2.1 27
                        refine rf_R_get pm_M204 T_65950 (pc' := 31) (v := .int (m_65950 27)) rfl rfl rfl rfl ?_
                        refine pm_R_lo pm_M204 (pc' := 32) rfl rfl rfl ?_
                        refine pm_R_icmp pm_M204 (t := 39) (pc' := 35) rfl rfl rfl (fun c67169 => ?_) (fun c67169 => ?_)
                        · skip
                          refine pm_R_op pm_M204 (pc' := 40) (st' := [.int 0]) rfl rfl rfl ?_
                          refine pm_R_ret pm_M204 (r := some (.int 0)) rfl rfl ?_
                          show pm_R _ 202 40 [.ref 41, .int x1_51933, .int x2_65950, .long y3_67053, pm_no, .int x5_67053] [.int 0, .long y3_67053] _ _
                          refine pm_R_br pm_M202 (pc' := 58) (st' := [.long y3_67053]) rfl rfl ?_
                          refine pm_R_op pm_M202 (pc' := 59) (st' := [.long 0, .long y3_67053]) rfl rfl rfl ?_
                          refine sf_R_ladd pm_M202 (pc' := 60) rfl rfl B67093 (⟨by decide, by decide⟩ : lf_B 0 0 0) (by decide) (by decide) (fun z67170 e67171 B67172 => ?_)
                          refine pm_R_lo pm_M202 (pc' := 61) (ls' := [.ref 41, .int x1_51933, .int x2_65950, .long z67170, pm_no, .int x5_67053]) (st' := []) rfl rfl rfl ?_
                          refine sf_R_iinc pm_M202 (pc' := 64) (ls' := fun z => [.ref 41, .int x1_51933, .int x2_65950, .long z67170, pm_no, .int z]) rfl B67092 rfl (by decide) (by decide) (by decide) (fun _ => rfl) rfl (fun z67173 e67174 B67175 => ?_)
                          show pm_R _ 202 64 [.ref 41, .int x1_51933, .int x2_65950, .long z67170, pm_no, .int z67173] [] _ _
                          refine pm_R_br pm_M202 (pc' := 23) rfl rfl ?_
                          exact ih_67053 _ (sf_up hN_67053 e67174 B67092 (by decide) (by decide)) z67173 z67170 (sf_weak B67175 (by decide) (by decide)) (lf_weak B67172 (by decide) (by decide)) (by have q0 := e67171; have q1 := e67174; have q2 := B67093.1; have q3 := B67093.2; have q4 := B67092.1; have q5 := B67092.2; have q6 := R0_67053; (try simp only [(show (0 : Int32).toInt = 0 from rfl), (show (0 : Int64).toInt = 0 from rfl)] at q0 q1 ⊢); omega) rfl
                        · refine pm_R_op pm_M204 (pc' := 36) (st' := [.int 1]) rfl rfl rfl ?_
                          refine pm_R_br pm_M204 (pc' := 40) rfl rfl ?_
                          refine pm_R_ret pm_M204 (r := some (.int 1)) rfl rfl ?_
                          show pm_R _ 202 40 [.ref 41, .int x1_51933, .int x2_65950, .long y3_67053, pm_no, .int x5_67053] [.int 1, .long y3_67053] _ _
                          refine pm_R_br pm_M202 (pc' := 43) (st' := [.long y3_67053]) rfl rfl ?_
                          refine pm_R_lo pm_M202 (pc' := 44) rfl rfl rfl ?_
                          refine pm_R_lo pm_M202 (pc' := 46) rfl rfl rfl ?_
                          refine pm_R_op pm_M202 (pc' := 47) (st' := [.int 1, .int x5_67053, .ref 41, .long y3_67053]) rfl rfl rfl ?_
                          refine pm_R_cv pm_M202 (pc' := 50) (a := 41) (ra := [.int 1, .int x5_67053]) (rest := [.long y3_67053]) (ls' := [.ref 41, .int x5_67053, .int 1]) rfl rfl (Or.inl rfl) pm_M205 T_65950.2.1 rfl (by decide) (Nat.lt_of_lt_of_le (by decide) T_65950.1) rfl rfl (Nat.le_of_ble_eq_true rfl) rfl rfl ?_
                          refine pm_R_lo pm_M205 (pc' := 1) rfl rfl rfl ?_
                          refine rf_R_get pm_M205 T_65950 (pc' := 4) (v := .ref 47) rfl rfl rfl rfl ?_
                          refine pm_R_op pm_M205 (pc' := 6) (st' := [.int 100, .ref 47]) rfl rfl rfl ?_
                          refine pm_R_lo pm_M205 (pc' := 7) rfl rfl rfl ?_
                          refine rf_R_get pm_M205 T_65950 (pc' := 10) (v := .int (m_65950 23)) rfl rfl rfl rfl ?_
                          refine sf_R_imul pm_M205 (pc' := 11) rfl rfl sf_k100 B67054 (by decide) (by decide) (by decide) (fun z67176 e67177 B67178 => ?_)
                          refine pm_R_op pm_M205 (pc' := 13) (st' := [.int 42, .int z67176, .ref 47]) rfl rfl rfl ?_
                          refine sf_R_iadd pm_M205 (pc' := 14) rfl rfl B67178 sf_k42 (by decide) (by decide) (fun z67179 e67180 B67181 => ?_)
                          refine pm_R_op pm_M205 (pc' := 15) (st' := [.int 3, .int z67179, .ref 47]) rfl rfl rfl ?_
                          refine pm_R_lo pm_M205 (pc' := 16) rfl rfl rfl ?_
                          refine sf_R_imul pm_M205 (pc' := 17) rfl rfl sf_k3 B67092 (by decide) (by decide) (by decide) (fun z67182 e67183 B67184 => ?_)
                          refine sf_R_iadd pm_M205 (pc' := 18) rfl rfl B67181 B67184 (by decide) (by decide) (fun z67185 e67186 B67187 => ?_)
                          refine pm_R_lo pm_M205 (pc' := 19) rfl rfl rfl ?_
                          refine sf_R_iadd pm_M205 (pc' := 20) rfl rfl B67187 sf_k1 (by decide) (by decide) (fun z67188 e67189 B67190 => ?_)
                          refine rf_R_ild pm_M205 T_65950 (pc' := 21) rfl e67062 (by decide) (sf_in B67190 (by decide) (by decide)) rfl (fun z67191 ez67192 => ?_)
                          have e67193 : (z67188).toInt = 100 * ((m_65950 23)).toInt + 3 * (x5_67053).toInt + 43 := by
                            have q0 := e67177
                            have q1 := e67180
                            have q2 := e67183
                            have q3 := e67186
                            have q4 := e67189
                            simp only [(show (1 : Int32).toInt = 1 from rfl), (show (3 : Int32).toInt = 3 from rfl), (show (42 : Int32).toInt = 42 from rfl), (show (100 : Int32).toInt = 100 from rfl)] at q0 q1 q2 q3 q4
                            omega
                          have B67194 : sf_B 0 5 z67191 := ez67192 ▸ rf_p47k b67063 e67193 B67054 B67092 (by decide) (by decide) (by decide)
                          refine pm_R_ret pm_M205 (r := some (.int z67191)) rfl (pm_ret_i _) ?_
                          show pm_R _ 202 50 [.ref 41, .int x1_51933, .int x2_65950, .long y3_67053, pm_no, .int x5_67053] [.int z67191, .long y3_67053] _ _
                          refine pm_R_lo pm_M202 (pc' := 51) rfl rfl rfl ?_
                          refine pm_R_icmp pm_M202 (t := 58) (pc' := 54) rfl rfl rfl (fun c67195 => ?_) (fun c67195 => ?_)
                          · skip
                            refine pm_R_op pm_M202 (pc' := 59) (st' := [.long 0, .long y3_67053]) rfl rfl rfl ?_
                            refine sf_R_ladd pm_M202 (pc' := 60) rfl rfl B67093 (⟨by decide, by decide⟩ : lf_B 0 0 0) (by decide) (by decide) (fun z67196 e67197 B67198 => ?_)
                            refine pm_R_lo pm_M202 (pc' := 61) (ls' := [.ref 41, .int x1_51933, .int x2_65950, .long z67196, pm_no, .int x5_67053]) (st' := []) rfl rfl rfl ?_
                            refine sf_R_iinc pm_M202 (pc' := 64) (ls' := fun z => [.ref 41, .int x1_51933, .int x2_65950, .long z67196, pm_no, .int z]) rfl B67092 rfl (by decide) (by decide) (by decide) (fun _ => rfl) rfl (fun z67199 e67200 B67201 => ?_)
                            show pm_R _ 202 64 [.ref 41, .int x1_51933, .int x2_65950, .long z67196, pm_no, .int z67199] [] _ _
                            refine pm_R_br pm_M202 (pc' := 23) rfl rfl ?_
                            exact ih_67053 _ (sf_up hN_67053 e67200 B67092 (by decide) (by decide)) z67199 z67196 (sf_weak B67201 (by decide) (by decide)) (lf_weak B67198 (by decide) (by decide)) (by have q0 := e67197; have q1 := e67200; have q2 := B67093.1; have q3 := B67093.2; have q4 := B67092.1; have q5 := B67092.2; have q6 := R0_67053; (try simp only [(show (0 : Int32).toInt = 0 from rfl), (show (0 : Int64).toInt = 0 from rfl)] at q0 q1 ⊢); omega) rfl
                          · refine pm_R_op pm_M202 (pc' := 55) (st' := [.long 1, .long y3_67053]) rfl rfl rfl ?_
                            refine pm_R_br pm_M202 (pc' := 59) rfl rfl ?_
                            refine sf_R_ladd pm_M202 (pc' := 60) rfl rfl B67093 (⟨by decide, by decide⟩ : lf_B 1 1 1) (by decide) (by decide) (fun z67202 e67203 B67204 => ?_)
                            refine pm_R_lo pm_M202 (pc' := 61) (ls' := [.ref 41, .int x1_51933, .int x2_65950, .long z67202, pm_no, .int x5_67053]) (st' := []) rfl rfl rfl ?_
                            refine sf_R_iinc pm_M202 (pc' := 64) (ls' := fun z => [.ref 41, .int x1_51933, .int x2_65950, .long z67202, pm_no, .int z]) rfl B67092 rfl (by decide) (by decide) (by decide) (fun _ => rfl) rfl (fun z67205 e67206 B67207 => ?_)
                            show pm_R _ 202 64 [.ref 41, .int x1_51933, .int x2_65950, .long z67202, pm_no, .int z67205] [] _ _
                            refine pm_R_br pm_M202 (pc' := 23) rfl rfl ?_
                            exact ih_67053 _ (sf_up hN_67053 e67206 B67092 (by decide) (by decide)) z67205 z67202 (sf_weak B67207 (by decide) (by decide)) (lf_weak B67204 (by decide) (by decide)) (by have q0 := e67203; have q1 := e67206; have q2 := B67093.1; have q3 := B67093.2; have q4 := B67092.1; have q5 := B67092.2; have q6 := R0_67053; (try simp only [(show (1 : Int32).toInt = 1 from rfl), (show (1 : Int64).toInt = 1 from rfl)] at q0 q1 ⊢); omega) rfl
              exact L_67053 _ 0 0 (sf_weak sf_k0 (by decide) (by decide)) (lf_weak (⟨by decide, by decide⟩ : lf_B 0 0 0) (by decide) (by decide)) (by decide) rfl
        exact L_65950 _ h_51933 m_51933 w_51933 0 (g3_51933) (g4_51933) (g5_51933) T_51933 F_51933 (rf_W.refl _ _) (sf_weak sf_k0 (by decide) (by decide)) Cg4_51933 Cg5_51933 rfl
  exact L_51933 _ h m w 0 (pm_no) (pm_no) (pm_no) (pm_no) T (rf_G.refl [55] h) (rf_W.refl _ _) (sf_weak sf_k0 (by decide) (by decide)) rfl rfl rfl rfl

set_option maxRecDepth 100000 in
set_option maxHeartbeats 4000000 in
/-- SilentTableModel.addByValue -/
theorem rf_c226 {d : Nat} {m : Nat → Int32} {w : Int64} {h : pm_H} {Q : Option Value → pm_H → Prop} {a0 : Int32} {a1 : Int32} {a2 : Int32} {a3 : Int32} (T : rf_T m w h) (Ba0 : sf_B 0 9 a0) (Ba1 : sf_B 0 11 a1) (Ba2 : sf_B 0 10 a2) (Ba3 : sf_B 0 11 a3) (K : ∀ (m' : Nat → Int32) (w' : Int64) (h' : pm_H), rf_T m' w' h' → rf_G [56] h h' → rf_W [] m m' → Q none h') : pm_R (d + 2) 226 0 [.ref 41, .int a0, .int a1, .int a2, .int a3, pm_no, pm_no, pm_no, pm_no, pm_no, pm_no, pm_no] [] h Q := by
  refine pm_R_op pm_M226 (pc' := 1) (st' := [.int 0]) rfl rfl rfl ?_
  refine pm_R_lo pm_M226 (pc' := 3) (ls' := [.ref 41, .int a0, .int a1, .int a2, .int a3, .int 0, pm_no, pm_no, pm_no, pm_no, pm_no, pm_no]) (st' := []) rfl rfl rfl ?_
  have L_11060 : ∀ (N : Nat) (h_11060 : pm_H) (m_11060 : Nat → Int32) (w_11060 : Int64) (x5_11060 : Int32) (g6_11060 : Value) (g7_11060 : Value) (g8_11060 : Value) (g9_11060 : Value) (g10_11060 : Value) (g11_11060 : Value), rf_T m_11060 w_11060 h_11060 → rf_G [56] h h_11060 → rf_W [] m m_11060 → sf_B 0 50 x5_11060 → g7_11060.category = 1 → g8_11060.category = 1 → g10_11060.category = 1 → g11_11060.category = 1 → (50 - x5_11060.toInt).toNat = N → pm_R (d + 2) 226 3 [.ref 41, .int a0, .int a1, .int a2, .int a3, .int x5_11060, g6_11060, g7_11060, g8_11060, g9_11060, g10_11060, g11_11060] [] h_11060 Q := by
    intro N
    induction N using Nat.strongRecOn with
    | ind N ih_11060 =>
      intro h_11060 m_11060 w_11060 x5_11060 g6_11060 g7_11060 g8_11060 g9_11060 g10_11060 g11_11060 T_11060 F_11060 W_11060 Bx5_11060 Cg7_11060 Cg8_11060 Cg10_11060 Cg11_11060 hN_11060
      have W11063 : rf_W [] m m_11060 := (rf_W.refl [] m).trans W_11060 (by decide)
      refine pm_R_lo pm_M226 (pc' := 5) rfl rfl rfl ?_
      refine pm_R_op pm_M226 (pc' := 7) (st' := [.int 50, .int x5_11060]) rfl rfl rfl ?_
      refine pm_R_icmp pm_M226 (t := 150) (pc' := 10) rfl rfl rfl (fun c11064 => ?_) (fun c11064 => ?_)
      · have B11065 : sf_B 50 50 x5_11060 := sf_leR c11064 sf_k50 Bx5_11060
        exact pm_R_ret pm_M226 (r := none) (pm_q226_1 (Nat.le_of_ble_eq_true rfl)) rfl (K m_11060 w_11060 h_11060 T_11060 F_11060 W11063)
      · have B11066 : sf_B 0 49 x5_11060 := sf_ltL (Int32.not_le.mp c11064) Bx5_11060 sf_k50
        refine pm_R_lo pm_M226 (pc' := 11) rfl rfl rfl ?_
        refine rf_R_get pm_M226 T_11060 (pc' := 14) (v := .ref 56) rfl rfl rfl rfl ?_
        refine pm_R_lo pm_M226 (pc' := 15) rfl rfl rfl ?_
        refine pm_R_lo pm_M226 (pc' := 16) rfl rfl rfl ?_
        refine pm_R_op pm_M226 (pc' := 17) (st' := [.int 1, .int a0, .ref 41, .ref 56]) rfl rfl rfl ?_
        refine pm_R_cv pm_M226 (pc' := 20) (a := 41) (ra := [.int 1, .int a0]) (rest := [.ref 56]) (ls' := [.ref 41, .int a0, .int 1]) rfl rfl (Or.inl rfl) pm_M210 T_11060.2.1 rfl (by decide) (Nat.lt_of_lt_of_le (by decide) T_11060.1) rfl rfl (Nat.le_of_ble_eq_true rfl) rfl rfl ?_
        refine pm_R_lo pm_M210 (pc' := 1) rfl rfl rfl ?_
        refine rf_R_get pm_M210 T_11060 (pc' := 4) (v := .ref 47) rfl rfl rfl rfl ?_
        refine pm_R_op pm_M210 (pc' := 6) (st' := [.int 100, .ref 47]) rfl rfl rfl ?_
        refine pm_R_lo pm_M210 (pc' := 7) rfl rfl rfl ?_
        have B11067 : sf_B 0 1 (m_11060 23) := T_11060.2.2.1 23
        refine rf_R_get pm_M210 T_11060 (pc' := 10) (v := .int (m_11060 23)) rfl rfl rfl rfl ?_
        refine sf_R_imul pm_M210 (pc' := 11) rfl rfl sf_k100 B11067 (by decide) (by decide) (by decide) (fun z11068 e11069 B11070 => ?_)
        refine pm_R_op pm_M210 (pc' := 12) (st' := [.int 2, .int z11068, .ref 47]) rfl rfl rfl ?_
        refine sf_R_iadd pm_M210 (pc' := 13) rfl rfl B11070 sf_k2 (by decide) (by decide) (fun z11071 e11072 B11073 => ?_)
        refine pm_R_op pm_M210 (pc' := 14) (st' := [.int 4, .int z11071, .ref 47]) rfl rfl rfl ?_
        refine pm_R_lo pm_M210 (pc' := 15) rfl rfl rfl ?_
        refine sf_R_imul pm_M210 (pc' := 16) rfl rfl sf_k4 Ba0 (by decide) (by decide) (by decide) (fun z11074 e11075 B11076 => ?_)
        refine sf_R_iadd pm_M210 (pc' := 17) rfl rfl B11073 B11076 (by decide) (by decide) (fun z11077 e11078 B11079 => ?_)
        refine pm_R_lo pm_M210 (pc' := 18) rfl rfl rfl ?_
        refine sf_R_iadd pm_M210 (pc' := 19) rfl rfl B11079 sf_k1 (by decide) (by decide) (fun z11080 e11081 B11082 => ?_)
        obtain ⟨f11083, e11084, b11085⟩ := T_11060.2.2.2.1 47 (by decide) (by decide)
        refine rf_R_ild pm_M210 T_11060 (pc' := 20) rfl e11084 (by decide) (sf_in B11082 (by decide) (by decide)) rfl (fun z11086 ez11087 => ?_)
        have e11088 : (z11080).toInt = 100 * ((m_11060 23)).toInt + 4 * (a0).toInt + 3 := by
          have q0 := e11069
          have q1 := e11072
          have q2 := e11075
          have q3 := e11078
          have q4 := e11081
          simp only [(show (1 : Int32).toInt = 1 from rfl), (show (2 : Int32).toInt = 2 from rfl), (show (4 : Int32).toInt = 4 from rfl), (show (100 : Int32).toInt = 100 from rfl)] at q0 q1 q2 q3 q4
          omega
        have B11089 : sf_B 0 5 z11086 := ez11087 ▸ rf_p47r b11085 e11088 B11067 Ba0 (by decide) (by decide) (by decide)
        refine pm_R_ret pm_M210 (r := some (.int z11086)) rfl (pm_ret_i _) ?_
        show pm_R _ 226 20 [.ref 41, .int a0, .int a1, .int a2, .int a3, .int x5_11060, g6_11060, g7_11060, g8_11060, g9_11060, g10_11060, g11_11060] [.int z11086, .ref 56] _ _
        refine pm_R_lo pm_M226 (pc' := 21) rfl rfl rfl ?_
        refine pm_R_lo pm_M226 (pc' := 22) rfl rfl rfl ?_
        refine pm_R_lo pm_M226 (pc' := 24) rfl rfl rfl ?_
        refine pm_R_cs pm_M226 (pc' := 27) (ra := [.int x5_11060, .int a2, .int a1, .int z11086]) (rest := [.ref 56]) (ls' := [.int z11086, .int a1, .int a2, .int x5_11060]) rfl rfl (Or.inl rfl) pm_M225 rfl rfl (Nat.le_of_ble_eq_true rfl) rfl rfl ?_
        refine pm_R_op pm_M225 (pc' := 2) (st' := [.int 50]) rfl rfl rfl ?_
        refine pm_R_lo pm_M225 (pc' := 3) rfl rfl rfl ?_
        refine pm_R_lo pm_M225 (pc' := 4) rfl rfl rfl ?_
        refine pm_R_lo pm_M225 (pc' := 5) rfl rfl rfl ?_
        refine pm_R_cs pm_M225 (pc' := 8) (ra := [.int a2, .int a1, .int z11086]) (rest := [.int 50]) (ls' := [.int z11086, .int a1, .int a2]) rfl rfl (Or.inl rfl) pm_M207 rfl rfl (Nat.le_of_ble_eq_true rfl) rfl rfl ?_
        refine pm_R_op pm_M207 (pc' := 3) (st' := [.int 144]) rfl rfl rfl ?_
        refine pm_R_lo pm_M207 (pc' := 4) rfl rfl rfl ?_
        refine sf_R_imul pm_M207 (pc' := 5) rfl rfl sf_k144 B11089 (by decide) (by decide) (by decide) (fun z11090 e11091 B11092 => ?_)
        refine pm_R_op pm_M207 (pc' := 7) (st' := [.int 12, .int z11090]) rfl rfl rfl ?_
        refine pm_R_lo pm_M207 (pc' := 8) rfl rfl rfl ?_
        refine sf_R_imul pm_M207 (pc' := 9) rfl rfl sf_k12 Ba1 (by decide) (by decide) (by decide) (fun z11093 e11094 B11095 => ?_)
        refine sf_R_iadd pm_M207 (pc' := 10) rfl rfl B11092 B11095 (by decide) (by decide) (fun z11096 e11097 B11098 => ?_)
        refine pm_R_lo pm_M207 (pc' := 11) rfl rfl rfl ?_
        refine sf_R_iadd pm_M207 (pc' := 12) rfl rfl B11098 Ba2 (by decide) (by decide) (fun z11099 e11100 B11101 => ?_)
        refine pm_R_ret pm_M207 (r := some (.int z11099)) rfl (pm_ret_i _) ?_
        show pm_R _ 225 8 [.int z11086, .int a1, .int a2, .int x5_11060] [.int z11099, .int 50] _ _
        refine sf_R_imul pm_M225 (pc' := 9) rfl rfl sf_k50 B11101 (by decide) (by decide) (by decide) (fun z11102 e11103 B11104 => ?_)
        refine pm_R_lo pm_M225 (pc' := 10) rfl rfl rfl ?_
        refine sf_R_iadd pm_M225 (pc' := 11) rfl rfl B11104 B11066 (by decide) (by decide) (fun z11105 e11106 B11107 => ?_)
        refine pm_R_ret pm_M225 (r := some (.int z11105)) rfl (pm_ret_i _) ?_
        show pm_R _ 226 27 [.ref 41, .int a0, .int a1, .int a2, .int a3, .int x5_11060, g6_11060, g7_11060, g8_11060, g9_11060, g10_11060, g11_11060] [.int z11105, .ref 56] _ _
        obtain ⟨f11108, e11109⟩ := T_11060.2.2.2.1 56 (by decide) (by decide)
        refine rf_R_lld pm_M226 T_11060 (pc' := 28) rfl e11109 (by decide) (by decide) (sf_in B11107 (by decide) (by decide)) rfl (fun z11111 ez11112 => ?_)
        refine pm_R_lo pm_M226 (pc' := 30) (ls' := [.ref 41, .int a0, .int a1, .int a2, .int a3, .int x5_11060, .long z11111, pm_no, g8_11060, g9_11060, g10_11060, g11_11060]) (st' := []) rfl rfl rfl ?_
        refine pm_R_op pm_M226 (pc' := 31) (st' := [.int 0]) rfl rfl rfl ?_
        refine pm_R_lo pm_M226 (pc' := 33) (ls' := [.ref 41, .int a0, .int a1, .int a2, .int a3, .int x5_11060, .long z11111, pm_no, .int 0, g9_11060, g10_11060, g11_11060]) (st' := []) rfl rfl rfl ?_
        have L_13268 : ∀ (N : Nat) (h_13268 : pm_H) (m_13268 : Nat → Int32) (w_13268 : Int64) (x8_13268 : Int32) (g9_13268 : Value) (g10_13268 : Value) (g11_13268 : Value), rf_T m_13268 w_13268 h_13268 → rf_G [56] h h_13268 → rf_W [] m_11060 m_13268 → sf_B 0 50 x8_13268 → g10_13268.category = 1 → g11_13268.category = 1 → (50 - x8_13268.toInt).toNat = N → pm_R (d + 2) 226 33 [.ref 41, .int a0, .int a1, .int a2, .int a3, .int x5_11060, .long z11111, pm_no, .int x8_13268, g9_13268, g10_13268, g11_13268] [] h_13268 Q := by
          intro N
          induction N using Nat.strongRecOn with
          | ind N ih_13268 =>
            intro h_13268 m_13268 w_13268 x8_13268 g9_13268 g10_13268 g11_13268 T_13268 F_13268 W_13268 Bx8_13268 Cg10_13268 Cg11_13268 hN_13268
            have W13271 : rf_W [] m m_13268 := W11063.trans W_13268 (by decide)
            have W13272 : rf_W [] m m_13268 := W_11060.trans W_13268 (by decide)
            refine pm_R_lo pm_M226 (pc' := 35) rfl rfl rfl ?_
            refine pm_R_op pm_M226 (pc' := 37) (st' := [.int 50, .int x8_13268]) rfl rfl rfl ?_
            refine pm_R_icmp pm_M226 (t := 144) (pc' := 40) rfl rfl rfl (fun c13273 => ?_) (fun c13273 => ?_)
            · have B13274 : sf_B 50 50 x8_13268 := sf_leR c13273 sf_k50 Bx8_13268
              refine sf_R_iinc pm_M226 (pc' := 147) (ls' := fun z => [.ref 41, .int a0, .int a1, .int a2, .int a3, .int z, .long z11111, pm_no, .int x8_13268, g9_13268, g10_13268, g11_13268]) (pm_q226_1 (Nat.le_of_ble_eq_true rfl)) B11066 rfl (by decide) (by decide) (by decide) (fun _ => rfl) rfl (fun z13275 e13276 B13277 => ?_)
              show pm_R _ 226 147 [.ref 41, .int a0, .int a1, .int a2, .int a3, .int z13275, .long z11111, pm_no, .int x8_13268, g9_13268, g10_13268, g11_13268] [] _ _
              refine pm_R_br pm_M226 (pc' := 3) (pm_q226_1 (Nat.le_of_ble_eq_true rfl)) rfl ?_
              exact ih_11060 _ (sf_up hN_11060 e13276 B11066 (by decide) (by decide)) h_13268 m_13268 w_13268 z13275 (.long z11111) (pm_no) (.int x8_13268) (g9_13268) (g10_13268) (g11_13268) T_13268 F_13268 W13272 (sf_weak B13277 (by decide) (by decide)) rfl rfl Cg10_13268 Cg11_13268 rfl
            · have B13278 : sf_B 0 49 x8_13268 := sf_ltL (Int32.not_le.mp c13273) Bx8_13268 sf_k50
              refine pm_R_lo pm_M226 (pc' := 42) rfl rfl rfl ?_
              refine pm_R_op pm_M226 (pc' := 43) (st' := [.long 0, .long z11111]) rfl rfl rfl ?_
              refine sf_R_lcmp pm_M226 (pc' := 44) rfl rfl (fun z13279 e13280 => ?_)
              refine pm_R_ifc pm_M226 (t := 144) (pc' := 47) rfl rfl rfl (fun c13281 => ?_) (fun c13281 => ?_)
              · have B13282 : sf_B (-2147483648) 0 z13279 := sf_leL c13281 (sf_any z13279) sf_k0
                refine sf_R_iinc pm_M226 (pc' := 147) (ls' := fun z => [.ref 41, .int a0, .int a1, .int a2, .int a3, .int z, .long z11111, pm_no, .int x8_13268, g9_13268, g10_13268, g11_13268]) (pm_q226_1 (Nat.le_of_ble_eq_true rfl)) B11066 rfl (by decide) (by decide) (by decide) (fun _ => rfl) rfl (fun z13283 e13284 B13285 => ?_)
                show pm_R _ 226 147 [.ref 41, .int a0, .int a1, .int a2, .int a3, .int z13283, .long z11111, pm_no, .int x8_13268, g9_13268, g10_13268, g11_13268] [] _ _
                refine pm_R_br pm_M226 (pc' := 3) (pm_q226_1 (Nat.le_of_ble_eq_true rfl)) rfl ?_
                exact ih_11060 _ (sf_up hN_11060 e13284 B11066 (by decide) (by decide)) h_13268 m_13268 w_13268 z13283 (.long z11111) (pm_no) (.int x8_13268) (g9_13268) (g10_13268) (g11_13268) T_13268 F_13268 W13272 (sf_weak B13285 (by decide) (by decide)) rfl rfl Cg10_13268 Cg11_13268 rfl
              · have B13286 : sf_B 1 2147483647 z13279 := sf_ltR (Int32.not_le.mp c13281) sf_k0 (sf_any z13279)
                have k13287 := lf_ge e13280 B13286 (by decide)
                have B13288 : lf_B 0 9223372036854775807 z11111 := lf_geB k13287 (⟨by decide, by decide⟩ : lf_B 0 0 0) (lf_any _)
                have k13289 := sf_lneA e13280 B13286 (by decide)
                refine pm_R_lo pm_M226 (pc' := 48) rfl rfl rfl ?_
                refine rf_R_get pm_M226 T_13268 (pc' := 51) (v := .ref 56) rfl rfl rfl rfl ?_
                refine pm_R_lo pm_M226 (pc' := 52) rfl rfl rfl ?_
                refine pm_R_lo pm_M226 (pc' := 53) rfl rfl rfl ?_
                refine pm_R_op pm_M226 (pc' := 54) (st' := [.int 2, .int a0, .ref 41, .ref 56]) rfl rfl rfl ?_
                refine pm_R_cv pm_M226 (pc' := 57) (a := 41) (ra := [.int 2, .int a0]) (rest := [.ref 56]) (ls' := [.ref 41, .int a0, .int 2]) rfl rfl (Or.inl rfl) pm_M210 T_13268.2.1 rfl (by decide) (Nat.lt_of_lt_of_le (by decide) T_13268.1) rfl rfl (Nat.le_of_ble_eq_true rfl) rfl rfl ?_
                refine pm_R_lo pm_M210 (pc' := 1) rfl rfl rfl ?_
                refine rf_R_get pm_M210 T_13268 (pc' := 4) (v := .ref 47) rfl rfl rfl rfl ?_
                refine pm_R_op pm_M210 (pc' := 6) (st' := [.int 100, .ref 47]) rfl rfl rfl ?_
                refine pm_R_lo pm_M210 (pc' := 7) rfl rfl rfl ?_
                have B13290 : sf_B 0 1 (m_13268 23) := T_13268.2.2.1 23
                refine rf_R_get pm_M210 T_13268 (pc' := 10) (v := .int (m_13268 23)) rfl rfl rfl rfl ?_
                refine sf_R_imul pm_M210 (pc' := 11) rfl rfl sf_k100 B13290 (by decide) (by decide) (by decide) (fun z13291 e13292 B13293 => ?_)
                refine pm_R_op pm_M210 (pc' := 12) (st' := [.int 2, .int z13291, .ref 47]) rfl rfl rfl ?_
                refine sf_R_iadd pm_M210 (pc' := 13) rfl rfl B13293 sf_k2 (by decide) (by decide) (fun z13294 e13295 B13296 => ?_)
                refine pm_R_op pm_M210 (pc' := 14) (st' := [.int 4, .int z13294, .ref 47]) rfl rfl rfl ?_
                refine pm_R_lo pm_M210 (pc' := 15) rfl rfl rfl ?_
                refine sf_R_imul pm_M210 (pc' := 16) rfl rfl sf_k4 Ba0 (by decide) (by decide) (by decide) (fun z13297 e13298 B13299 => ?_)
                refine sf_R_iadd pm_M210 (pc' := 17) rfl rfl B13296 B13299 (by decide) (by decide) (fun z13300 e13301 B13302 => ?_)
                refine pm_R_lo pm_M210 (pc' := 18) rfl rfl rfl ?_
                refine sf_R_iadd pm_M210 (pc' := 19) rfl rfl B13302 sf_k2 (by decide) (by decide) (fun z13303 e13304 B13305 => ?_)
                obtain ⟨f13306, e13307, b13308⟩ := T_13268.2.2.2.1 47 (by decide) (by decide)
                refine rf_R_ild pm_M210 T_13268 (pc' := 20) rfl e13307 (by decide) (sf_in B13305 (by decide) (by decide)) rfl (fun z13309 ez13310 => ?_)
                have e13311 : (z13303).toInt = 100 * ((m_13268 23)).toInt + 4 * (a0).toInt + 4 := by
                  have q0 := e13292
                  have q1 := e13295
                  have q2 := e13298
                  have q3 := e13301
                  have q4 := e13304
                  simp only [(show (2 : Int32).toInt = 2 from rfl), (show (4 : Int32).toInt = 4 from rfl), (show (100 : Int32).toInt = 100 from rfl)] at q0 q1 q2 q3 q4
                  omega
                have B13312 : sf_B 0 5 z13309 := ez13310 ▸ rf_p47r b13308 e13311 B13290 Ba0 (by decide) (by decide) (by decide)
                refine pm_R_ret pm_M210 (r := some (.int z13309)) rfl (pm_ret_i _) ?_
                show pm_R _ 226 57 [.ref 41, .int a0, .int a1, .int a2, .int a3, .int x5_11060, .long z11111, pm_no, .int x8_13268, g9_13268, g10_13268, g11_13268] [.int z13309, .ref 56] _ _
                refine pm_R_lo pm_M226 (pc' := 58) rfl rfl rfl ?_
                refine pm_R_op pm_M226 (pc' := 59) (st' := [.int 1, .int a2, .int z13309, .ref 56]) rfl rfl rfl ?_
                refine sf_R_iadd pm_M226 (pc' := 60) rfl rfl Ba2 sf_k1 (by decide) (by decide) (fun z13313 e13314 B13315 => ?_)
                refine pm_R_lo pm_M226 (pc' := 62) rfl rfl rfl ?_
                refine pm_R_lo pm_M226 (pc' := 64) rfl rfl rfl ?_
                refine pm_R_cs pm_M226 (pc' := 67) (ra := [.int x8_13268, .int a3, .int z13313, .int z13309]) (rest := [.ref 56]) (ls' := [.int z13309, .int z13313, .int a3, .int x8_13268]) rfl rfl (Or.inl rfl) pm_M225 rfl rfl (Nat.le_of_ble_eq_true rfl) rfl rfl ?_
                refine pm_R_op pm_M225 (pc' := 2) (st' := [.int 50]) rfl rfl rfl ?_
                refine pm_R_lo pm_M225 (pc' := 3) rfl rfl rfl ?_
                refine pm_R_lo pm_M225 (pc' := 4) rfl rfl rfl ?_
                refine pm_R_lo pm_M225 (pc' := 5) rfl rfl rfl ?_
                refine pm_R_cs pm_M225 (pc' := 8) (ra := [.int a3, .int z13313, .int z13309]) (rest := [.int 50]) (ls' := [.int z13309, .int z13313, .int a3]) rfl rfl (Or.inl rfl) pm_M207 rfl rfl (Nat.le_of_ble_eq_true rfl) rfl rfl ?_
                refine pm_R_op pm_M207 (pc' := 3) (st' := [.int 144]) rfl rfl rfl ?_
                refine pm_R_lo pm_M207 (pc' := 4) rfl rfl rfl ?_
                refine sf_R_imul pm_M207 (pc' := 5) rfl rfl sf_k144 B13312 (by decide) (by decide) (by decide) (fun z13316 e13317 B13318 => ?_)
                refine pm_R_op pm_M207 (pc' := 7) (st' := [.int 12, .int z13316]) rfl rfl rfl ?_
                refine pm_R_lo pm_M207 (pc' := 8) rfl rfl rfl ?_
                refine sf_R_imul pm_M207 (pc' := 9) rfl rfl sf_k12 B13315 (by decide) (by decide) (by decide) (fun z13319 e13320 B13321 => ?_)
                refine sf_R_iadd pm_M207 (pc' := 10) rfl rfl B13318 B13321 (by decide) (by decide) (fun z13322 e13323 B13324 => ?_)
                refine pm_R_lo pm_M207 (pc' := 11) rfl rfl rfl ?_
                refine sf_R_iadd pm_M207 (pc' := 12) rfl rfl B13324 Ba3 (by decide) (by decide) (fun z13325 e13326 B13327 => ?_)
                refine pm_R_ret pm_M207 (r := some (.int z13325)) rfl (pm_ret_i _) ?_
                show pm_R _ 225 8 [.int z13309, .int z13313, .int a3, .int x8_13268] [.int z13325, .int 50] _ _
                refine sf_R_imul pm_M225 (pc' := 9) rfl rfl sf_k50 B13327 (by decide) (by decide) (by decide) (fun z13328 e13329 B13330 => ?_)
                refine pm_R_lo pm_M225 (pc' := 10) rfl rfl rfl ?_
                refine sf_R_iadd pm_M225 (pc' := 11) rfl rfl B13330 B13278 (by decide) (by decide) (fun z13331 e13332 B13333 => ?_)
                refine pm_R_ret pm_M225 (r := some (.int z13331)) rfl (pm_ret_i _) ?_
                show pm_R _ 226 67 [.ref 41, .int a0, .int a1, .int a2, .int a3, .int x5_11060, .long z11111, pm_no, .int x8_13268, g9_13268, g10_13268, g11_13268] [.int z13331, .ref 56] _ _
                obtain ⟨f13334, e13335⟩ := T_13268.2.2.2.1 56 (by decide) (by decide)
                refine rf_R_lld pm_M226 T_13268 (pc' := 68) rfl e13335 (by decide) (by decide) (sf_in B13333 (by decide) (by decide)) rfl (fun z13337 ez13338 => ?_)
                refine pm_R_lo pm_M226 (pc' := 70) (ls' := [.ref 41, .int a0, .int a1, .int a2, .int a3, .int x5_11060, .long z11111, pm_no, .int x8_13268, .long z13337, pm_no, g11_13268]) (st' := []) rfl rfl rfl ?_
                refine pm_R_lo pm_M226 (pc' := 71) rfl rfl rfl ?_
                refine pm_R_lo pm_M226 (pc' := 72) rfl rfl rfl ?_
                refine pm_R_op pm_M226 (pc' := 73) (st' := [.int 0, .int a0, .ref 41]) rfl rfl rfl ?_
                refine pm_R_cv pm_M226 (pc' := 76) (a := 41) (ra := [.int 0, .int a0]) (rest := []) (ls' := [.ref 41, .int a0, .int 0]) rfl rfl (Or.inl rfl) pm_M210 T_13268.2.1 rfl (by decide) (Nat.lt_of_lt_of_le (by decide) T_13268.1) rfl rfl (Nat.le_of_ble_eq_true rfl) rfl rfl ?_
                refine pm_R_lo pm_M210 (pc' := 1) rfl rfl rfl ?_
                refine rf_R_get pm_M210 T_13268 (pc' := 4) (v := .ref 47) rfl rfl rfl rfl ?_
                refine pm_R_op pm_M210 (pc' := 6) (st' := [.int 100, .ref 47]) rfl rfl rfl ?_
                refine pm_R_lo pm_M210 (pc' := 7) rfl rfl rfl ?_
                refine rf_R_get pm_M210 T_13268 (pc' := 10) (v := .int (m_13268 23)) rfl rfl rfl rfl ?_
                refine sf_R_imul pm_M210 (pc' := 11) rfl rfl sf_k100 B13290 (by decide) (by decide) (by decide) (fun z13339 e13340 B13341 => ?_)
                refine pm_R_op pm_M210 (pc' := 12) (st' := [.int 2, .int z13339, .ref 47]) rfl rfl rfl ?_
                refine sf_R_iadd pm_M210 (pc' := 13) rfl rfl B13341 sf_k2 (by decide) (by decide) (fun z13342 e13343 B13344 => ?_)
                refine pm_R_op pm_M210 (pc' := 14) (st' := [.int 4, .int z13342, .ref 47]) rfl rfl rfl ?_
                refine pm_R_lo pm_M210 (pc' := 15) rfl rfl rfl ?_
                refine sf_R_imul pm_M210 (pc' := 16) rfl rfl sf_k4 Ba0 (by decide) (by decide) (by decide) (fun z13345 e13346 B13347 => ?_)
                refine sf_R_iadd pm_M210 (pc' := 17) rfl rfl B13344 B13347 (by decide) (by decide) (fun z13348 e13349 B13350 => ?_)
                refine pm_R_lo pm_M210 (pc' := 18) rfl rfl rfl ?_
                refine sf_R_iadd pm_M210 (pc' := 19) rfl rfl B13350 sf_k0 (by decide) (by decide) (fun z13351 e13352 B13353 => ?_)
                refine rf_R_ild pm_M210 T_13268 (pc' := 20) rfl e13307 (by decide) (sf_in B13353 (by decide) (by decide)) rfl (fun z13354 ez13355 => ?_)
                have e13356 : (z13351).toInt = 100 * ((m_13268 23)).toInt + 4 * (a0).toInt + 2 := by
                  have q0 := e13340
                  have q1 := e13343
                  have q2 := e13346
                  have q3 := e13349
                  have q4 := e13352
                  simp only [(show (0 : Int32).toInt = 0 from rfl), (show (2 : Int32).toInt = 2 from rfl), (show (4 : Int32).toInt = 4 from rfl), (show (100 : Int32).toInt = 100 from rfl)] at q0 q1 q2 q3 q4
                  omega
                have B13357 : sf_B 0 5 z13354 := ez13355 ▸ rf_p47r b13308 e13356 B13290 Ba0 (by decide) (by decide) (by decide)
                refine pm_R_ret pm_M210 (r := some (.int z13354)) rfl (pm_ret_i _) ?_
                show pm_R _ 226 76 [.ref 41, .int a0, .int a1, .int a2, .int a3, .int x5_11060, .long z11111, pm_no, .int x8_13268, .long z13337, pm_no, g11_13268] [.int z13354] _ _
                refine pm_R_lo pm_M226 (pc' := 77) rfl rfl rfl ?_
                refine pm_R_lo pm_M226 (pc' := 79) rfl rfl rfl ?_
                refine pm_R_lo pm_M226 (pc' := 80) rfl rfl rfl ?_
                refine pm_R_lo pm_M226 (pc' := 81) rfl rfl rfl ?_
                refine pm_R_op pm_M226 (pc' := 82) (st' := [.int 3, .int a0, .ref 41, .int a3, .int a1, .int z13354]) rfl rfl rfl ?_
                refine pm_R_cv pm_M226 (pc' := 85) (a := 41) (ra := [.int 3, .int a0]) (rest := [.int a3, .int a1, .int z13354]) (ls' := [.ref 41, .int a0, .int 3]) rfl rfl (Or.inl rfl) pm_M210 T_13268.2.1 rfl (by decide) (Nat.lt_of_lt_of_le (by decide) T_13268.1) rfl rfl (Nat.le_of_ble_eq_true rfl) rfl rfl ?_
                refine pm_R_lo pm_M210 (pc' := 1) rfl rfl rfl ?_
                refine rf_R_get pm_M210 T_13268 (pc' := 4) (v := .ref 47) rfl rfl rfl rfl ?_
                refine pm_R_op pm_M210 (pc' := 6) (st' := [.int 100, .ref 47]) rfl rfl rfl ?_
                refine pm_R_lo pm_M210 (pc' := 7) rfl rfl rfl ?_
                refine rf_R_get pm_M210 T_13268 (pc' := 10) (v := .int (m_13268 23)) rfl rfl rfl rfl ?_
                refine sf_R_imul pm_M210 (pc' := 11) rfl rfl sf_k100 B13290 (by decide) (by decide) (by decide) (fun z13358 e13359 B13360 => ?_)
                refine pm_R_op pm_M210 (pc' := 12) (st' := [.int 2, .int z13358, .ref 47]) rfl rfl rfl ?_
                refine sf_R_iadd pm_M210 (pc' := 13) rfl rfl B13360 sf_k2 (by decide) (by decide) (fun z13361 e13362 B13363 => ?_)
                refine pm_R_op pm_M210 (pc' := 14) (st' := [.int 4, .int z13361, .ref 47]) rfl rfl rfl ?_
                refine pm_R_lo pm_M210 (pc' := 15) rfl rfl rfl ?_
                refine sf_R_imul pm_M210 (pc' := 16) rfl rfl sf_k4 Ba0 (by decide) (by decide) (by decide) (fun z13364 e13365 B13366 => ?_)
                refine sf_R_iadd pm_M210 (pc' := 17) rfl rfl B13363 B13366 (by decide) (by decide) (fun z13367 e13368 B13369 => ?_)
                refine pm_R_lo pm_M210 (pc' := 18) rfl rfl rfl ?_
                refine sf_R_iadd pm_M210 (pc' := 19) rfl rfl B13369 sf_k3 (by decide) (by decide) (fun z13370 e13371 B13372 => ?_)
                refine rf_R_ild pm_M210 T_13268 (pc' := 20) rfl e13307 (by decide) (sf_in B13372 (by decide) (by decide)) rfl (fun z13373 ez13374 => ?_)
                have e13375 : (z13370).toInt = 100 * ((m_13268 23)).toInt + 4 * (a0).toInt + 5 := by
                  have q0 := e13359
                  have q1 := e13362
                  have q2 := e13365
                  have q3 := e13368
                  have q4 := e13371
                  simp only [(show (2 : Int32).toInt = 2 from rfl), (show (3 : Int32).toInt = 3 from rfl), (show (4 : Int32).toInt = 4 from rfl), (show (100 : Int32).toInt = 100 from rfl)] at q0 q1 q2 q3 q4
                  omega
                have B13376 : sf_B 0 4 z13373 := ez13374 ▸ rf_p47t b13308 e13375 B13290 Ba0 (by decide) (by decide) (by decide)
                refine pm_R_ret pm_M210 (r := some (.int z13373)) rfl (pm_ret_i _) ?_
                show pm_R _ 226 85 [.ref 41, .int a0, .int a1, .int a2, .int a3, .int x5_11060, .long z11111, pm_no, .int x8_13268, .long z13337, pm_no, g11_13268] [.int z13373, .int a3, .int a1, .int z13354] _ _
                refine pm_R_lo pm_M226 (pc' := 87) rfl rfl rfl ?_
                refine pm_R_lo pm_M226 (pc' := 89) rfl rfl rfl ?_
                refine pm_R_cs pm_M226 (pc' := 92) (ra := [.int x8_13268, .int x5_11060, .int z13373]) (rest := [.int a3, .int a1, .int z13354]) (ls' := [.int z13373, .int x5_11060, .int x8_13268]) rfl rfl (Or.inl rfl) pm_M227 rfl rfl (Nat.le_of_ble_eq_true rfl) rfl rfl ?_
                refine pm_R_lo pm_M227 (pc' := 1) rfl rfl rfl ?_
                refine pm_R_ifc pm_M227 (t := 8) (pc' := 4) rfl rfl rfl (fun c13377 => ?_) (fun c13377 => ?_)
                · have B13378 : sf_B 1 4 z13373 := sf_neL0 c13377 sf_k0 B13376
                  refine pm_R_lo pm_M227 (pc' := 9) rfl rfl rfl ?_
                  refine pm_R_op pm_M227 (pc' := 10) (st' := [.int 1, .int z13373]) rfl rfl rfl ?_
                  refine pm_R_icmp pm_M227 (t := 17) (pc' := 13) rfl rfl rfl (fun c13379 => ?_) (fun c13379 => ?_)
                  · have B13380 : sf_B 2 4 z13373 := sf_neL0 c13379 sf_k1 B13378
                    refine pm_R_lo pm_M227 (pc' := 18) rfl rfl rfl ?_
                    refine pm_R_op pm_M227 (pc' := 19) (st' := [.int 2, .int z13373]) rfl rfl rfl ?_
                    refine pm_R_icmp pm_M227 (t := 31) (pc' := 22) rfl rfl rfl (fun c13381 => ?_) (fun c13381 => ?_)
                    · have B13382 : sf_B 3 4 z13373 := sf_neL0 c13381 sf_k2 B13380
                      refine pm_R_lo pm_M227 (pc' := 32) rfl rfl rfl ?_
                      refine pm_R_op pm_M227 (pc' := 33) (st' := [.int 3, .int z13373]) rfl rfl rfl ?_
                      refine pm_R_icmp pm_M227 (t := 48) (pc' := 36) rfl rfl rfl (fun c13383 => ?_) (fun c13383 => ?_)
                      · have B13384 : sf_B 4 4 z13373 := sf_neL0 c13383 sf_k3 B13382
                        refine pm_R_op pm_M227 (pc' := 50) (st' := [.int 49]) rfl rfl rfl ?_
                        refine pm_R_lo pm_M227 (pc' := 51) rfl rfl rfl ?_
                        refine sf_R_isub pm_M227 (pc' := 52) rfl rfl sf_k49 B13278 (by decide) (by decide) (fun z13385 e13386 B13387 => ?_)
                        refine pm_R_ret pm_M227 (r := some (.int z13385)) rfl (pm_ret_i _) ?_
                        show pm_R _ 226 92 [.ref 41, .int a0, .int a1, .int a2, .int a3, .int x5_11060, .long z11111, pm_no, .int x8_13268, .long z13337, pm_no, g11_13268] [.int z13385, .int a3, .int a1, .int z13354] _ _
                        refine pm_R_cs pm_M226 (pc' := 95) (ra := [.int z13385, .int a3, .int a1, .int z13354]) (rest := []) (ls' := [.int z13354, .int a1, .int a3, .int z13385]) rfl rfl (Or.inl rfl) pm_M225 rfl rfl (Nat.le_of_ble_eq_true rfl) rfl rfl ?_
                        refine pm_R_op pm_M225 (pc' := 2) (st' := [.int 50]) rfl rfl rfl ?_
                        refine pm_R_lo pm_M225 (pc' := 3) rfl rfl rfl ?_
                        refine pm_R_lo pm_M225 (pc' := 4) rfl rfl rfl ?_
                        refine pm_R_lo pm_M225 (pc' := 5) rfl rfl rfl ?_
                        refine pm_R_cs pm_M225 (pc' := 8) (ra := [.int a3, .int a1, .int z13354]) (rest := [.int 50]) (ls' := [.int z13354, .int a1, .int a3]) rfl rfl (Or.inl rfl) pm_M207 rfl rfl (Nat.le_of_ble_eq_true rfl) rfl rfl ?_
                        refine pm_R_op pm_M207 (pc' := 3) (st' := [.int 144]) rfl rfl rfl ?_
                        refine pm_R_lo pm_M207 (pc' := 4) rfl rfl rfl ?_
                        refine sf_R_imul pm_M207 (pc' := 5) rfl rfl sf_k144 B13357 (by decide) (by decide) (by decide) (fun z13388 e13389 B13390 => ?_)
                        refine pm_R_op pm_M207 (pc' := 7) (st' := [.int 12, .int z13388]) rfl rfl rfl ?_
                        refine pm_R_lo pm_M207 (pc' := 8) rfl rfl rfl ?_
                        refine sf_R_imul pm_M207 (pc' := 9) rfl rfl sf_k12 Ba1 (by decide) (by decide) (by decide) (fun z13391 e13392 B13393 => ?_)
                        refine sf_R_iadd pm_M207 (pc' := 10) rfl rfl B13390 B13393 (by decide) (by decide) (fun z13394 e13395 B13396 => ?_)
                        refine pm_R_lo pm_M207 (pc' := 11) rfl rfl rfl ?_
                        refine sf_R_iadd pm_M207 (pc' := 12) rfl rfl B13396 Ba3 (by decide) (by decide) (fun z13397 e13398 B13399 => ?_)
                        refine pm_R_ret pm_M207 (r := some (.int z13397)) rfl (pm_ret_i _) ?_
                        show pm_R _ 225 8 [.int z13354, .int a1, .int a3, .int z13385] [.int z13397, .int 50] _ _
                        refine sf_R_imul pm_M225 (pc' := 9) rfl rfl sf_k50 B13399 (by decide) (by decide) (by decide) (fun z13400 e13401 B13402 => ?_)
                        refine pm_R_lo pm_M225 (pc' := 10) rfl rfl rfl ?_
                        refine sf_R_iadd pm_M225 (pc' := 11) rfl rfl B13402 B13387 (by decide) (by decide) (fun z13403 e13404 B13405 => ?_)
                        refine pm_R_ret pm_M225 (r := some (.int z13403)) rfl (pm_ret_i _) ?_
                        show pm_R _ 226 95 [.ref 41, .int a0, .int a1, .int a2, .int a3, .int x5_11060, .long z11111, pm_no, .int x8_13268, .long z13337, pm_no, g11_13268] [.int z13403] _ _
                        refine pm_R_lo pm_M226 (pc' := 97) (ls' := [.ref 41, .int a0, .int a1, .int a2, .int a3, .int x5_11060, .long z11111, pm_no, .int x8_13268, .long z13337, pm_no, .int z13403]) (st' := []) rfl rfl rfl ?_
                        refine pm_R_lo pm_M226 (pc' := 98) rfl rfl rfl ?_
                        refine rf_R_get pm_M226 T_13268 (pc' := 101) (v := .ref 56) rfl rfl rfl rfl ?_
                        refine pm_R_lo pm_M226 (pc' := 103) rfl rfl rfl ?_
                        refine pm_R_lo pm_M226 (pc' := 105) rfl rfl rfl ?_
                        refine pm_R_op pm_M226 (pc' := 106) (st' := [.long 0, .long z13337, .int z13403, .ref 56]) rfl rfl rfl ?_
                        refine sf_R_lcmp pm_M226 (pc' := 107) (pm_q226_1 (Nat.le_of_ble_eq_true rfl)) rfl (fun z13406 e13407 => ?_)
                        refine pm_R_ifc pm_M226 (t := 120) (pc' := 110) (pm_q226_1 (Nat.le_of_ble_eq_true rfl)) rfl rfl (fun c13408 => ?_) (fun c13408 => ?_)
                        · have k13409 := sf_lneC e13407 c13408
                          refine pm_R_lo pm_M226 (pc' := 121) (pm_q226_1 (Nat.le_of_ble_eq_true rfl)) rfl rfl ?_
                          refine rf_R_get pm_M226 T_13268 (pc' := 124) (v := .ref 56) (pm_q226_1 (Nat.le_of_ble_eq_true rfl)) rfl rfl rfl ?_
                          refine pm_R_lo pm_M226 (pc' := 126) (pm_q226_1 (Nat.le_of_ble_eq_true rfl)) rfl rfl ?_
                          refine rf_R_lld pm_M226 T_13268 (pc' := 127) (pm_q226_1 (Nat.le_of_ble_eq_true rfl)) e13335 (by decide) (by decide) (sf_in B13405 (by decide) (by decide)) rfl (fun z13410 ez13411 => ?_)
                          refine pm_R_lo pm_M226 (pc' := 129) (pm_q226_1 (Nat.le_of_ble_eq_true rfl)) rfl rfl ?_
                          refine pm_R_lo pm_M226 (pc' := 131) (pm_q226_1 (Nat.le_of_ble_eq_true rfl)) rfl rfl ?_
                          refine pm_R_cs pm_M226 (pc' := 134) (ra := [.long z13337, .long z11111]) (rest := [.long z13410, .int z13403, .ref 56]) (ls' := [.long z11111, pm_no, .long z13337, pm_no]) (pm_q226_1 (Nat.le_of_ble_eq_true rfl)) rfl (Or.inl rfl) pm_M212 rfl rfl (Nat.le_of_ble_eq_true rfl) rfl rfl ?_
                          refine rf_u212 (d := d + 0)  (fun r13412 => ?_)
                          show pm_R _ 226 134 [.ref 41, .int a0, .int a1, .int a2, .int a3, .int x5_11060, .long z11111, pm_no, .int x8_13268, .long z13337, pm_no, .int z13403] [.long r13412, .long z13410, .int z13403, .ref 56] _ _
                          refine pm_R_cs pm_M226 (pc' := 137) (ra := [.long r13412, .long z13410]) (rest := [.int z13403, .ref 56]) (ls' := [.long z13410, pm_no, .long r13412, pm_no]) (pm_q226_1 (Nat.le_of_ble_eq_true rfl)) rfl (Or.inl rfl) pm_M213 rfl rfl (Nat.le_of_ble_eq_true rfl) rfl rfl ?_
                          refine rf_u213 (d := d + 1)  (fun r13420 => ?_)
                          show pm_R _ 226 137 [.ref 41, .int a0, .int a1, .int a2, .int a3, .int x5_11060, .long z11111, pm_no, .int x8_13268, .long z13337, pm_no, .int z13403] [.long r13420, .int z13403, .ref 56] _ _
                          refine rf_R_lst pm_M226 T_13268 (pc' := 138) (pm_q226_1 (Nat.le_of_ble_eq_true rfl)) e13335 (by decide) (by decide) (sf_in B13405 (by decide) (by decide)) ⟨_, rfl⟩ rfl (fun h13428 T13429 F13430 e13431 => ?_)
                          have F13432 := F_13268.trans F13430 (by decide)
                          refine sf_R_iinc pm_M226 (pc' := 141) (ls' := fun z => [.ref 41, .int a0, .int a1, .int a2, .int a3, .int x5_11060, .long z11111, pm_no, .int z, .long z13337, pm_no, .int z13403]) (pm_q226_1 (Nat.le_of_ble_eq_true rfl)) B13278 rfl (by decide) (by decide) (by decide) (fun _ => rfl) rfl (fun z13433 e13434 B13435 => ?_)
                          show pm_R _ 226 141 [.ref 41, .int a0, .int a1, .int a2, .int a3, .int x5_11060, .long z11111, pm_no, .int z13433, .long z13337, pm_no, .int z13403] [] _ _
                          refine pm_R_br pm_M226 (pc' := 33) (pm_q226_1 (Nat.le_of_ble_eq_true rfl)) rfl ?_
                          exact ih_13268 _ (sf_up hN_13268 e13434 B13278 (by decide) (by decide)) h13428 m_13268 w_13268 z13433 (.long z13337) (pm_no) (.int z13403) T13429 F13432 W_13268 (sf_weak B13435 (by decide) (by decide)) rfl rfl rfl
                        · have B13436 : sf_B 0 0 z13406 := sf_eqL (Classical.not_not.mp c13408) sf_k0
                          refine pm_R_lo pm_M226 (pc' := 111) (pm_q226_1 (Nat.le_of_ble_eq_true rfl)) rfl rfl ?_
                          refine rf_R_get pm_M226 T_13268 (pc' := 114) (v := .ref 56) (pm_q226_1 (Nat.le_of_ble_eq_true rfl)) rfl rfl rfl ?_
                          refine pm_R_lo pm_M226 (pc' := 116) (pm_q226_1 (Nat.le_of_ble_eq_true rfl)) rfl rfl ?_
                          refine rf_R_lld pm_M226 T_13268 (pc' := 117) (pm_q226_1 (Nat.le_of_ble_eq_true rfl)) e13335 (by decide) (by decide) (sf_in B13405 (by decide) (by decide)) rfl (fun z13437 ez13438 => ?_)
                          refine pm_R_br pm_M226 (pc' := 137) (pm_q226_1 (Nat.le_of_ble_eq_true rfl)) rfl ?_
                          refine rf_R_lst pm_M226 T_13268 (pc' := 138) (pm_q226_1 (Nat.le_of_ble_eq_true rfl)) e13335 (by decide) (by decide) (sf_in B13405 (by decide) (by decide)) ⟨_, rfl⟩ rfl (fun h13439 T13440 F13441 e13442 => ?_)
                          have F13443 := F_13268.trans F13441 (by decide)
                          refine sf_R_iinc pm_M226 (pc' := 141) (ls' := fun z => [.ref 41, .int a0, .int a1, .int a2, .int a3, .int x5_11060, .long z11111, pm_no, .int z, .long z13337, pm_no, .int z13403]) (pm_q226_1 (Nat.le_of_ble_eq_true rfl)) B13278 rfl (by decide) (by decide) (by decide) (fun _ => rfl) rfl (fun z13444 e13445 B13446 => ?_)
                          show pm_R _ 226 141 [.ref 41, .int a0, .int a1, .int a2, .int a3, .int x5_11060, .long z11111, pm_no, .int z13444, .long z13337, pm_no, .int z13403] [] _ _
                          refine pm_R_br pm_M226 (pc' := 33) (pm_q226_1 (Nat.le_of_ble_eq_true rfl)) rfl ?_
                          exact ih_13268 _ (sf_up hN_13268 e13445 B13278 (by decide) (by decide)) h13439 m_13268 w_13268 z13444 (.long z13337) (pm_no) (.int z13403) T13440 F13443 W_13268 (sf_weak B13446 (by decide) (by decide)) rfl rfl rfl
                      · have B13447 : sf_B 3 3 z13373 := sf_eqL (Classical.not_not.mp c13383) sf_k3
                        refine pm_R_lo pm_M227 (pc' := 37) rfl rfl rfl ?_
                        refine pm_R_lo pm_M227 (pc' := 38) rfl rfl rfl ?_
                        refine sf_R_isub pm_M227 (pc' := 39) rfl rfl B11066 B13278 (by decide) (by decide) (fun z13448 e13449 B13450 => ?_)
                        refine pm_R_op pm_M227 (pc' := 41) (st' := [.int 50, .int z13448]) rfl rfl rfl ?_
                        refine sf_R_iadd pm_M227 (pc' := 42) rfl rfl B13450 sf_k50 (by decide) (by decide) (fun z13451 e13452 B13453 => ?_)
                        refine pm_R_op pm_M227 (pc' := 44) (st' := [.int 50, .int z13451]) rfl rfl rfl ?_
                        refine sf_R_irem pm_M227 (pc' := 45) rfl rfl B13453 sf_k50 (by decide) (by decide) (fun z13454 e13455 B13456 => ?_)
                        refine pm_R_br pm_M227 (pc' := 52) rfl rfl ?_
                        refine pm_R_ret pm_M227 (r := some (.int z13454)) rfl (pm_ret_i _) ?_
                        show pm_R _ 226 92 [.ref 41, .int a0, .int a1, .int a2, .int a3, .int x5_11060, .long z11111, pm_no, .int x8_13268, .long z13337, pm_no, g11_13268] [.int z13454, .int a3, .int a1, .int z13354] _ _
                        refine pm_R_cs pm_M226 (pc' := 95) (ra := [.int z13454, .int a3, .int a1, .int z13354]) (rest := []) (ls' := [.int z13354, .int a1, .int a3, .int z13454]) rfl rfl (Or.inl rfl) pm_M225 rfl rfl (Nat.le_of_ble_eq_true rfl) rfl rfl ?_
                        refine pm_R_op pm_M225 (pc' := 2) (st' := [.int 50]) rfl rfl rfl ?_
                        refine pm_R_lo pm_M225 (pc' := 3) rfl rfl rfl ?_
                        refine pm_R_lo pm_M225 (pc' := 4) rfl rfl rfl ?_
                        refine pm_R_lo pm_M225 (pc' := 5) rfl rfl rfl ?_
                        refine pm_R_cs pm_M225 (pc' := 8) (ra := [.int a3, .int a1, .int z13354]) (rest := [.int 50]) (ls' := [.int z13354, .int a1, .int a3]) rfl rfl (Or.inl rfl) pm_M207 rfl rfl (Nat.le_of_ble_eq_true rfl) rfl rfl ?_
                        refine pm_R_op pm_M207 (pc' := 3) (st' := [.int 144]) rfl rfl rfl ?_
                        refine pm_R_lo pm_M207 (pc' := 4) rfl rfl rfl ?_
                        refine sf_R_imul pm_M207 (pc' := 5) rfl rfl sf_k144 B13357 (by decide) (by decide) (by decide) (fun z13457 e13458 B13459 => ?_)
                        refine pm_R_op pm_M207 (pc' := 7) (st' := [.int 12, .int z13457]) rfl rfl rfl ?_
                        refine pm_R_lo pm_M207 (pc' := 8) rfl rfl rfl ?_
                        refine sf_R_imul pm_M207 (pc' := 9) rfl rfl sf_k12 Ba1 (by decide) (by decide) (by decide) (fun z13460 e13461 B13462 => ?_)
                        refine sf_R_iadd pm_M207 (pc' := 10) rfl rfl B13459 B13462 (by decide) (by decide) (fun z13463 e13464 B13465 => ?_)
                        refine pm_R_lo pm_M207 (pc' := 11) rfl rfl rfl ?_
                        refine sf_R_iadd pm_M207 (pc' := 12) rfl rfl B13465 Ba3 (by decide) (by decide) (fun z13466 e13467 B13468 => ?_)
                        refine pm_R_ret pm_M207 (r := some (.int z13466)) rfl (pm_ret_i _) ?_
                        show pm_R _ 225 8 [.int z13354, .int a1, .int a3, .int z13454] [.int z13466, .int 50] _ _
                        refine sf_R_imul pm_M225 (pc' := 9) rfl rfl sf_k50 B13468 (by decide) (by decide) (by decide) (fun z13469 e13470 B13471 => ?_)
                        refine pm_R_lo pm_M225 (pc' := 10) rfl rfl rfl ?_
                        refine sf_R_iadd pm_M225 (pc' := 11) rfl rfl B13471 B13456 (by decide) (by decide) (fun z13472 e13473 B13474 => ?_)
                        refine pm_R_ret pm_M225 (r := some (.int z13472)) rfl (pm_ret_i _) ?_
                        show pm_R _ 226 95 [.ref 41, .int a0, .int a1, .int a2, .int a3, .int x5_11060, .long z11111, pm_no, .int x8_13268, .long z13337, pm_no, g11_13268] [.int z13472] _ _
                        refine pm_R_lo pm_M226 (pc' := 97) (ls' := [.ref 41, .int a0, .int a1, .int a2, .int a3, .int x5_11060, .long z11111, pm_no, .int x8_13268, .long z13337, pm_no, .int z13472]) (st' := []) rfl rfl rfl ?_
                        refine pm_R_lo pm_M226 (pc' := 98) rfl rfl rfl ?_
                        refine rf_R_get pm_M226 T_13268 (pc' := 101) (v := .ref 56) rfl rfl rfl rfl ?_
                        refine pm_R_lo pm_M226 (pc' := 103) rfl rfl rfl ?_
                        refine pm_R_lo pm_M226 (pc' := 105) rfl rfl rfl ?_
                        refine pm_R_op pm_M226 (pc' := 106) (st' := [.long 0, .long z13337, .int z13472, .ref 56]) rfl rfl rfl ?_
                        refine sf_R_lcmp pm_M226 (pc' := 107) (pm_q226_1 (Nat.le_of_ble_eq_true rfl)) rfl (fun z13475 e13476 => ?_)
                        refine pm_R_ifc pm_M226 (t := 120) (pc' := 110) (pm_q226_1 (Nat.le_of_ble_eq_true rfl)) rfl rfl (fun c13477 => ?_) (fun c13477 => ?_)
                        · have k13478 := sf_lneC e13476 c13477
                          refine pm_R_lo pm_M226 (pc' := 121) (pm_q226_1 (Nat.le_of_ble_eq_true rfl)) rfl rfl ?_
                          refine rf_R_get pm_M226 T_13268 (pc' := 124) (v := .ref 56) (pm_q226_1 (Nat.le_of_ble_eq_true rfl)) rfl rfl rfl ?_
                          refine pm_R_lo pm_M226 (pc' := 126) (pm_q226_1 (Nat.le_of_ble_eq_true rfl)) rfl rfl ?_
                          refine rf_R_lld pm_M226 T_13268 (pc' := 127) (pm_q226_1 (Nat.le_of_ble_eq_true rfl)) e13335 (by decide) (by decide) (sf_in B13474 (by decide) (by decide)) rfl (fun z13479 ez13480 => ?_)
                          refine pm_R_lo pm_M226 (pc' := 129) (pm_q226_1 (Nat.le_of_ble_eq_true rfl)) rfl rfl ?_
                          refine pm_R_lo pm_M226 (pc' := 131) (pm_q226_1 (Nat.le_of_ble_eq_true rfl)) rfl rfl ?_
                          refine pm_R_cs pm_M226 (pc' := 134) (ra := [.long z13337, .long z11111]) (rest := [.long z13479, .int z13472, .ref 56]) (ls' := [.long z11111, pm_no, .long z13337, pm_no]) (pm_q226_1 (Nat.le_of_ble_eq_true rfl)) rfl (Or.inl rfl) pm_M212 rfl rfl (Nat.le_of_ble_eq_true rfl) rfl rfl ?_
                          refine rf_u212 (d := d + 0)  (fun r13481 => ?_)
                          show pm_R _ 226 134 [.ref 41, .int a0, .int a1, .int a2, .int a3, .int x5_11060, .long z11111, pm_no, .int x8_13268, .long z13337, pm_no, .int z13472] [.long r13481, .long z13479, .int z13472, .ref 56] _ _
                          refine pm_R_cs pm_M226 (pc' := 137) (ra := [.long r13481, .long z13479]) (rest := [.int z13472, .ref 56]) (ls' := [.long z13479, pm_no, .long r13481, pm_no]) (pm_q226_1 (Nat.le_of_ble_eq_true rfl)) rfl (Or.inl rfl) pm_M213 rfl rfl (Nat.le_of_ble_eq_true rfl) rfl rfl ?_
                          refine rf_u213 (d := d + 1)  (fun r13489 => ?_)
                          show pm_R _ 226 137 [.ref 41, .int a0, .int a1, .int a2, .int a3, .int x5_11060, .long z11111, pm_no, .int x8_13268, .long z13337, pm_no, .int z13472] [.long r13489, .int z13472, .ref 56] _ _
                          refine rf_R_lst pm_M226 T_13268 (pc' := 138) (pm_q226_1 (Nat.le_of_ble_eq_true rfl)) e13335 (by decide) (by decide) (sf_in B13474 (by decide) (by decide)) ⟨_, rfl⟩ rfl (fun h13497 T13498 F13499 e13500 => ?_)
                          have F13501 := F_13268.trans F13499 (by decide)
                          refine sf_R_iinc pm_M226 (pc' := 141) (ls' := fun z => [.ref 41, .int a0, .int a1, .int a2, .int a3, .int x5_11060, .long z11111, pm_no, .int z, .long z13337, pm_no, .int z13472]) (pm_q226_1 (Nat.le_of_ble_eq_true rfl)) B13278 rfl (by decide) (by decide) (by decide) (fun _ => rfl) rfl (fun z13502 e13503 B13504 => ?_)
                          show pm_R _ 226 141 [.ref 41, .int a0, .int a1, .int a2, .int a3, .int x5_11060, .long z11111, pm_no, .int z13502, .long z13337, pm_no, .int z13472] [] _ _
                          refine pm_R_br pm_M226 (pc' := 33) (pm_q226_1 (Nat.le_of_ble_eq_true rfl)) rfl ?_
                          exact ih_13268 _ (sf_up hN_13268 e13503 B13278 (by decide) (by decide)) h13497 m_13268 w_13268 z13502 (.long z13337) (pm_no) (.int z13472) T13498 F13501 W_13268 (sf_weak B13504 (by decide) (by decide)) rfl rfl rfl
                        · have B13505 : sf_B 0 0 z13475 := sf_eqL (Classical.not_not.mp c13477) sf_k0
                          refine pm_R_lo pm_M226 (pc' := 111) (pm_q226_1 (Nat.le_of_ble_eq_true rfl)) rfl rfl ?_
                          refine rf_R_get pm_M226 T_13268 (pc' := 114) (v := .ref 56) (pm_q226_1 (Nat.le_of_ble_eq_true rfl)) rfl rfl rfl ?_
                          refine pm_R_lo pm_M226 (pc' := 116) (pm_q226_1 (Nat.le_of_ble_eq_true rfl)) rfl rfl ?_
                          refine rf_R_lld pm_M226 T_13268 (pc' := 117) (pm_q226_1 (Nat.le_of_ble_eq_true rfl)) e13335 (by decide) (by decide) (sf_in B13474 (by decide) (by decide)) rfl (fun z13506 ez13507 => ?_)
                          refine pm_R_br pm_M226 (pc' := 137) (pm_q226_1 (Nat.le_of_ble_eq_true rfl)) rfl ?_
                          refine rf_R_lst pm_M226 T_13268 (pc' := 138) (pm_q226_1 (Nat.le_of_ble_eq_true rfl)) e13335 (by decide) (by decide) (sf_in B13474 (by decide) (by decide)) ⟨_, rfl⟩ rfl (fun h13508 T13509 F13510 e13511 => ?_)
                          have F13512 := F_13268.trans F13510 (by decide)
                          refine sf_R_iinc pm_M226 (pc' := 141) (ls' := fun z => [.ref 41, .int a0, .int a1, .int a2, .int a3, .int x5_11060, .long z11111, pm_no, .int z, .long z13337, pm_no, .int z13472]) (pm_q226_1 (Nat.le_of_ble_eq_true rfl)) B13278 rfl (by decide) (by decide) (by decide) (fun _ => rfl) rfl (fun z13513 e13514 B13515 => ?_)
                          show pm_R _ 226 141 [.ref 41, .int a0, .int a1, .int a2, .int a3, .int x5_11060, .long z11111, pm_no, .int z13513, .long z13337, pm_no, .int z13472] [] _ _
                          refine pm_R_br pm_M226 (pc' := 33) (pm_q226_1 (Nat.le_of_ble_eq_true rfl)) rfl ?_
                          exact ih_13268 _ (sf_up hN_13268 e13514 B13278 (by decide) (by decide)) h13508 m_13268 w_13268 z13513 (.long z13337) (pm_no) (.int z13472) T13509 F13512 W_13268 (sf_weak B13515 (by decide) (by decide)) rfl rfl rfl
                    · have B13516 : sf_B 2 2 z13373 := sf_eqL (Classical.not_not.mp c13381) sf_k2
                      refine pm_R_lo pm_M227 (pc' := 23) rfl rfl rfl ?_
                      refine pm_R_lo pm_M227 (pc' := 24) rfl rfl rfl ?_
                      refine sf_R_iadd pm_M227 (pc' := 25) rfl rfl B11066 B13278 (by decide) (by decide) (fun z13517 e13518 B13519 => ?_)
                      refine pm_R_op pm_M227 (pc' := 27) (st' := [.int 50, .int z13517]) rfl rfl rfl ?_
                      refine sf_R_irem pm_M227 (pc' := 28) rfl rfl B13519 sf_k50 (by decide) (by decide) (fun z13520 e13521 B13522 => ?_)
                      refine pm_R_br pm_M227 (pc' := 52) rfl rfl ?_
                      refine pm_R_ret pm_M227 (r := some (.int z13520)) rfl (pm_ret_i _) ?_
                      show pm_R _ 226 92 [.ref 41, .int a0, .int a1, .int a2, .int a3, .int x5_11060, .long z11111, pm_no, .int x8_13268, .long z13337, pm_no, g11_13268] [.int z13520, .int a3, .int a1, .int z13354] _ _
                      refine pm_R_cs pm_M226 (pc' := 95) (ra := [.int z13520, .int a3, .int a1, .int z13354]) (rest := []) (ls' := [.int z13354, .int a1, .int a3, .int z13520]) rfl rfl (Or.inl rfl) pm_M225 rfl rfl (Nat.le_of_ble_eq_true rfl) rfl rfl ?_
                      refine pm_R_op pm_M225 (pc' := 2) (st' := [.int 50]) rfl rfl rfl ?_
                      refine pm_R_lo pm_M225 (pc' := 3) rfl rfl rfl ?_
                      refine pm_R_lo pm_M225 (pc' := 4) rfl rfl rfl ?_
                      refine pm_R_lo pm_M225 (pc' := 5) rfl rfl rfl ?_
                      refine pm_R_cs pm_M225 (pc' := 8) (ra := [.int a3, .int a1, .int z13354]) (rest := [.int 50]) (ls' := [.int z13354, .int a1, .int a3]) rfl rfl (Or.inl rfl) pm_M207 rfl rfl (Nat.le_of_ble_eq_true rfl) rfl rfl ?_
                      refine pm_R_op pm_M207 (pc' := 3) (st' := [.int 144]) rfl rfl rfl ?_
                      refine pm_R_lo pm_M207 (pc' := 4) rfl rfl rfl ?_
                      refine sf_R_imul pm_M207 (pc' := 5) rfl rfl sf_k144 B13357 (by decide) (by decide) (by decide) (fun z13523 e13524 B13525 => ?_)
                      refine pm_R_op pm_M207 (pc' := 7) (st' := [.int 12, .int z13523]) rfl rfl rfl ?_
                      refine pm_R_lo pm_M207 (pc' := 8) rfl rfl rfl ?_
                      refine sf_R_imul pm_M207 (pc' := 9) rfl rfl sf_k12 Ba1 (by decide) (by decide) (by decide) (fun z13526 e13527 B13528 => ?_)
                      refine sf_R_iadd pm_M207 (pc' := 10) rfl rfl B13525 B13528 (by decide) (by decide) (fun z13529 e13530 B13531 => ?_)
                      refine pm_R_lo pm_M207 (pc' := 11) rfl rfl rfl ?_
                      refine sf_R_iadd pm_M207 (pc' := 12) rfl rfl B13531 Ba3 (by decide) (by decide) (fun z13532 e13533 B13534 => ?_)
                      refine pm_R_ret pm_M207 (r := some (.int z13532)) rfl (pm_ret_i _) ?_
                      show pm_R _ 225 8 [.int z13354, .int a1, .int a3, .int z13520] [.int z13532, .int 50] _ _
                      refine sf_R_imul pm_M225 (pc' := 9) rfl rfl sf_k50 B13534 (by decide) (by decide) (by decide) (fun z13535 e13536 B13537 => ?_)
                      refine pm_R_lo pm_M225 (pc' := 10) rfl rfl rfl ?_
                      refine sf_R_iadd pm_M225 (pc' := 11) rfl rfl B13537 B13522 (by decide) (by decide) (fun z13538 e13539 B13540 => ?_)
                      refine pm_R_ret pm_M225 (r := some (.int z13538)) rfl (pm_ret_i _) ?_
                      show pm_R _ 226 95 [.ref 41, .int a0, .int a1, .int a2, .int a3, .int x5_11060, .long z11111, pm_no, .int x8_13268, .long z13337, pm_no, g11_13268] [.int z13538] _ _
                      refine pm_R_lo pm_M226 (pc' := 97) (ls' := [.ref 41, .int a0, .int a1, .int a2, .int a3, .int x5_11060, .long z11111, pm_no, .int x8_13268, .long z13337, pm_no, .int z13538]) (st' := []) rfl rfl rfl ?_
                      refine pm_R_lo pm_M226 (pc' := 98) rfl rfl rfl ?_
                      refine rf_R_get pm_M226 T_13268 (pc' := 101) (v := .ref 56) rfl rfl rfl rfl ?_
                      refine pm_R_lo pm_M226 (pc' := 103) rfl rfl rfl ?_
                      refine pm_R_lo pm_M226 (pc' := 105) rfl rfl rfl ?_
                      refine pm_R_op pm_M226 (pc' := 106) (st' := [.long 0, .long z13337, .int z13538, .ref 56]) rfl rfl rfl ?_
                      refine sf_R_lcmp pm_M226 (pc' := 107) (pm_q226_1 (Nat.le_of_ble_eq_true rfl)) rfl (fun z13541 e13542 => ?_)
                      refine pm_R_ifc pm_M226 (t := 120) (pc' := 110) (pm_q226_1 (Nat.le_of_ble_eq_true rfl)) rfl rfl (fun c13543 => ?_) (fun c13543 => ?_)
                      · have k13544 := sf_lneC e13542 c13543
                        refine pm_R_lo pm_M226 (pc' := 121) (pm_q226_1 (Nat.le_of_ble_eq_true rfl)) rfl rfl ?_
                        refine rf_R_get pm_M226 T_13268 (pc' := 124) (v := .ref 56) (pm_q226_1 (Nat.le_of_ble_eq_true rfl)) rfl rfl rfl ?_
                        refine pm_R_lo pm_M226 (pc' := 126) (pm_q226_1 (Nat.le_of_ble_eq_true rfl)) rfl rfl ?_
                        refine rf_R_lld pm_M226 T_13268 (pc' := 127) (pm_q226_1 (Nat.le_of_ble_eq_true rfl)) e13335 (by decide) (by decide) (sf_in B13540 (by decide) (by decide)) rfl (fun z13545 ez13546 => ?_)
                        refine pm_R_lo pm_M226 (pc' := 129) (pm_q226_1 (Nat.le_of_ble_eq_true rfl)) rfl rfl ?_
                        refine pm_R_lo pm_M226 (pc' := 131) (pm_q226_1 (Nat.le_of_ble_eq_true rfl)) rfl rfl ?_
                        refine pm_R_cs pm_M226 (pc' := 134) (ra := [.long z13337, .long z11111]) (rest := [.long z13545, .int z13538, .ref 56]) (ls' := [.long z11111, pm_no, .long z13337, pm_no]) (pm_q226_1 (Nat.le_of_ble_eq_true rfl)) rfl (Or.inl rfl) pm_M212 rfl rfl (Nat.le_of_ble_eq_true rfl) rfl rfl ?_
                        refine rf_u212 (d := d + 0)  (fun r13547 => ?_)
                        show pm_R _ 226 134 [.ref 41, .int a0, .int a1, .int a2, .int a3, .int x5_11060, .long z11111, pm_no, .int x8_13268, .long z13337, pm_no, .int z13538] [.long r13547, .long z13545, .int z13538, .ref 56] _ _
                        refine pm_R_cs pm_M226 (pc' := 137) (ra := [.long r13547, .long z13545]) (rest := [.int z13538, .ref 56]) (ls' := [.long z13545, pm_no, .long r13547, pm_no]) (pm_q226_1 (Nat.le_of_ble_eq_true rfl)) rfl (Or.inl rfl) pm_M213 rfl rfl (Nat.le_of_ble_eq_true rfl) rfl rfl ?_
                        refine rf_u213 (d := d + 1)  (fun r13555 => ?_)
                        show pm_R _ 226 137 [.ref 41, .int a0, .int a1, .int a2, .int a3, .int x5_11060, .long z11111, pm_no, .int x8_13268, .long z13337, pm_no, .int z13538] [.long r13555, .int z13538, .ref 56] _ _
                        refine rf_R_lst pm_M226 T_13268 (pc' := 138) (pm_q226_1 (Nat.le_of_ble_eq_true rfl)) e13335 (by decide) (by decide) (sf_in B13540 (by decide) (by decide)) ⟨_, rfl⟩ rfl (fun h13563 T13564 F13565 e13566 => ?_)
                        have F13567 := F_13268.trans F13565 (by decide)
                        refine sf_R_iinc pm_M226 (pc' := 141) (ls' := fun z => [.ref 41, .int a0, .int a1, .int a2, .int a3, .int x5_11060, .long z11111, pm_no, .int z, .long z13337, pm_no, .int z13538]) (pm_q226_1 (Nat.le_of_ble_eq_true rfl)) B13278 rfl (by decide) (by decide) (by decide) (fun _ => rfl) rfl (fun z13568 e13569 B13570 => ?_)
                        show pm_R _ 226 141 [.ref 41, .int a0, .int a1, .int a2, .int a3, .int x5_11060, .long z11111, pm_no, .int z13568, .long z13337, pm_no, .int z13538] [] _ _
                        refine pm_R_br pm_M226 (pc' := 33) (pm_q226_1 (Nat.le_of_ble_eq_true rfl)) rfl ?_
                        exact ih_13268 _ (sf_up hN_13268 e13569 B13278 (by decide) (by decide)) h13563 m_13268 w_13268 z13568 (.long z13337) (pm_no) (.int z13538) T13564 F13567 W_13268 (sf_weak B13570 (by decide) (by decide)) rfl rfl rfl
                      · have B13571 : sf_B 0 0 z13541 := sf_eqL (Classical.not_not.mp c13543) sf_k0
                        refine pm_R_lo pm_M226 (pc' := 111) (pm_q226_1 (Nat.le_of_ble_eq_true rfl)) rfl rfl ?_
                        refine rf_R_get pm_M226 T_13268 (pc' := 114) (v := .ref 56) (pm_q226_1 (Nat.le_of_ble_eq_true rfl)) rfl rfl rfl ?_
                        refine pm_R_lo pm_M226 (pc' := 116) (pm_q226_1 (Nat.le_of_ble_eq_true rfl)) rfl rfl ?_
                        refine rf_R_lld pm_M226 T_13268 (pc' := 117) (pm_q226_1 (Nat.le_of_ble_eq_true rfl)) e13335 (by decide) (by decide) (sf_in B13540 (by decide) (by decide)) rfl (fun z13572 ez13573 => ?_)
                        refine pm_R_br pm_M226 (pc' := 137) (pm_q226_1 (Nat.le_of_ble_eq_true rfl)) rfl ?_
                        refine rf_R_lst pm_M226 T_13268 (pc' := 138) (pm_q226_1 (Nat.le_of_ble_eq_true rfl)) e13335 (by decide) (by decide) (sf_in B13540 (by decide) (by decide)) ⟨_, rfl⟩ rfl (fun h13574 T13575 F13576 e13577 => ?_)
                        have F13578 := F_13268.trans F13576 (by decide)
                        refine sf_R_iinc pm_M226 (pc' := 141) (ls' := fun z => [.ref 41, .int a0, .int a1, .int a2, .int a3, .int x5_11060, .long z11111, pm_no, .int z, .long z13337, pm_no, .int z13538]) (pm_q226_1 (Nat.le_of_ble_eq_true rfl)) B13278 rfl (by decide) (by decide) (by decide) (fun _ => rfl) rfl (fun z13579 e13580 B13581 => ?_)
                        show pm_R _ 226 141 [.ref 41, .int a0, .int a1, .int a2, .int a3, .int x5_11060, .long z11111, pm_no, .int z13579, .long z13337, pm_no, .int z13538] [] _ _
                        refine pm_R_br pm_M226 (pc' := 33) (pm_q226_1 (Nat.le_of_ble_eq_true rfl)) rfl ?_
                        exact ih_13268 _ (sf_up hN_13268 e13580 B13278 (by decide) (by decide)) h13574 m_13268 w_13268 z13579 (.long z13337) (pm_no) (.int z13538) T13575 F13578 W_13268 (sf_weak B13581 (by decide) (by decide)) rfl rfl rfl
                  · have B13582 : sf_B 1 1 z13373 := sf_eqL (Classical.not_not.mp c13379) sf_k1
                    refine pm_R_lo pm_M227 (pc' := 14) rfl rfl rfl ?_
                    refine pm_R_br pm_M227 (pc' := 52) rfl rfl ?_
                    refine pm_R_ret pm_M227 (r := some (.int x8_13268)) rfl (pm_ret_i _) ?_
                    show pm_R _ 226 92 [.ref 41, .int a0, .int a1, .int a2, .int a3, .int x5_11060, .long z11111, pm_no, .int x8_13268, .long z13337, pm_no, g11_13268] [.int x8_13268, .int a3, .int a1, .int z13354] _ _
                    refine pm_R_cs pm_M226 (pc' := 95) (ra := [.int x8_13268, .int a3, .int a1, .int z13354]) (rest := []) (ls' := [.int z13354, .int a1, .int a3, .int x8_13268]) rfl rfl (Or.inl rfl) pm_M225 rfl rfl (Nat.le_of_ble_eq_true rfl) rfl rfl ?_
                    refine pm_R_op pm_M225 (pc' := 2) (st' := [.int 50]) rfl rfl rfl ?_
                    refine pm_R_lo pm_M225 (pc' := 3) rfl rfl rfl ?_
                    refine pm_R_lo pm_M225 (pc' := 4) rfl rfl rfl ?_
                    refine pm_R_lo pm_M225 (pc' := 5) rfl rfl rfl ?_
                    refine pm_R_cs pm_M225 (pc' := 8) (ra := [.int a3, .int a1, .int z13354]) (rest := [.int 50]) (ls' := [.int z13354, .int a1, .int a3]) rfl rfl (Or.inl rfl) pm_M207 rfl rfl (Nat.le_of_ble_eq_true rfl) rfl rfl ?_
                    refine pm_R_op pm_M207 (pc' := 3) (st' := [.int 144]) rfl rfl rfl ?_
                    refine pm_R_lo pm_M207 (pc' := 4) rfl rfl rfl ?_
                    refine sf_R_imul pm_M207 (pc' := 5) rfl rfl sf_k144 B13357 (by decide) (by decide) (by decide) (fun z13583 e13584 B13585 => ?_)
                    refine pm_R_op pm_M207 (pc' := 7) (st' := [.int 12, .int z13583]) rfl rfl rfl ?_
                    refine pm_R_lo pm_M207 (pc' := 8) rfl rfl rfl ?_
                    refine sf_R_imul pm_M207 (pc' := 9) rfl rfl sf_k12 Ba1 (by decide) (by decide) (by decide) (fun z13586 e13587 B13588 => ?_)
                    refine sf_R_iadd pm_M207 (pc' := 10) rfl rfl B13585 B13588 (by decide) (by decide) (fun z13589 e13590 B13591 => ?_)
                    refine pm_R_lo pm_M207 (pc' := 11) rfl rfl rfl ?_
                    refine sf_R_iadd pm_M207 (pc' := 12) rfl rfl B13591 Ba3 (by decide) (by decide) (fun z13592 e13593 B13594 => ?_)
                    refine pm_R_ret pm_M207 (r := some (.int z13592)) rfl (pm_ret_i _) ?_
                    show pm_R _ 225 8 [.int z13354, .int a1, .int a3, .int x8_13268] [.int z13592, .int 50] _ _
                    refine sf_R_imul pm_M225 (pc' := 9) rfl rfl sf_k50 B13594 (by decide) (by decide) (by decide) (fun z13595 e13596 B13597 => ?_)
                    refine pm_R_lo pm_M225 (pc' := 10) rfl rfl rfl ?_
                    refine sf_R_iadd pm_M225 (pc' := 11) rfl rfl B13597 B13278 (by decide) (by decide) (fun z13598 e13599 B13600 => ?_)
                    refine pm_R_ret pm_M225 (r := some (.int z13598)) rfl (pm_ret_i _) ?_
                    show pm_R _ 226 95 [.ref 41, .int a0, .int a1, .int a2, .int a3, .int x5_11060, .long z11111, pm_no, .int x8_13268, .long z13337, pm_no, g11_13268] [.int z13598] _ _
                    refine pm_R_lo pm_M226 (pc' := 97) (ls' := [.ref 41, .int a0, .int a1, .int a2, .int a3, .int x5_11060, .long z11111, pm_no, .int x8_13268, .long z13337, pm_no, .int z13598]) (st' := []) rfl rfl rfl ?_
                    refine pm_R_lo pm_M226 (pc' := 98) rfl rfl rfl ?_
                    refine rf_R_get pm_M226 T_13268 (pc' := 101) (v := .ref 56) rfl rfl rfl rfl ?_
                    refine pm_R_lo pm_M226 (pc' := 103) rfl rfl rfl ?_
                    refine pm_R_lo pm_M226 (pc' := 105) rfl rfl rfl ?_
                    refine pm_R_op pm_M226 (pc' := 106) (st' := [.long 0, .long z13337, .int z13598, .ref 56]) rfl rfl rfl ?_
                    refine sf_R_lcmp pm_M226 (pc' := 107) (pm_q226_1 (Nat.le_of_ble_eq_true rfl)) rfl (fun z13601 e13602 => ?_)
                    refine pm_R_ifc pm_M226 (t := 120) (pc' := 110) (pm_q226_1 (Nat.le_of_ble_eq_true rfl)) rfl rfl (fun c13603 => ?_) (fun c13603 => ?_)
                    · have k13604 := sf_lneC e13602 c13603
                      refine pm_R_lo pm_M226 (pc' := 121) (pm_q226_1 (Nat.le_of_ble_eq_true rfl)) rfl rfl ?_
                      refine rf_R_get pm_M226 T_13268 (pc' := 124) (v := .ref 56) (pm_q226_1 (Nat.le_of_ble_eq_true rfl)) rfl rfl rfl ?_
                      refine pm_R_lo pm_M226 (pc' := 126) (pm_q226_1 (Nat.le_of_ble_eq_true rfl)) rfl rfl ?_
                      refine rf_R_lld pm_M226 T_13268 (pc' := 127) (pm_q226_1 (Nat.le_of_ble_eq_true rfl)) e13335 (by decide) (by decide) (sf_in B13600 (by decide) (by decide)) rfl (fun z13605 ez13606 => ?_)
                      refine pm_R_lo pm_M226 (pc' := 129) (pm_q226_1 (Nat.le_of_ble_eq_true rfl)) rfl rfl ?_
                      refine pm_R_lo pm_M226 (pc' := 131) (pm_q226_1 (Nat.le_of_ble_eq_true rfl)) rfl rfl ?_
                      refine pm_R_cs pm_M226 (pc' := 134) (ra := [.long z13337, .long z11111]) (rest := [.long z13605, .int z13598, .ref 56]) (ls' := [.long z11111, pm_no, .long z13337, pm_no]) (pm_q226_1 (Nat.le_of_ble_eq_true rfl)) rfl (Or.inl rfl) pm_M212 rfl rfl (Nat.le_of_ble_eq_true rfl) rfl rfl ?_
                      refine rf_u212 (d := d + 0)  (fun r13607 => ?_)
                      show pm_R _ 226 134 [.ref 41, .int a0, .int a1, .int a2, .int a3, .int x5_11060, .long z11111, pm_no, .int x8_13268, .long z13337, pm_no, .int z13598] [.long r13607, .long z13605, .int z13598, .ref 56] _ _
                      refine pm_R_cs pm_M226 (pc' := 137) (ra := [.long r13607, .long z13605]) (rest := [.int z13598, .ref 56]) (ls' := [.long z13605, pm_no, .long r13607, pm_no]) (pm_q226_1 (Nat.le_of_ble_eq_true rfl)) rfl (Or.inl rfl) pm_M213 rfl rfl (Nat.le_of_ble_eq_true rfl) rfl rfl ?_
                      refine rf_u213 (d := d + 1)  (fun r13615 => ?_)
                      show pm_R _ 226 137 [.ref 41, .int a0, .int a1, .int a2, .int a3, .int x5_11060, .long z11111, pm_no, .int x8_13268, .long z13337, pm_no, .int z13598] [.long r13615, .int z13598, .ref 56] _ _
                      refine rf_R_lst pm_M226 T_13268 (pc' := 138) (pm_q226_1 (Nat.le_of_ble_eq_true rfl)) e13335 (by decide) (by decide) (sf_in B13600 (by decide) (by decide)) ⟨_, rfl⟩ rfl (fun h13623 T13624 F13625 e13626 => ?_)
                      have F13627 := F_13268.trans F13625 (by decide)
                      refine sf_R_iinc pm_M226 (pc' := 141) (ls' := fun z => [.ref 41, .int a0, .int a1, .int a2, .int a3, .int x5_11060, .long z11111, pm_no, .int z, .long z13337, pm_no, .int z13598]) (pm_q226_1 (Nat.le_of_ble_eq_true rfl)) B13278 rfl (by decide) (by decide) (by decide) (fun _ => rfl) rfl (fun z13628 e13629 B13630 => ?_)
                      show pm_R _ 226 141 [.ref 41, .int a0, .int a1, .int a2, .int a3, .int x5_11060, .long z11111, pm_no, .int z13628, .long z13337, pm_no, .int z13598] [] _ _
                      refine pm_R_br pm_M226 (pc' := 33) (pm_q226_1 (Nat.le_of_ble_eq_true rfl)) rfl ?_
                      exact ih_13268 _ (sf_up hN_13268 e13629 B13278 (by decide) (by decide)) h13623 m_13268 w_13268 z13628 (.long z13337) (pm_no) (.int z13598) T13624 F13627 W_13268 (sf_weak B13630 (by decide) (by decide)) rfl rfl rfl
                    · have B13631 : sf_B 0 0 z13601 := sf_eqL (Classical.not_not.mp c13603) sf_k0
                      refine pm_R_lo pm_M226 (pc' := 111) (pm_q226_1 (Nat.le_of_ble_eq_true rfl)) rfl rfl ?_
                      refine rf_R_get pm_M226 T_13268 (pc' := 114) (v := .ref 56) (pm_q226_1 (Nat.le_of_ble_eq_true rfl)) rfl rfl rfl ?_
                      refine pm_R_lo pm_M226 (pc' := 116) (pm_q226_1 (Nat.le_of_ble_eq_true rfl)) rfl rfl ?_
                      refine rf_R_lld pm_M226 T_13268 (pc' := 117) (pm_q226_1 (Nat.le_of_ble_eq_true rfl)) e13335 (by decide) (by decide) (sf_in B13600 (by decide) (by decide)) rfl (fun z13632 ez13633 => ?_)
                      refine pm_R_br pm_M226 (pc' := 137) (pm_q226_1 (Nat.le_of_ble_eq_true rfl)) rfl ?_
                      refine rf_R_lst pm_M226 T_13268 (pc' := 138) (pm_q226_1 (Nat.le_of_ble_eq_true rfl)) e13335 (by decide) (by decide) (sf_in B13600 (by decide) (by decide)) ⟨_, rfl⟩ rfl (fun h13634 T13635 F13636 e13637 => ?_)
                      have F13638 := F_13268.trans F13636 (by decide)
                      refine sf_R_iinc pm_M226 (pc' := 141) (ls' := fun z => [.ref 41, .int a0, .int a1, .int a2, .int a3, .int x5_11060, .long z11111, pm_no, .int z, .long z13337, pm_no, .int z13598]) (pm_q226_1 (Nat.le_of_ble_eq_true rfl)) B13278 rfl (by decide) (by decide) (by decide) (fun _ => rfl) rfl (fun z13639 e13640 B13641 => ?_)
                      show pm_R _ 226 141 [.ref 41, .int a0, .int a1, .int a2, .int a3, .int x5_11060, .long z11111, pm_no, .int z13639, .long z13337, pm_no, .int z13598] [] _ _
                      refine pm_R_br pm_M226 (pc' := 33) (pm_q226_1 (Nat.le_of_ble_eq_true rfl)) rfl ?_
                      exact ih_13268 _ (sf_up hN_13268 e13640 B13278 (by decide) (by decide)) h13634 m_13268 w_13268 z13639 (.long z13337) (pm_no) (.int z13598) T13635 F13638 W_13268 (sf_weak B13641 (by decide) (by decide)) rfl rfl rfl
                · have B13642 : sf_B 0 0 z13373 := sf_eqL (Classical.not_not.mp c13377) sf_k0
                  refine pm_R_lo pm_M227 (pc' := 5) rfl rfl rfl ?_
                  refine pm_R_br pm_M227 (pc' := 52) rfl rfl ?_
                  refine pm_R_ret pm_M227 (r := some (.int x5_11060)) rfl (pm_ret_i _) ?_
                  show pm_R _ 226 92 [.ref 41, .int a0, .int a1, .int a2, .int a3, .int x5_11060, .long z11111, pm_no, .int x8_13268, .long z13337, pm_no, g11_13268] [.int x5_11060, .int a3, .int a1, .int z13354] _ _
                  refine pm_R_cs pm_M226 (pc' := 95) (ra := [.int x5_11060, .int a3, .int a1, .int z13354]) (rest := []) (ls' := [.int z13354, .int a1, .int a3, .int x5_11060]) rfl rfl (Or.inl rfl) pm_M225 rfl rfl (Nat.le_of_ble_eq_true rfl) rfl rfl ?_
                  refine pm_R_op pm_M225 (pc' := 2) (st' := [.int 50]) rfl rfl rfl ?_
                  refine pm_R_lo pm_M225 (pc' := 3) rfl rfl rfl ?_
                  refine pm_R_lo pm_M225 (pc' := 4) rfl rfl rfl ?_
                  refine pm_R_lo pm_M225 (pc' := 5) rfl rfl rfl ?_
                  refine pm_R_cs pm_M225 (pc' := 8) (ra := [.int a3, .int a1, .int z13354]) (rest := [.int 50]) (ls' := [.int z13354, .int a1, .int a3]) rfl rfl (Or.inl rfl) pm_M207 rfl rfl (Nat.le_of_ble_eq_true rfl) rfl rfl ?_
                  refine pm_R_op pm_M207 (pc' := 3) (st' := [.int 144]) rfl rfl rfl ?_
                  refine pm_R_lo pm_M207 (pc' := 4) rfl rfl rfl ?_
                  refine sf_R_imul pm_M207 (pc' := 5) rfl rfl sf_k144 B13357 (by decide) (by decide) (by decide) (fun z13643 e13644 B13645 => ?_)
                  refine pm_R_op pm_M207 (pc' := 7) (st' := [.int 12, .int z13643]) rfl rfl rfl ?_
                  refine pm_R_lo pm_M207 (pc' := 8) rfl rfl rfl ?_
                  refine sf_R_imul pm_M207 (pc' := 9) rfl rfl sf_k12 Ba1 (by decide) (by decide) (by decide) (fun z13646 e13647 B13648 => ?_)
                  refine sf_R_iadd pm_M207 (pc' := 10) rfl rfl B13645 B13648 (by decide) (by decide) (fun z13649 e13650 B13651 => ?_)
                  refine pm_R_lo pm_M207 (pc' := 11) rfl rfl rfl ?_
                  refine sf_R_iadd pm_M207 (pc' := 12) rfl rfl B13651 Ba3 (by decide) (by decide) (fun z13652 e13653 B13654 => ?_)
                  refine pm_R_ret pm_M207 (r := some (.int z13652)) rfl (pm_ret_i _) ?_
                  show pm_R _ 225 8 [.int z13354, .int a1, .int a3, .int x5_11060] [.int z13652, .int 50] _ _
                  refine sf_R_imul pm_M225 (pc' := 9) rfl rfl sf_k50 B13654 (by decide) (by decide) (by decide) (fun z13655 e13656 B13657 => ?_)
                  refine pm_R_lo pm_M225 (pc' := 10) rfl rfl rfl ?_
                  refine sf_R_iadd pm_M225 (pc' := 11) rfl rfl B13657 B11066 (by decide) (by decide) (fun z13658 e13659 B13660 => ?_)
                  refine pm_R_ret pm_M225 (r := some (.int z13658)) rfl (pm_ret_i _) ?_
                  show pm_R _ 226 95 [.ref 41, .int a0, .int a1, .int a2, .int a3, .int x5_11060, .long z11111, pm_no, .int x8_13268, .long z13337, pm_no, g11_13268] [.int z13658] _ _
                  refine pm_R_lo pm_M226 (pc' := 97) (ls' := [.ref 41, .int a0, .int a1, .int a2, .int a3, .int x5_11060, .long z11111, pm_no, .int x8_13268, .long z13337, pm_no, .int z13658]) (st' := []) rfl rfl rfl ?_
                  refine pm_R_lo pm_M226 (pc' := 98) rfl rfl rfl ?_
                  refine rf_R_get pm_M226 T_13268 (pc' := 101) (v := .ref 56) rfl rfl rfl rfl ?_
                  refine pm_R_lo pm_M226 (pc' := 103) rfl rfl rfl ?_
                  refine pm_R_lo pm_M226 (pc' := 105) rfl rfl rfl ?_
                  refine pm_R_op pm_M226 (pc' := 106) (st' := [.long 0, .long z13337, .int z13658, .ref 56]) rfl rfl rfl ?_
                  refine sf_R_lcmp pm_M226 (pc' := 107) (pm_q226_1 (Nat.le_of_ble_eq_true rfl)) rfl (fun z13661 e13662 => ?_)
                  refine pm_R_ifc pm_M226 (t := 120) (pc' := 110) (pm_q226_1 (Nat.le_of_ble_eq_true rfl)) rfl rfl (fun c13663 => ?_) (fun c13663 => ?_)
                  · have k13664 := sf_lneC e13662 c13663
                    refine pm_R_lo pm_M226 (pc' := 121) (pm_q226_1 (Nat.le_of_ble_eq_true rfl)) rfl rfl ?_
                    refine rf_R_get pm_M226 T_13268 (pc' := 124) (v := .ref 56) (pm_q226_1 (Nat.le_of_ble_eq_true rfl)) rfl rfl rfl ?_
                    refine pm_R_lo pm_M226 (pc' := 126) (pm_q226_1 (Nat.le_of_ble_eq_true rfl)) rfl rfl ?_
                    refine rf_R_lld pm_M226 T_13268 (pc' := 127) (pm_q226_1 (Nat.le_of_ble_eq_true rfl)) e13335 (by decide) (by decide) (sf_in B13660 (by decide) (by decide)) rfl (fun z13665 ez13666 => ?_)
                    refine pm_R_lo pm_M226 (pc' := 129) (pm_q226_1 (Nat.le_of_ble_eq_true rfl)) rfl rfl ?_
                    refine pm_R_lo pm_M226 (pc' := 131) (pm_q226_1 (Nat.le_of_ble_eq_true rfl)) rfl rfl ?_
                    refine pm_R_cs pm_M226 (pc' := 134) (ra := [.long z13337, .long z11111]) (rest := [.long z13665, .int z13658, .ref 56]) (ls' := [.long z11111, pm_no, .long z13337, pm_no]) (pm_q226_1 (Nat.le_of_ble_eq_true rfl)) rfl (Or.inl rfl) pm_M212 rfl rfl (Nat.le_of_ble_eq_true rfl) rfl rfl ?_
                    refine rf_u212 (d := d + 0)  (fun r13667 => ?_)
                    show pm_R _ 226 134 [.ref 41, .int a0, .int a1, .int a2, .int a3, .int x5_11060, .long z11111, pm_no, .int x8_13268, .long z13337, pm_no, .int z13658] [.long r13667, .long z13665, .int z13658, .ref 56] _ _
                    refine pm_R_cs pm_M226 (pc' := 137) (ra := [.long r13667, .long z13665]) (rest := [.int z13658, .ref 56]) (ls' := [.long z13665, pm_no, .long r13667, pm_no]) (pm_q226_1 (Nat.le_of_ble_eq_true rfl)) rfl (Or.inl rfl) pm_M213 rfl rfl (Nat.le_of_ble_eq_true rfl) rfl rfl ?_
                    refine rf_u213 (d := d + 1)  (fun r13675 => ?_)
                    show pm_R _ 226 137 [.ref 41, .int a0, .int a1, .int a2, .int a3, .int x5_11060, .long z11111, pm_no, .int x8_13268, .long z13337, pm_no, .int z13658] [.long r13675, .int z13658, .ref 56] _ _
                    refine rf_R_lst pm_M226 T_13268 (pc' := 138) (pm_q226_1 (Nat.le_of_ble_eq_true rfl)) e13335 (by decide) (by decide) (sf_in B13660 (by decide) (by decide)) ⟨_, rfl⟩ rfl (fun h13683 T13684 F13685 e13686 => ?_)
                    have F13687 := F_13268.trans F13685 (by decide)
                    refine sf_R_iinc pm_M226 (pc' := 141) (ls' := fun z => [.ref 41, .int a0, .int a1, .int a2, .int a3, .int x5_11060, .long z11111, pm_no, .int z, .long z13337, pm_no, .int z13658]) (pm_q226_1 (Nat.le_of_ble_eq_true rfl)) B13278 rfl (by decide) (by decide) (by decide) (fun _ => rfl) rfl (fun z13688 e13689 B13690 => ?_)
                    show pm_R _ 226 141 [.ref 41, .int a0, .int a1, .int a2, .int a3, .int x5_11060, .long z11111, pm_no, .int z13688, .long z13337, pm_no, .int z13658] [] _ _
                    refine pm_R_br pm_M226 (pc' := 33) (pm_q226_1 (Nat.le_of_ble_eq_true rfl)) rfl ?_
                    exact ih_13268 _ (sf_up hN_13268 e13689 B13278 (by decide) (by decide)) h13683 m_13268 w_13268 z13688 (.long z13337) (pm_no) (.int z13658) T13684 F13687 W_13268 (sf_weak B13690 (by decide) (by decide)) rfl rfl rfl
                  · have B13691 : sf_B 0 0 z13661 := sf_eqL (Classical.not_not.mp c13663) sf_k0
                    refine pm_R_lo pm_M226 (pc' := 111) (pm_q226_1 (Nat.le_of_ble_eq_true rfl)) rfl rfl ?_
                    refine rf_R_get pm_M226 T_13268 (pc' := 114) (v := .ref 56) (pm_q226_1 (Nat.le_of_ble_eq_true rfl)) rfl rfl rfl ?_
                    refine pm_R_lo pm_M226 (pc' := 116) (pm_q226_1 (Nat.le_of_ble_eq_true rfl)) rfl rfl ?_
                    refine rf_R_lld pm_M226 T_13268 (pc' := 117) (pm_q226_1 (Nat.le_of_ble_eq_true rfl)) e13335 (by decide) (by decide) (sf_in B13660 (by decide) (by decide)) rfl (fun z13692 ez13693 => ?_)
                    refine pm_R_br pm_M226 (pc' := 137) (pm_q226_1 (Nat.le_of_ble_eq_true rfl)) rfl ?_
                    refine rf_R_lst pm_M226 T_13268 (pc' := 138) (pm_q226_1 (Nat.le_of_ble_eq_true rfl)) e13335 (by decide) (by decide) (sf_in B13660 (by decide) (by decide)) ⟨_, rfl⟩ rfl (fun h13694 T13695 F13696 e13697 => ?_)
                    have F13698 := F_13268.trans F13696 (by decide)
                    refine sf_R_iinc pm_M226 (pc' := 141) (ls' := fun z => [.ref 41, .int a0, .int a1, .int a2, .int a3, .int x5_11060, .long z11111, pm_no, .int z, .long z13337, pm_no, .int z13658]) (pm_q226_1 (Nat.le_of_ble_eq_true rfl)) B13278 rfl (by decide) (by decide) (by decide) (fun _ => rfl) rfl (fun z13699 e13700 B13701 => ?_)
                    show pm_R _ 226 141 [.ref 41, .int a0, .int a1, .int a2, .int a3, .int x5_11060, .long z11111, pm_no, .int z13699, .long z13337, pm_no, .int z13658] [] _ _
                    refine pm_R_br pm_M226 (pc' := 33) (pm_q226_1 (Nat.le_of_ble_eq_true rfl)) rfl ?_
                    exact ih_13268 _ (sf_up hN_13268 e13700 B13278 (by decide) (by decide)) h13694 m_13268 w_13268 z13699 (.long z13337) (pm_no) (.int z13658) T13695 F13698 W_13268 (sf_weak B13701 (by decide) (by decide)) rfl rfl rfl
        exact L_13268 _ h_11060 m_11060 w_11060 0 (g9_11060) (g10_11060) (g11_11060) T_11060 F_11060 (rf_W.refl _ _) (sf_weak sf_k0 (by decide) (by decide)) Cg10_11060 Cg11_11060 rfl
  exact L_11060 _ h m w 0 (pm_no) (pm_no) (pm_no) (pm_no) (pm_no) (pm_no) T (rf_G.refl [56] h) (rf_W.refl _ _) (sf_weak sf_k0 (by decide) (by decide)) rfl rfl rfl rfl rfl
