theorem sf_aux0 (v0 v1 v2 v3 : Int) (q0 : v0 = v1 + 0) (q1 : v2 = v3 + 1) (q2 : 0 ≤ v1) (q3 : v1 ≤ 49) (q4 : 0 ≤ v3) (q5 : v3 ≤ 49) (q6 : v1 ≤ v3) : v0 ≤ v2 := by omega
theorem sf_aux1 (v0 v1 v2 v3 : Int) (q0 : v0 = v1 + 1) (q1 : v2 = v3 + 1) (q2 : 0 ≤ v1) (q3 : v1 ≤ 49) (q4 : 0 ≤ v3) (q5 : v3 ≤ 49) (q6 : v1 ≤ v3) : v0 ≤ v2 := by omega
set_option maxRecDepth 100000 in
set_option maxHeartbeats 4000000 in
/-- SilentTableModel.manyOf -/
theorem rf_c222 {d : Nat} {h : pm_H} {Q : Option Value → pm_H → Prop} {a0 : Int64}   (K : ∀ (r : Int32), sf_B 0 50 r → Q (some (.int r)) h) : pm_R (d + 1) 222 0 [.long a0, pm_no, pm_no, pm_no] [] h Q := by
  refine pm_R_op pm_M222 (pc' := 1) (st' := [.int 0]) rfl rfl rfl ?_
  refine pm_R_lo pm_M222 (pc' := 2) (ls' := [.long a0, pm_no, .int 0, pm_no]) (st' := []) rfl rfl rfl ?_
  refine pm_R_op pm_M222 (pc' := 3) (st' := [.int 0]) rfl rfl rfl ?_
  refine pm_R_lo pm_M222 (pc' := 4) (ls' := [.long a0, pm_no, .int 0, .int 0]) (st' := []) rfl rfl rfl ?_
  have L_117 : ∀ (N : Nat) (x2_117 : Int32) (x3_117 : Int32), sf_B 0 50 x2_117 → sf_B 0 50 x3_117 → x2_117.toInt ≤ x3_117.toInt → (50 - x3_117.toInt).toNat = N → pm_R (d + 1) 222 4 [.long a0, pm_no, .int x2_117, .int x3_117] [] h Q := by
    intro N
    induction N using Nat.strongRecOn with
    | ind N ih_117 =>
      intro x2_117 x3_117 Bx2_117 Bx3_117 R0_117 hN_117
      refine pm_R_lo pm_M222 (pc' := 5) rfl rfl rfl ?_
      refine pm_R_op pm_M222 (pc' := 7) (st' := [.int 50, .int x3_117]) rfl rfl rfl ?_
      refine pm_R_icmp pm_M222 (t := 32) (pc' := 10) rfl rfl rfl (fun c118 => ?_) (fun c118 => ?_)
      · have B119 : sf_B 50 50 x3_117 := sf_leR c118 sf_k50 Bx3_117
        refine pm_R_lo pm_M222 (pc' := 33) rfl rfl rfl ?_
        exact pm_R_ret pm_M222 (r := some (.int x2_117)) rfl (pm_ret_i _) (K x2_117 Bx2_117)
      · have B120 : sf_B 0 49 x3_117 := sf_ltL (Int32.not_le.mp c118) Bx3_117 sf_k50
        have B121 : sf_B 0 49 x2_117 := sf_leT R0_117 Bx2_117 B120
        refine pm_R_lo pm_M222 (pc' := 11) rfl rfl rfl ?_
        refine pm_R_lo pm_M222 (pc' := 12) rfl rfl rfl ?_
        refine pm_R_lo pm_M222 (pc' := 13) rfl rfl rfl ?_
        refine pm_R_cs pm_M222 (pc' := 16) (ra := [.int x3_117, .long a0]) (rest := [.int x2_117]) (ls' := [.long a0, pm_no, .int x3_117]) rfl rfl (Or.inl rfl) pm_M206 rfl rfl (Nat.le_of_ble_eq_true rfl) rfl rfl ?_
        refine pm_R_lo pm_M206 (pc' := 1) rfl rfl rfl ?_
        refine pm_R_lo pm_M206 (pc' := 2) rfl rfl rfl ?_
        refine sf_R_lany pm_M206 (pc' := 3) (st := []) rfl rfl rfl (fun z122 => ?_)
        refine pm_R_op pm_M206 (pc' := 4) (st' := [.long 1, .long z122]) rfl rfl rfl ?_
        refine sf_R_lany pm_M206 (pc' := 5) (st := []) rfl rfl rfl (fun z123 => ?_)
        refine pm_R_op pm_M206 (pc' := 6) (st' := [.long 1, .long z123]) rfl rfl rfl ?_
        refine sf_R_lcmp pm_M206 (pc' := 7) rfl rfl (fun z124 e125 => ?_)
        refine pm_R_ifc pm_M206 (t := 14) (pc' := 10) rfl rfl rfl (fun c126 => ?_) (fun c126 => ?_)
        · have k127 := sf_lneC e125 c126
          refine pm_R_op pm_M206 (pc' := 15) (st' := [.int 0]) rfl rfl rfl ?_
          refine pm_R_ret pm_M206 (r := some (.int 0)) rfl rfl ?_
          show pm_R _ 222 16 [.long a0, pm_no, .int x2_117, .int x3_117] [.int 0, .int x2_117] _ _
          refine pm_R_br pm_M222 (pc' := 23) (st' := [.int x2_117]) rfl rfl ?_
          refine pm_R_op pm_M222 (pc' := 24) (st' := [.int 0, .int x2_117]) rfl rfl rfl ?_
          refine sf_R_iadd pm_M222 (pc' := 25) rfl rfl B121 sf_k0 (by decide) (by decide) (fun z128 e129 B130 => ?_)
          refine pm_R_lo pm_M222 (pc' := 26) (ls' := [.long a0, pm_no, .int z128, .int x3_117]) (st' := []) rfl rfl rfl ?_
          refine sf_R_iinc pm_M222 (pc' := 29) (ls' := fun z => [.long a0, pm_no, .int z128, .int z]) rfl B120 rfl (by decide) (by decide) (by decide) (fun _ => rfl) rfl (fun z131 e132 B133 => ?_)
          show pm_R _ 222 29 [.long a0, pm_no, .int z128, .int z131] [] _ _
          refine pm_R_br pm_M222 (pc' := 4) rfl rfl ?_
          exact ih_117 _ (sf_up hN_117 e132 B120 (by decide) (by decide)) z128 z131 (sf_weak B130 (by decide) (by decide)) (sf_weak B133 (by decide) (by decide)) (sf_aux0 _ _ _ _ e129 e132 B121.1 B121.2 B120.1 B120.2 R0_117) rfl
        · have B134 : sf_B 0 0 z124 := sf_eqL (Classical.not_not.mp c126) sf_k0
          refine pm_R_op pm_M206 (pc' := 11) (st' := [.int 1]) rfl rfl rfl ?_
          refine pm_R_br pm_M206 (pc' := 15) rfl rfl ?_
          refine pm_R_ret pm_M206 (r := some (.int 1)) rfl rfl ?_
          show pm_R _ 222 16 [.long a0, pm_no, .int x2_117, .int x3_117] [.int 1, .int x2_117] _ _
          refine pm_R_br pm_M222 (pc' := 19) (st' := [.int x2_117]) rfl rfl ?_
          refine pm_R_op pm_M222 (pc' := 20) (st' := [.int 1, .int x2_117]) rfl rfl rfl ?_
          refine pm_R_br pm_M222 (pc' := 24) rfl rfl ?_
          refine sf_R_iadd pm_M222 (pc' := 25) rfl rfl B121 sf_k1 (by decide) (by decide) (fun z135 e136 B137 => ?_)
          refine pm_R_lo pm_M222 (pc' := 26) (ls' := [.long a0, pm_no, .int z135, .int x3_117]) (st' := []) rfl rfl rfl ?_
          refine sf_R_iinc pm_M222 (pc' := 29) (ls' := fun z => [.long a0, pm_no, .int z135, .int z]) rfl B120 rfl (by decide) (by decide) (by decide) (fun _ => rfl) rfl (fun z138 e139 B140 => ?_)
          show pm_R _ 222 29 [.long a0, pm_no, .int z135, .int z138] [] _ _
          refine pm_R_br pm_M222 (pc' := 4) rfl rfl ?_
          exact ih_117 _ (sf_up hN_117 e139 B120 (by decide) (by decide)) z135 z138 (sf_weak B137 (by decide) (by decide)) (sf_weak B140 (by decide) (by decide)) (sf_aux1 _ _ _ _ e136 e139 B121.1 B121.2 B120.1 B120.2 R0_117) rfl
  exact L_117 _ 0 0 (sf_weak sf_k0 (by decide) (by decide)) (sf_weak sf_k0 (by decide) (by decide)) (by decide) rfl

set_option maxRecDepth 100000 in
set_option maxHeartbeats 4000000 in
/-- SilentTableModel.turned -/
theorem rf_c219 {d : Nat} {h : pm_H} {Q : Option Value → pm_H → Prop} {a0 : Int64}   (K : ∀ (r : Int64), Q (some (.long r)) h) : pm_R (d + 1) 219 0 [.long a0, pm_no, pm_no, pm_no, pm_no] [] h Q := by
  refine pm_R_op pm_M219 (pc' := 1) (st' := [.long 0]) rfl rfl rfl ?_
  refine pm_R_lo pm_M219 (pc' := 2) (ls' := [.long a0, pm_no, .long 0, pm_no, pm_no]) (st' := []) rfl rfl rfl ?_
  refine pm_R_op pm_M219 (pc' := 3) (st' := [.int 0]) rfl rfl rfl ?_
  refine pm_R_lo pm_M219 (pc' := 5) (ls' := [.long a0, pm_no, .long 0, pm_no, .int 0]) (st' := []) rfl rfl rfl ?_
  have L_115 : ∀ (N : Nat) (x4_115 : Int32) (y2_115 : Int64), sf_B 0 50 x4_115 → (50 - x4_115.toInt).toNat = N → pm_R (d + 1) 219 5 [.long a0, pm_no, .long y2_115, pm_no, .int x4_115] [] h Q := by
    intro N
    induction N using Nat.strongRecOn with
    | ind N ih_115 =>
      intro x4_115 y2_115 Bx4_115 hN_115
      refine pm_R_lo pm_M219 (pc' := 7) rfl rfl rfl ?_
      refine pm_R_op pm_M219 (pc' := 9) (st' := [.int 50, .int x4_115]) rfl rfl rfl ?_
      refine pm_R_icmp pm_M219 (t := 41) (pc' := 12) rfl rfl rfl (fun c116 => ?_) (fun c116 => ?_)
      · have B117 : sf_B 50 50 x4_115 := sf_leR c116 sf_k50 Bx4_115
        refine pm_R_lo pm_M219 (pc' := 42) rfl rfl rfl ?_
        exact pm_R_ret pm_M219 (r := some (.long y2_115)) rfl rfl (K y2_115)
      · have B118 : sf_B 0 49 x4_115 := sf_ltL (Int32.not_le.mp c116) Bx4_115 sf_k50
        refine pm_R_lo pm_M219 (pc' := 13) rfl rfl rfl ?_
        refine pm_R_lo pm_M219 (pc' := 14) rfl rfl rfl ?_
        refine pm_R_lo pm_M219 (pc' := 16) rfl rfl rfl ?_
        refine pm_R_cs pm_M219 (pc' := 19) (ra := [.int x4_115, .long a0]) (rest := [.long y2_115]) (ls' := [.long a0, pm_no, .int x4_115]) rfl rfl (Or.inl rfl) pm_M206 rfl rfl (Nat.le_of_ble_eq_true rfl) rfl rfl ?_
        refine pm_R_lo pm_M206 (pc' := 1) rfl rfl rfl ?_
        refine pm_R_lo pm_M206 (pc' := 2) rfl rfl rfl ?_
        refine sf_R_lany pm_M206 (pc' := 3) (st := []) rfl rfl rfl (fun z119 => ?_)
        refine pm_R_op pm_M206 (pc' := 4) (st' := [.long 1, .long z119]) rfl rfl rfl ?_
        refine sf_R_lany pm_M206 (pc' := 5) (st := []) rfl rfl rfl (fun z120 => ?_)
        refine pm_R_op pm_M206 (pc' := 6) (st' := [.long 1, .long z120]) rfl rfl rfl ?_
        refine sf_R_lcmp pm_M206 (pc' := 7) rfl rfl (fun z121 e122 => ?_)
        refine pm_R_ifc pm_M206 (t := 14) (pc' := 10) rfl rfl rfl (fun c123 => ?_) (fun c123 => ?_)
        · have k124 := sf_lneC e122 c123
          refine pm_R_op pm_M206 (pc' := 15) (st' := [.int 0]) rfl rfl rfl ?_
          refine pm_R_ret pm_M206 (r := some (.int 0)) rfl rfl ?_
          show pm_R _ 219 19 [.long a0, pm_no, .long y2_115, pm_no, .int x4_115] [.int 0, .long y2_115] _ _
          refine pm_R_br pm_M219 (pc' := 32) (st' := [.long y2_115]) rfl rfl ?_
          refine pm_R_op pm_M219 (pc' := 33) (st' := [.long 0, .long y2_115]) rfl rfl rfl ?_
          refine sf_R_lany pm_M219 (pc' := 34) (st := []) rfl rfl rfl (fun z125 => ?_)
          refine pm_R_lo pm_M219 (pc' := 35) (ls' := [.long a0, pm_no, .long z125, pm_no, .int x4_115]) (st' := []) rfl rfl rfl ?_
          refine sf_R_iinc pm_M219 (pc' := 38) (ls' := fun z => [.long a0, pm_no, .long z125, pm_no, .int z]) rfl B118 rfl (by decide) (by decide) (by decide) (fun _ => rfl) rfl (fun z126 e127 B128 => ?_)
          show pm_R _ 219 38 [.long a0, pm_no, .long z125, pm_no, .int z126] [] _ _
          refine pm_R_br pm_M219 (pc' := 5) rfl rfl ?_
          exact ih_115 _ (sf_up hN_115 e127 B118 (by decide) (by decide)) z126 z125 (sf_weak B128 (by decide) (by decide)) rfl
        · have B129 : sf_B 0 0 z121 := sf_eqL (Classical.not_not.mp c123) sf_k0
          refine pm_R_op pm_M206 (pc' := 11) (st' := [.int 1]) rfl rfl rfl ?_
          refine pm_R_br pm_M206 (pc' := 15) rfl rfl ?_
          refine pm_R_ret pm_M206 (r := some (.int 1)) rfl rfl ?_
          show pm_R _ 219 19 [.long a0, pm_no, .long y2_115, pm_no, .int x4_115] [.int 1, .long y2_115] _ _
          refine pm_R_br pm_M219 (pc' := 22) (st' := [.long y2_115]) rfl rfl ?_
          refine pm_R_op pm_M219 (pc' := 23) (st' := [.long 1, .long y2_115]) rfl rfl rfl ?_
          refine pm_R_op pm_M219 (pc' := 25) (st' := [.int 49, .long 1, .long y2_115]) rfl rfl rfl ?_
          refine pm_R_lo pm_M219 (pc' := 27) rfl rfl rfl ?_
          refine sf_R_isub pm_M219 (pc' := 28) rfl rfl sf_k49 B118 (by decide) (by decide) (fun z130 e131 B132 => ?_)
          refine sf_R_lany pm_M219 (pc' := 29) (st := [.long y2_115]) rfl rfl rfl (fun z133 => ?_)
          refine pm_R_br pm_M219 (pc' := 33) rfl rfl ?_
          refine sf_R_lany pm_M219 (pc' := 34) (st := []) rfl rfl rfl (fun z134 => ?_)
          refine pm_R_lo pm_M219 (pc' := 35) (ls' := [.long a0, pm_no, .long z134, pm_no, .int x4_115]) (st' := []) rfl rfl rfl ?_
          refine sf_R_iinc pm_M219 (pc' := 38) (ls' := fun z => [.long a0, pm_no, .long z134, pm_no, .int z]) rfl B118 rfl (by decide) (by decide) (by decide) (fun _ => rfl) rfl (fun z135 e136 B137 => ?_)
          show pm_R _ 219 38 [.long a0, pm_no, .long z134, pm_no, .int z135] [] _ _
          refine pm_R_br pm_M219 (pc' := 5) rfl rfl ?_
          exact ih_115 _ (sf_up hN_115 e136 B118 (by decide) (by decide)) z135 z134 (sf_weak B137 (by decide) (by decide)) rfl
  exact L_115 _ 0 0 (sf_weak sf_k0 (by decide) (by decide)) rfl

set_option maxRecDepth 100000 in
set_option maxHeartbeats 4000000 in
/-- SilentTableModel.made -/
theorem rf_c218 {d : Nat} {h : pm_H} {Q : Option Value → pm_H → Prop} {a0 : Int32} {a1 : Int64} {a2 : Int64}   (K : ∀ (r : Int64), Q (some (.long r)) h) : pm_R (d + 2) 218 0 [.int a0, .long a1, pm_no, .long a2, pm_no, pm_no, pm_no, pm_no] [] h Q := by
  refine pm_R_lo pm_M218 (pc' := 1) rfl rfl rfl ?_
  refine pm_R_op pm_M218 (pc' := 2) (st' := [.long 0, .long a1]) rfl rfl rfl ?_
  refine sf_R_lcmp pm_M218 (pc' := 3) rfl rfl (fun z1 e2 => ?_)
  refine pm_R_ifc pm_M218 (t := 12) (pc' := 6) rfl rfl rfl (fun c3 => ?_) (fun c3 => ?_)
  · have B4 : sf_B 0 0 z1 := sf_eqL c3 sf_k0
    refine pm_R_op pm_M218 (pc' := 13) (st' := [.long 0]) rfl rfl rfl ?_
    exact pm_R_ret pm_M218 (r := some (.long 0)) rfl rfl (K 0)
  · have k5 := sf_lneC e2 c3
    refine pm_R_lo pm_M218 (pc' := 7) rfl rfl rfl ?_
    refine pm_R_op pm_M218 (pc' := 8) (st' := [.long 0, .long a2]) rfl rfl rfl ?_
    refine sf_R_lcmp pm_M218 (pc' := 9) rfl rfl (fun z6 e7 => ?_)
    refine pm_R_ifc pm_M218 (t := 14) (pc' := 12) rfl rfl rfl (fun c8 => ?_) (fun c8 => ?_)
    · have k9 := sf_lneC e7 c8
      refine pm_R_lo pm_M218 (pc' := 15) rfl rfl rfl ?_
      refine pm_R_ifc pm_M218 (t := 23) (pc' := 18) rfl rfl rfl (fun c10 => ?_) (fun c10 => ?_)
      · have B11 : sf_B 0 0 a0 := sf_eqL c10 sf_k0
        refine pm_R_lo pm_M218 (pc' := 24) rfl rfl rfl ?_
        refine pm_R_ifc pm_M218 (t := 31) (pc' := 27) rfl rfl rfl (fun c12 => absurd (sf_pt2 B11 sf_k0) c12) (fun c12 => ?_)
        refine pm_R_lo pm_M218 (pc' := 28) rfl rfl rfl ?_
        refine pm_R_br pm_M218 (pc' := 32) rfl rfl ?_
        exact pm_R_ret pm_M218 (r := some (.long a1)) rfl rfl (K a1)
      · skip
        refine pm_R_lo pm_M218 (pc' := 19) rfl rfl rfl ?_
        refine pm_R_op pm_M218 (pc' := 20) (st' := [.int 1, .int a0]) rfl rfl rfl ?_
        refine pm_R_icmp pm_M218 (t := 33) (pc' := 23) rfl rfl rfl (fun c13 => ?_) (fun c13 => ?_)
        · skip
          refine pm_R_lo pm_M218 (pc' := 34) rfl rfl rfl ?_
          refine pm_R_op pm_M218 (pc' := 35) (st' := [.int 4, .int a0]) rfl rfl rfl ?_
          refine pm_R_icmp pm_M218 (t := 43) (pc' := 38) rfl rfl rfl (fun c14 => ?_) (fun c14 => ?_)
          · skip
            refine pm_R_op pm_M218 (pc' := 44) (st' := [.long 0]) rfl rfl rfl ?_
            refine pm_R_lo pm_M218 (pc' := 46) (ls' := [.int a0, .long a1, pm_no, .long a2, pm_no, .long 0, pm_no, pm_no]) (st' := []) rfl rfl rfl ?_
            refine pm_R_op pm_M218 (pc' := 47) (st' := [.int 0]) rfl rfl rfl ?_
            refine pm_R_lo pm_M218 (pc' := 49) (ls' := [.int a0, .long a1, pm_no, .long a2, pm_no, .long 0, pm_no, .int 0]) (st' := []) rfl rfl rfl ?_
            have L_278 : ∀ (N : Nat) (x7_278 : Int32) (y5_278 : Int64), sf_B 0 50 x7_278 → (50 - x7_278.toInt).toNat = N → pm_R (d + 2) 218 49 [.int a0, .long a1, pm_no, .long a2, pm_no, .long y5_278, pm_no, .int x7_278] [] h Q := by
              intro N
              induction N using Nat.strongRecOn with
              | ind N ih_278 =>
                intro x7_278 y5_278 Bx7_278 hN_278
                refine pm_R_lo pm_M218 (pc' := 51) rfl rfl rfl ?_
                refine pm_R_op pm_M218 (pc' := 53) (st' := [.int 50, .int x7_278]) rfl rfl rfl ?_
                refine pm_R_icmp pm_M218 (t := 104) (pc' := 56) rfl rfl rfl (fun c279 => ?_) (fun c279 => ?_)
                · have B280 : sf_B 50 50 x7_278 := sf_leR c279 sf_k50 Bx7_278
                  refine pm_R_lo pm_M218 (pc' := 106) rfl rfl rfl ?_
                  exact pm_R_ret pm_M218 (r := some (.long y5_278)) rfl rfl (K y5_278)
                · have B281 : sf_B 0 49 x7_278 := sf_ltL (Int32.not_le.mp c279) Bx7_278 sf_k50
                  refine pm_R_lo pm_M218 (pc' := 58) rfl rfl rfl ?_
                  refine pm_R_lo pm_M218 (pc' := 59) rfl rfl rfl ?_
                  refine pm_R_lo pm_M218 (pc' := 61) rfl rfl rfl ?_
                  refine pm_R_cs pm_M218 (pc' := 64) (ra := [.int x7_278, .long a2]) (rest := [.long y5_278]) (ls' := [.long a2, pm_no, .int x7_278]) rfl rfl (Or.inl rfl) pm_M206 rfl rfl (Nat.le_of_ble_eq_true rfl) rfl rfl ?_
                  refine pm_R_lo pm_M206 (pc' := 1) rfl rfl rfl ?_
                  refine pm_R_lo pm_M206 (pc' := 2) rfl rfl rfl ?_
                  refine sf_R_lany pm_M206 (pc' := 3) (st := []) rfl rfl rfl (fun z282 => ?_)
                  refine pm_R_op pm_M206 (pc' := 4) (st' := [.long 1, .long z282]) rfl rfl rfl ?_
                  refine sf_R_lany pm_M206 (pc' := 5) (st := []) rfl rfl rfl (fun z283 => ?_)
                  refine pm_R_op pm_M206 (pc' := 6) (st' := [.long 1, .long z283]) rfl rfl rfl ?_
                  refine sf_R_lcmp pm_M206 (pc' := 7) rfl rfl (fun z284 e285 => ?_)
                  refine pm_R_ifc pm_M206 (t := 14) (pc' := 10) rfl rfl rfl (fun c286 => ?_) (fun c286 => ?_)
                  · have k287 := sf_lneC e285 c286
                    refine pm_R_op pm_M206 (pc' := 15) (st' := [.int 0]) rfl rfl rfl ?_
                    refine pm_R_ret pm_M206 (r := some (.int 0)) rfl rfl ?_
                    show pm_R _ 218 64 [.int a0, .long a1, pm_no, .long a2, pm_no, .long y5_278, pm_no, .int x7_278] [.int 0, .long y5_278] _ _
                    refine pm_R_br pm_M218 (pc' := 94) (st' := [.long y5_278]) rfl rfl ?_
                    refine pm_R_op pm_M218 (pc' := 95) (st' := [.long 0, .long y5_278]) rfl rfl rfl ?_
                    refine sf_R_lany pm_M218 (pc' := 96) (st := []) rfl rfl rfl (fun z288 => ?_)
                    refine pm_R_lo pm_M218 (pc' := 98) (ls' := [.int a0, .long a1, pm_no, .long a2, pm_no, .long z288, pm_no, .int x7_278]) (st' := []) rfl rfl rfl ?_
                    refine sf_R_iinc pm_M218 (pc' := 101) (ls' := fun z => [.int a0, .long a1, pm_no, .long a2, pm_no, .long z288, pm_no, .int z]) rfl B281 rfl (by decide) (by decide) (by decide) (fun _ => rfl) rfl (fun z289 e290 B291 => ?_)
                    show pm_R _ 218 101 [.int a0, .long a1, pm_no, .long a2, pm_no, .long z288, pm_no, .int z289] [] _ _
                    refine pm_R_br pm_M218 (pc' := 49) rfl rfl ?_
                    exact ih_278 _ (sf_up hN_278 e290 B281 (by decide) (by decide)) z289 z288 (sf_weak B291 (by decide) (by decide)) rfl
                  · have B292 : sf_B 0 0 z284 := sf_eqL (Classical.not_not.mp c286) sf_k0
                    refine pm_R_op pm_M206 (pc' := 11) (st' := [.int 1]) rfl rfl rfl ?_
                    refine pm_R_br pm_M206 (pc' := 15) rfl rfl ?_
                    refine pm_R_ret pm_M206 (r := some (.int 1)) rfl rfl ?_
                    show pm_R _ 218 64 [.int a0, .long a1, pm_no, .long a2, pm_no, .long y5_278, pm_no, .int x7_278] [.int 1, .long y5_278] _ _
                    refine pm_R_br pm_M218 (pc' := 67) (st' := [.long y5_278]) rfl rfl ?_
                    refine pm_R_lo pm_M218 (pc' := 68) rfl rfl rfl ?_
                    refine pm_R_lo pm_M218 (pc' := 69) rfl rfl rfl ?_
                    refine pm_R_op pm_M218 (pc' := 70) (st' := [.int 2, .int a0, .long a1, .long y5_278]) rfl rfl rfl ?_
                    refine pm_R_icmp pm_M218 (t := 78) (pc' := 73) rfl rfl rfl (fun c293 => ?_) (fun c293 => ?_)
                    · have B294 : sf_B 2 2 a0 := sf_eqL c293 sf_k2
                      refine pm_R_lo pm_M218 (pc' := 80) rfl rfl rfl ?_
                      refine pm_R_br pm_M218 (pc' := 88) rfl rfl ?_
                      refine pm_R_cs pm_M218 (pc' := 91) (ra := [.int x7_278, .long a1]) (rest := [.long y5_278]) (ls' := [.long a1, pm_no, .int x7_278]) rfl rfl (Or.inl rfl) pm_M220 rfl rfl (Nat.le_of_ble_eq_true rfl) rfl rfl ?_
                      refine pm_R_lo pm_M220 (pc' := 1) rfl rfl rfl ?_
                      refine pm_R_lo pm_M220 (pc' := 2) rfl rfl rfl ?_
                      refine sf_R_lany pm_M220 (pc' := 3) (st := []) rfl rfl rfl (fun z295 => ?_)
                      refine pm_R_lo pm_M220 (pc' := 4) rfl rfl rfl ?_
                      refine pm_R_op pm_M220 (pc' := 6) (st' := [.int 50, .long a1, .long z295]) rfl rfl rfl ?_
                      refine pm_R_lo pm_M220 (pc' := 7) rfl rfl rfl ?_
                      refine sf_R_isub pm_M220 (pc' := 8) rfl rfl sf_k50 B281 (by decide) (by decide) (fun z296 e297 B298 => ?_)
                      refine sf_R_lany pm_M220 (pc' := 9) (st := [.long z295]) rfl rfl rfl (fun z299 => ?_)
                      refine sf_R_lany pm_M220 (pc' := 10) (st := []) rfl rfl rfl (fun z300 => ?_)
                      refine pm_R_ldc2 pm_M220 (pc' := 13) rfl rfl rfl ?_
                      refine sf_R_lany pm_M220 (pc' := 14) (st := []) rfl rfl rfl (fun z301 => ?_)
                      refine pm_R_ret pm_M220 (r := some (.long z301)) rfl rfl ?_
                      show pm_R _ 218 91 [.int a0, .long a1, pm_no, .long a2, pm_no, .long y5_278, pm_no, .int x7_278] [.long z301, .long y5_278] _ _
                      refine pm_R_br pm_M218 (pc' := 95) rfl rfl ?_
                      refine sf_R_lany pm_M218 (pc' := 96) (st := []) rfl rfl rfl (fun z302 => ?_)
                      refine pm_R_lo pm_M218 (pc' := 98) (ls' := [.int a0, .long a1, pm_no, .long a2, pm_no, .long z302, pm_no, .int x7_278]) (st' := []) rfl rfl rfl ?_
                      refine sf_R_iinc pm_M218 (pc' := 101) (ls' := fun z => [.int a0, .long a1, pm_no, .long a2, pm_no, .long z302, pm_no, .int z]) rfl B281 rfl (by decide) (by decide) (by decide) (fun _ => rfl) rfl (fun z303 e304 B305 => ?_)
                      show pm_R _ 218 101 [.int a0, .long a1, pm_no, .long a2, pm_no, .long z302, pm_no, .int z303] [] _ _
                      refine pm_R_br pm_M218 (pc' := 49) rfl rfl ?_
                      exact ih_278 _ (sf_up hN_278 e304 B281 (by decide) (by decide)) z303 z302 (sf_weak B305 (by decide) (by decide)) rfl
                    · skip
                      refine pm_R_lo pm_M218 (pc' := 75) rfl rfl rfl ?_
                      refine pm_R_ifc pm_M218 (t := 83) (pc' := 78) rfl rfl rfl (fun c306 => ?_) (fun c306 => ?_)
                      · have B307 : sf_B 1 49 x7_278 := sf_neL0 c306 sf_k0 B281
                        refine pm_R_op pm_M218 (pc' := 85) (st' := [.int 50, .long a1, .long y5_278]) rfl rfl rfl ?_
                        refine pm_R_lo pm_M218 (pc' := 87) rfl rfl rfl ?_
                        refine sf_R_isub pm_M218 (pc' := 88) rfl rfl sf_k50 B307 (by decide) (by decide) (fun z308 e309 B310 => ?_)
                        refine pm_R_cs pm_M218 (pc' := 91) (ra := [.int z308, .long a1]) (rest := [.long y5_278]) (ls' := [.long a1, pm_no, .int z308]) rfl rfl (Or.inl rfl) pm_M220 rfl rfl (Nat.le_of_ble_eq_true rfl) rfl rfl ?_
                        refine pm_R_lo pm_M220 (pc' := 1) rfl rfl rfl ?_
                        refine pm_R_lo pm_M220 (pc' := 2) rfl rfl rfl ?_
                        refine sf_R_lany pm_M220 (pc' := 3) (st := []) rfl rfl rfl (fun z311 => ?_)
                        refine pm_R_lo pm_M220 (pc' := 4) rfl rfl rfl ?_
                        refine pm_R_op pm_M220 (pc' := 6) (st' := [.int 50, .long a1, .long z311]) rfl rfl rfl ?_
                        refine pm_R_lo pm_M220 (pc' := 7) rfl rfl rfl ?_
                        refine sf_R_isub pm_M220 (pc' := 8) rfl rfl sf_k50 B310 (by decide) (by decide) (fun z312 e313 B314 => ?_)
                        refine sf_R_lany pm_M220 (pc' := 9) (st := [.long z311]) rfl rfl rfl (fun z315 => ?_)
                        refine sf_R_lany pm_M220 (pc' := 10) (st := []) rfl rfl rfl (fun z316 => ?_)
                        refine pm_R_ldc2 pm_M220 (pc' := 13) rfl rfl rfl ?_
                        refine sf_R_lany pm_M220 (pc' := 14) (st := []) rfl rfl rfl (fun z317 => ?_)
                        refine pm_R_ret pm_M220 (r := some (.long z317)) rfl rfl ?_
                        show pm_R _ 218 91 [.int a0, .long a1, pm_no, .long a2, pm_no, .long y5_278, pm_no, .int x7_278] [.long z317, .long y5_278] _ _
                        refine pm_R_br pm_M218 (pc' := 95) rfl rfl ?_
                        refine sf_R_lany pm_M218 (pc' := 96) (st := []) rfl rfl rfl (fun z318 => ?_)
                        refine pm_R_lo pm_M218 (pc' := 98) (ls' := [.int a0, .long a1, pm_no, .long a2, pm_no, .long z318, pm_no, .int x7_278]) (st' := []) rfl rfl rfl ?_
                        refine sf_R_iinc pm_M218 (pc' := 101) (ls' := fun z => [.int a0, .long a1, pm_no, .long a2, pm_no, .long z318, pm_no, .int z]) rfl B307 rfl (by decide) (by decide) (by decide) (fun _ => rfl) rfl (fun z319 e320 B321 => ?_)
                        show pm_R _ 218 101 [.int a0, .long a1, pm_no, .long a2, pm_no, .long z318, pm_no, .int z319] [] _ _
                        refine pm_R_br pm_M218 (pc' := 49) rfl rfl ?_
                        exact ih_278 _ (sf_up hN_278 e320 B307 (by decide) (by decide)) z319 z318 (sf_weak B321 (by decide) (by decide)) rfl
                      · have B322 : sf_B 0 0 x7_278 := sf_eqL (Classical.not_not.mp c306) sf_k0
                        refine pm_R_lo pm_M218 (pc' := 80) rfl rfl rfl ?_
                        refine pm_R_br pm_M218 (pc' := 88) rfl rfl ?_
                        refine pm_R_cs pm_M218 (pc' := 91) (ra := [.int x7_278, .long a1]) (rest := [.long y5_278]) (ls' := [.long a1, pm_no, .int x7_278]) rfl rfl (Or.inl rfl) pm_M220 rfl rfl (Nat.le_of_ble_eq_true rfl) rfl rfl ?_
                        refine pm_R_lo pm_M220 (pc' := 1) rfl rfl rfl ?_
                        refine pm_R_lo pm_M220 (pc' := 2) rfl rfl rfl ?_
                        refine sf_R_lany pm_M220 (pc' := 3) (st := []) rfl rfl rfl (fun z323 => ?_)
                        refine pm_R_lo pm_M220 (pc' := 4) rfl rfl rfl ?_
                        refine pm_R_op pm_M220 (pc' := 6) (st' := [.int 50, .long a1, .long z323]) rfl rfl rfl ?_
                        refine pm_R_lo pm_M220 (pc' := 7) rfl rfl rfl ?_
                        refine sf_R_isub pm_M220 (pc' := 8) rfl rfl sf_k50 B322 (by decide) (by decide) (fun z324 e325 B326 => ?_)
                        refine sf_R_lany pm_M220 (pc' := 9) (st := [.long z323]) rfl rfl rfl (fun z327 => ?_)
                        refine sf_R_lany pm_M220 (pc' := 10) (st := []) rfl rfl rfl (fun z328 => ?_)
                        refine pm_R_ldc2 pm_M220 (pc' := 13) rfl rfl rfl ?_
                        refine sf_R_lany pm_M220 (pc' := 14) (st := []) rfl rfl rfl (fun z329 => ?_)
                        refine pm_R_ret pm_M220 (r := some (.long z329)) rfl rfl ?_
                        show pm_R _ 218 91 [.int a0, .long a1, pm_no, .long a2, pm_no, .long y5_278, pm_no, .int x7_278] [.long z329, .long y5_278] _ _
                        refine pm_R_br pm_M218 (pc' := 95) rfl rfl ?_
                        refine sf_R_lany pm_M218 (pc' := 96) (st := []) rfl rfl rfl (fun z330 => ?_)
                        refine pm_R_lo pm_M218 (pc' := 98) (ls' := [.int a0, .long a1, pm_no, .long a2, pm_no, .long z330, pm_no, .int x7_278]) (st' := []) rfl rfl rfl ?_
                        refine sf_R_iinc pm_M218 (pc' := 101) (ls' := fun z => [.int a0, .long a1, pm_no, .long a2, pm_no, .long z330, pm_no, .int z]) rfl B322 rfl (by decide) (by decide) (by decide) (fun _ => rfl) rfl (fun z331 e332 B333 => ?_)
                        show pm_R _ 218 101 [.int a0, .long a1, pm_no, .long a2, pm_no, .long z330, pm_no, .int z331] [] _ _
                        refine pm_R_br pm_M218 (pc' := 49) rfl rfl ?_
                        exact ih_278 _ (sf_up hN_278 e332 B322 (by decide) (by decide)) z331 z330 (sf_weak B333 (by decide) (by decide)) rfl
            exact L_278 _ 0 0 (sf_weak sf_k0 (by decide) (by decide)) rfl
          · have B334 : sf_B 4 4 a0 := sf_eqL (Classical.not_not.mp c14) sf_k4
            refine pm_R_lo pm_M218 (pc' := 39) rfl rfl rfl ?_
            refine pm_R_cs pm_M218 (pc' := 42) (ra := [.long a2]) (rest := []) (ls' := [.long a2, pm_no, pm_no, pm_no, pm_no]) rfl rfl (Or.inl rfl) pm_M219 rfl rfl (Nat.le_of_ble_eq_true rfl) rfl rfl ?_
            refine rf_c219 (d := d + 0)  (fun r335 => ?_)
            show pm_R _ 218 42 [.int a0, .long a1, pm_no, .long a2, pm_no, pm_no, pm_no, pm_no] [.long r335] _ _
            exact pm_R_ret pm_M218 (r := some (.long r335)) rfl rfl (K r335)
        · have B343 : sf_B 1 1 a0 := sf_eqL (Classical.not_not.mp c13) sf_k1
          refine pm_R_lo pm_M218 (pc' := 24) rfl rfl rfl ?_
          refine pm_R_ifc pm_M218 (t := 31) (pc' := 27) rfl rfl rfl (fun c344 => ?_) (fun c344 => absurd (Classical.not_not.mp c344) (sf_neq1 B343 sf_k0 (by decide)))
          skip
          refine pm_R_lo pm_M218 (pc' := 32) rfl rfl rfl ?_
          exact pm_R_ret pm_M218 (r := some (.long a2)) rfl rfl (K a2)
    · have B345 : sf_B 0 0 z6 := sf_eqL (Classical.not_not.mp c8) sf_k0
      refine pm_R_op pm_M218 (pc' := 13) (st' := [.long 0]) rfl rfl rfl ?_
      exact pm_R_ret pm_M218 (r := some (.long 0)) rfl rfl (K 0)

set_option maxRecDepth 100000 in
set_option maxHeartbeats 4000000 in
/-- SilentTableModel.tell -/
theorem rf_c221 {d : Nat} {h : pm_H} {Q : Option Value → pm_H → Prop} {a0 : Int64} {a1 : Int32}   (K : ∀ (r : Int32), sf_B (-2) 50 r → Q (some (.int r)) h) : pm_R (d + 2) 221 0 [.long a0, pm_no, .int a1, pm_no, pm_no] [] h Q := by
  refine pm_R_lo pm_M221 (pc' := 1) rfl rfl rfl ?_
  refine pm_R_op pm_M221 (pc' := 2) (st' := [.int (-1), .int a1]) rfl rfl rfl ?_
  refine pm_R_icmp pm_M221 (t := 10) (pc' := 5) rfl rfl rfl (fun c1 => ?_) (fun c1 => ?_)
  · skip
    refine pm_R_lo pm_M221 (pc' := 11) rfl rfl rfl ?_
    refine pm_R_lo pm_M221 (pc' := 12) (ls' := [.long a0, pm_no, .int a1, .int a1, pm_no]) (st' := []) rfl rfl rfl ?_
    refine pm_R_op pm_M221 (pc' := 13) (st' := [.int 0]) rfl rfl rfl ?_
    refine pm_R_lo pm_M221 (pc' := 15) (ls' := [.long a0, pm_no, .int a1, .int a1, .int 0]) (st' := []) rfl rfl rfl ?_
    have L_116 : ∀ (N : Nat) (x3_116 : Int32) (x4_116 : Int32), sf_B (-2147483648) 2147483647 x3_116 → sf_B 0 50 x4_116 → (50 - x4_116.toInt).toNat = N → pm_R (d + 2) 221 15 [.long a0, pm_no, .int a1, .int x3_116, .int x4_116] [] h Q := by
      intro N
      induction N using Nat.strongRecOn with
      | ind N ih_116 =>
        intro x3_116 x4_116 Bx3_116 Bx4_116 hN_116
        refine pm_R_lo pm_M221 (pc' := 17) rfl rfl rfl ?_
        refine pm_R_op pm_M221 (pc' := 19) (st' := [.int 50, .int x4_116]) rfl rfl rfl ?_
        refine pm_R_icmp pm_M221 (t := 51) (pc' := 22) rfl rfl rfl (fun c117 => ?_) (fun c117 => ?_)
        · have B118 : sf_B 50 50 x4_116 := sf_leR c117 sf_k50 Bx4_116
          refine pm_R_op pm_M221 (pc' := 53) (st' := [.int (-2)]) rfl rfl rfl ?_
          exact pm_R_ret pm_M221 (r := some (.int (-2))) rfl rfl (K (-2) (sf_weak sf_kn2 (by decide) (by decide)))
        · have B119 : sf_B 0 49 x4_116 := sf_ltL (Int32.not_le.mp c117) Bx4_116 sf_k50
          refine pm_R_lo pm_M221 (pc' := 23) rfl rfl rfl ?_
          refine pm_R_ifc pm_M221 (t := 51) (pc' := 26) rfl rfl rfl (fun c120 => ?_) (fun c120 => ?_)
          · have B121 : sf_B (-2147483648) (-1) a1 := sf_ltL c120 (sf_any a1) sf_k0
            refine pm_R_op pm_M221 (pc' := 53) (st' := [.int (-2)]) rfl rfl rfl ?_
            exact pm_R_ret pm_M221 (r := some (.int (-2))) rfl rfl (K (-2) (sf_weak sf_kn2 (by decide) (by decide)))
          · have B122 : sf_B 0 2147483647 a1 := sf_leR (Int32.not_lt.mp c120) sf_k0 (sf_any a1)
            refine pm_R_lo pm_M221 (pc' := 27) rfl rfl rfl ?_
            refine pm_R_lo pm_M221 (pc' := 29) rfl rfl rfl ?_
            refine pm_R_cs pm_M221 (pc' := 32) (ra := [.int x4_116, .long a0]) (rest := []) (ls' := [.long a0, pm_no, .int x4_116]) rfl rfl (Or.inl rfl) pm_M206 rfl rfl (Nat.le_of_ble_eq_true rfl) rfl rfl ?_
            refine pm_R_lo pm_M206 (pc' := 1) rfl rfl rfl ?_
            refine pm_R_lo pm_M206 (pc' := 2) rfl rfl rfl ?_
            refine sf_R_lany pm_M206 (pc' := 3) (st := []) rfl rfl rfl (fun z123 => ?_)
            refine pm_R_op pm_M206 (pc' := 4) (st' := [.long 1, .long z123]) rfl rfl rfl ?_
            refine sf_R_lany pm_M206 (pc' := 5) (st := []) rfl rfl rfl (fun z124 => ?_)
            refine pm_R_op pm_M206 (pc' := 6) (st' := [.long 1, .long z124]) rfl rfl rfl ?_
            refine sf_R_lcmp pm_M206 (pc' := 7) rfl rfl (fun z125 e126 => ?_)
            refine pm_R_ifc pm_M206 (t := 14) (pc' := 10) rfl rfl rfl (fun c127 => ?_) (fun c127 => ?_)
            · have k128 := sf_lneC e126 c127
              refine pm_R_op pm_M206 (pc' := 15) (st' := [.int 0]) rfl rfl rfl ?_
              refine pm_R_ret pm_M206 (r := some (.int 0)) rfl rfl ?_
              show pm_R _ 221 32 [.long a0, pm_no, .int a1, .int x3_116, .int x4_116] [.int 0] _ _
              refine pm_R_br pm_M221 (pc' := 45) (st' := []) rfl rfl ?_
              refine sf_R_iinc pm_M221 (pc' := 48) (ls' := fun z => [.long a0, pm_no, .int a1, .int x3_116, .int z]) rfl B119 rfl (by decide) (by decide) (by decide) (fun _ => rfl) rfl (fun z129 e130 B131 => ?_)
              show pm_R _ 221 48 [.long a0, pm_no, .int a1, .int x3_116, .int z129] [] _ _
              refine pm_R_br pm_M221 (pc' := 15) rfl rfl ?_
              exact ih_116 _ (sf_up hN_116 e130 B119 (by decide) (by decide)) x3_116 z129 Bx3_116 (sf_weak B131 (by decide) (by decide)) rfl
            · have B132 : sf_B 0 0 z125 := sf_eqL (Classical.not_not.mp c127) sf_k0
              refine pm_R_op pm_M206 (pc' := 11) (st' := [.int 1]) rfl rfl rfl ?_
              refine pm_R_br pm_M206 (pc' := 15) rfl rfl ?_
              refine pm_R_ret pm_M206 (r := some (.int 1)) rfl rfl ?_
              show pm_R _ 221 32 [.long a0, pm_no, .int a1, .int x3_116, .int x4_116] [.int 1] _ _
              refine pm_R_br pm_M221 (pc' := 35) (st' := []) rfl rfl ?_
              refine pm_R_lo pm_M221 (pc' := 36) rfl rfl rfl ?_
              refine pm_R_ifc pm_M221 (t := 42) (pc' := 39) rfl rfl rfl (fun c133 => ?_) (fun c133 => ?_)
              · skip
                refine sf_R_iincA pm_M221 (pc' := 45) (ls' := fun z => [.long a0, pm_no, .int a1, .int z, .int x4_116]) rfl rfl (fun _ => rfl) rfl (fun z134 => ?_)
                show pm_R _ 221 45 [.long a0, pm_no, .int a1, .int z134, .int x4_116] [] _ _
                refine sf_R_iinc pm_M221 (pc' := 48) (ls' := fun z => [.long a0, pm_no, .int a1, .int z134, .int z]) rfl B119 rfl (by decide) (by decide) (by decide) (fun _ => rfl) rfl (fun z135 e136 B137 => ?_)
                show pm_R _ 221 48 [.long a0, pm_no, .int a1, .int z134, .int z135] [] _ _
                refine pm_R_br pm_M221 (pc' := 15) rfl rfl ?_
                exact ih_116 _ (sf_up hN_116 e136 B119 (by decide) (by decide)) z134 z135 (sf_any z134) (sf_weak B137 (by decide) (by decide)) rfl
              · have B138 : sf_B 0 0 x3_116 := sf_eqL (Classical.not_not.mp c133) sf_k0
                refine pm_R_lo pm_M221 (pc' := 41) rfl rfl rfl ?_
                exact pm_R_ret pm_M221 (r := some (.int x4_116)) rfl (pm_ret_i _) (K x4_116 (sf_weak B119 (by decide) (by decide)))
    exact L_116 _ a1 0 (sf_any a1) (sf_weak sf_k0 (by decide) (by decide)) rfl
  · have B139 : sf_B (-1) (-1) a1 := sf_eqL (Classical.not_not.mp c1) sf_kn1
    refine pm_R_lo pm_M221 (pc' := 6) rfl rfl rfl ?_
    refine pm_R_cs pm_M221 (pc' := 9) (ra := [.long a0]) (rest := []) (ls' := [.long a0, pm_no, pm_no, pm_no]) rfl rfl (Or.inl rfl) pm_M222 rfl rfl (Nat.le_of_ble_eq_true rfl) rfl rfl ?_
    refine rf_c222 (d := d + 0)  (fun r140 B141 => ?_)
    show pm_R _ 221 9 [.long a0, pm_no, .int a1, pm_no, pm_no] [.int r140] _ _
    exact pm_R_ret pm_M221 (r := some (.int r140)) rfl (pm_ret_i _) (K r140 (sf_weak B141 (by decide) (by decide)))

set_option maxRecDepth 100000 in
set_option maxHeartbeats 4000000 in
/-- SilentTableModel.rowsOf -/
theorem rf_c242 {d : Nat} {h : pm_H} {Q : Option Value → pm_H → Prop} {a0 : Int32}  (Ba0 : sf_B 0 4 a0) (K : ∀ (r : Int32), Q (some (.int r)) h) : pm_R (d + 0) 242 0 [.int a0, pm_no, pm_no] [] h Q := by
  refine pm_R_op pm_M242 (pc' := 1) (st' := [.int 1]) rfl rfl rfl ?_
  refine pm_R_lo pm_M242 (pc' := 2) (ls' := [.int a0, .int 1, pm_no]) (st' := []) rfl rfl rfl ?_
  refine pm_R_op pm_M242 (pc' := 3) (st' := [.int 0]) rfl rfl rfl ?_
  refine pm_R_lo pm_M242 (pc' := 4) (ls' := [.int a0, .int 1, .int 0]) (st' := []) rfl rfl rfl ?_
  have L_59 : ∀ (N : Nat) (x1_59 : Int32) (x2_59 : Int32), sf_B (-2147483648) 2147483647 x1_59 → sf_B 0 4 x2_59 → (4 - x2_59.toInt).toNat = N → pm_R (d + 0) 242 4 [.int a0, .int x1_59, .int x2_59] [] h Q := by
    intro N
    induction N using Nat.strongRecOn with
    | ind N ih_59 =>
      intro x1_59 x2_59 Bx1_59 Bx2_59 hN_59
      refine pm_R_lo pm_M242 (pc' := 5) rfl rfl rfl ?_
      refine pm_R_lo pm_M242 (pc' := 6) rfl rfl rfl ?_
      refine pm_R_icmp pm_M242 (t := 20) (pc' := 9) rfl rfl rfl (fun c60 => ?_) (fun c60 => ?_)
      · skip
        refine pm_R_lo pm_M242 (pc' := 21) rfl rfl rfl ?_
        exact pm_R_ret pm_M242 (r := some (.int x1_59)) rfl (pm_ret_i _) (K x1_59)
      · have B61 : sf_B 0 3 x2_59 := sf_ltL (Int32.not_le.mp c60) Bx2_59 Ba0
        have B62 : sf_B 1 4 a0 := sf_ltR (Int32.not_le.mp c60) Bx2_59 Ba0
        refine pm_R_lo pm_M242 (pc' := 10) rfl rfl rfl ?_
        refine pm_R_op pm_M242 (pc' := 12) (st' := [.int 10, .int x1_59]) rfl rfl rfl ?_
        refine sf_R_iany pm_M242 (pc' := 13) (st := []) rfl rfl rfl (fun z66 => ?_)
        refine pm_R_lo pm_M242 (pc' := 14) (ls' := [.int a0, .int z66, .int x2_59]) (st' := []) rfl rfl rfl ?_
        refine sf_R_iinc pm_M242 (pc' := 17) (ls' := fun z => [.int a0, .int z66, .int z]) rfl B61 rfl (by decide) (by decide) (by decide) (fun _ => rfl) rfl (fun z67 e68 B69 => ?_)
        show pm_R _ 242 17 [.int a0, .int z66, .int z67] [] _ _
        refine pm_R_br pm_M242 (pc' := 4) rfl rfl ?_
        exact ih_59 _ (sf_up hN_59 e68 B61 (by decide) (by decide)) z66 z67 (sf_any z66) (sf_weak B69 (by decide) (by decide)) rfl
  exact L_59 _ 1 0 (sf_weak sf_k1 (by decide) (by decide)) (sf_weak sf_k0 (by decide) (by decide)) rfl

theorem sf_aux2 (v0 v1 : Int) (q0 : v0 = 100 * v1) : v0 = 100 * v1 + 0 := by omega
theorem sf_aux3 (v0 v1 v2 v3 v4 v5 v6 : Int) (q0 : v0 = 100 * v1) (q1 : v2 = v0 + 2) (q2 : v3 = 4 * v4) (q3 : v5 = v2 + v3) (q4 : v6 = v5 + 0) : v6 = 100 * v1 + 4 * v4 + 2 := by omega
theorem sf_aux4 (v0 v1 v2 v3 v4 v5 v6 : Int) (q0 : v0 = 100 * v1) (q1 : v2 = v0 + 2) (q2 : v3 = 4 * v4) (q3 : v5 = v2 + v3) (q4 : v6 = v5 + 3) : v6 = 100 * v1 + 4 * v4 + 5 := by omega
theorem sf_aux5 (v0 v1 v2 v3 v4 v5 v6 : Int) (q0 : v0 = 100 * v1) (q1 : v2 = v0 + 2) (q2 : v3 = 4 * v4) (q3 : v5 = v2 + v3) (q4 : v6 = v5 + 1) : v6 = 100 * v1 + 4 * v4 + 3 := by omega
theorem sf_aux6 (v0 v1 v2 v3 v4 v5 v6 : Int) (q0 : v0 = 100 * v1) (q1 : v2 = v0 + 2) (q2 : v3 = 4 * v4) (q3 : v5 = v2 + v3) (q4 : v6 = v5 + 2) : v6 = 100 * v1 + 4 * v4 + 4 := by omega
set_option maxRecDepth 100000 in
set_option maxHeartbeats 4000000 in
/-- SilentTableModel.valuesOf -/
theorem rf_c217 {d : Nat} {m : Nat → Int32} {w : Int64} {h : pm_H} {Q : Option Value → pm_H → Prop} {a0 : Int32} {a1 : Int32} {a2 : Int32} (T : rf_T m w h) (Ba0 : sf_B 0 5 a0) (Ba1 : sf_B 0 11 a1) (Ba2 : sf_B 0 11 a2) (K : ∀ (r : Int64), Q (some (.long r)) h) : pm_R (d + 3) 217 0 [.ref 41, .int a0, .int a1, .int a2, pm_no, pm_no, pm_no, pm_no] [] h Q := by
  refine pm_R_op pm_M217 (pc' := 1) (st' := [.long 0]) rfl rfl rfl ?_
  refine pm_R_lo pm_M217 (pc' := 3) (ls' := [.ref 41, .int a0, .int a1, .int a2, .long 0, pm_no, pm_no, pm_no]) (st' := []) rfl rfl rfl ?_
  refine pm_R_op pm_M217 (pc' := 4) (st' := [.int 0]) rfl rfl rfl ?_
  refine pm_R_lo pm_M217 (pc' := 6) (ls' := [.ref 41, .int a0, .int a1, .int a2, .long 0, pm_no, .int 0, pm_no]) (st' := []) rfl rfl rfl ?_
  have L_1131 : ∀ (N : Nat) (x6_1131 : Int32) (y4_1131 : Int64) (g7_1131 : Value), sf_B 0 10 x6_1131 → g7_1131.category = 1 → (10 - x6_1131.toInt).toNat = N → pm_R (d + 3) 217 6 [.ref 41, .int a0, .int a1, .int a2, .long y4_1131, pm_no, .int x6_1131, g7_1131] [] h Q := by
    intro N
    induction N using Nat.strongRecOn with
    | ind N ih_1131 =>
      intro x6_1131 y4_1131 g7_1131 Bx6_1131 Cg7_1131 hN_1131
      refine pm_R_lo pm_M217 (pc' := 8) rfl rfl rfl ?_
      refine pm_R_lo pm_M217 (pc' := 9) rfl rfl rfl ?_
      refine pm_R_cv pm_M217 (pc' := 12) (a := 41) (ra := []) (rest := [.int x6_1131]) (ls' := [.ref 41]) rfl rfl (Or.inl rfl) pm_M209 T.2.1 rfl (by decide) (Nat.lt_of_lt_of_le (by decide) T.1) rfl rfl (Nat.le_of_ble_eq_true rfl) rfl rfl ?_
      refine pm_R_lo pm_M209 (pc' := 1) rfl rfl rfl ?_
      refine rf_R_get pm_M209 T (pc' := 4) (v := .ref 47) rfl rfl rfl rfl ?_
      refine pm_R_op pm_M209 (pc' := 6) (st' := [.int 100, .ref 47]) rfl rfl rfl ?_
      refine pm_R_lo pm_M209 (pc' := 7) rfl rfl rfl ?_
      have B1132 : sf_B 0 1 (m 23) := T.2.2.1 23
      refine rf_R_get pm_M209 T (pc' := 10) (v := .int (m 23)) rfl rfl rfl rfl ?_
      refine sf_R_imul pm_M209 (pc' := 11) rfl rfl sf_k100 B1132 (by decide) (by decide) (by decide) (fun z1133 e1134 B1135 => ?_)
      obtain ⟨f1136, e1137, b1138⟩ := T.2.2.2.1 47 (by decide) (by decide)
      refine rf_R_ild pm_M209 T (pc' := 12) rfl e1137 (by decide) (sf_in B1135 (by decide) (by decide)) rfl (fun z1139 ez1140 => ?_)
      have e1141 : (z1133).toInt = 100 * ((m 23)).toInt + 0 := (sf_aux2 _ _ e1134)
      have B1142 : sf_B 0 10 z1139 := ez1140 ▸ rf_p47a b1138 e1141 B1132 (by decide)
      refine pm_R_ret pm_M209 (r := some (.int z1139)) rfl (pm_ret_i _) ?_
      show pm_R _ 217 12 [.ref 41, .int a0, .int a1, .int a2, .long y4_1131, pm_no, .int x6_1131, g7_1131] [.int z1139, .int x6_1131] _ _
      refine pm_R_icmp pm_M217 (t := 100) (pc' := 15) rfl rfl rfl (fun c1143 => ?_) (fun c1143 => ?_)
      · skip
        refine pm_R_lo pm_M217 (pc' := 102) rfl rfl rfl ?_
        exact pm_R_ret pm_M217 (r := some (.long y4_1131)) rfl rfl (K y4_1131)
      · have B1144 : sf_B 0 9 x6_1131 := sf_ltL (Int32.not_le.mp c1143) Bx6_1131 B1142
        have B1145 : sf_B 1 10 z1139 := sf_ltR (Int32.not_le.mp c1143) Bx6_1131 B1142
        refine pm_R_lo pm_M217 (pc' := 16) rfl rfl rfl ?_
        refine pm_R_lo pm_M217 (pc' := 18) (ls' := [.ref 41, .int a0, .int a1, .int a2, .long y4_1131, pm_no, .int x6_1131, .int a1]) (st' := []) rfl rfl rfl ?_
        have L_1336 : ∀ (N : Nat) (x7_1336 : Int32) (y4_1336 : Int64), sf_B 0 11 x7_1336 → (11 - x7_1336.toInt).toNat = N → pm_R (d + 3) 217 18 [.ref 41, .int a0, .int a1, .int a2, .long y4_1336, pm_no, .int x6_1131, .int x7_1336] [] h Q := by
          intro N
          induction N using Nat.strongRecOn with
          | ind N ih_1336 =>
            intro x7_1336 y4_1336 Bx7_1336 hN_1336
            refine pm_R_lo pm_M217 (pc' := 20) rfl rfl rfl ?_
            refine pm_R_lo pm_M217 (pc' := 21) rfl rfl rfl ?_
            refine pm_R_icmp pm_M217 (t := 94) (pc' := 24) rfl rfl rfl (fun c1337 => ?_) (fun c1337 => ?_)
            · skip
              refine sf_R_iinc pm_M217 (pc' := 97) (ls' := fun z => [.ref 41, .int a0, .int a1, .int a2, .long y4_1336, pm_no, .int z, .int x7_1336]) rfl B1144 rfl (by decide) (by decide) (by decide) (fun _ => rfl) rfl (fun z1338 e1339 B1340 => ?_)
              show pm_R _ 217 97 [.ref 41, .int a0, .int a1, .int a2, .long y4_1336, pm_no, .int z1338, .int x7_1336] [] _ _
              refine pm_R_br pm_M217 (pc' := 6) rfl rfl ?_
              exact ih_1131 _ (sf_up hN_1131 e1339 B1144 (by decide) (by decide)) z1338 y4_1336 (.int x7_1336) (sf_weak B1340 (by decide) (by decide)) rfl rfl
            · have B1341 : sf_B 0 10 x7_1336 := sf_ltL (Int32.not_le.mp c1337) Bx7_1336 Ba2
              have B1342 : sf_B 1 11 a2 := sf_ltR (Int32.not_le.mp c1337) Bx7_1336 Ba2
              refine pm_R_lo pm_M217 (pc' := 25) rfl rfl rfl ?_
              refine pm_R_lo pm_M217 (pc' := 27) rfl rfl rfl ?_
              refine pm_R_op pm_M217 (pc' := 28) (st' := [.int 0, .int x6_1131, .ref 41]) rfl rfl rfl ?_
              refine pm_R_cv pm_M217 (pc' := 31) (a := 41) (ra := [.int 0, .int x6_1131]) (rest := []) (ls' := [.ref 41, .int x6_1131, .int 0]) rfl rfl (Or.inl rfl) pm_M210 T.2.1 rfl (by decide) (Nat.lt_of_lt_of_le (by decide) T.1) rfl rfl (Nat.le_of_ble_eq_true rfl) rfl rfl ?_
              refine pm_R_lo pm_M210 (pc' := 1) rfl rfl rfl ?_
              refine rf_R_get pm_M210 T (pc' := 4) (v := .ref 47) rfl rfl rfl rfl ?_
              refine pm_R_op pm_M210 (pc' := 6) (st' := [.int 100, .ref 47]) rfl rfl rfl ?_
              refine pm_R_lo pm_M210 (pc' := 7) rfl rfl rfl ?_
              refine rf_R_get pm_M210 T (pc' := 10) (v := .int (m 23)) rfl rfl rfl rfl ?_
              refine sf_R_imulV pm_M210 (pc' := 11) rfl rfl sf_k100 B1132 (by decide) (by decide) (by decide) e1134 ?_
              refine pm_R_op pm_M210 (pc' := 12) (st' := [.int 2, .int z1133, .ref 47]) rfl rfl rfl ?_
              refine sf_R_iadd pm_M210 (pc' := 13) rfl rfl B1135 sf_k2 (by decide) (by decide) (fun z1343 e1344 B1345 => ?_)
              refine pm_R_op pm_M210 (pc' := 14) (st' := [.int 4, .int z1343, .ref 47]) rfl rfl rfl ?_
              refine pm_R_lo pm_M210 (pc' := 15) rfl rfl rfl ?_
              refine sf_R_imul pm_M210 (pc' := 16) rfl rfl sf_k4 B1144 (by decide) (by decide) (by decide) (fun z1346 e1347 B1348 => ?_)
              refine sf_R_iadd pm_M210 (pc' := 17) rfl rfl B1345 B1348 (by decide) (by decide) (fun z1349 e1350 B1351 => ?_)
              refine pm_R_lo pm_M210 (pc' := 18) rfl rfl rfl ?_
              refine sf_R_iadd pm_M210 (pc' := 19) rfl rfl B1351 sf_k0 (by decide) (by decide) (fun z1352 e1353 B1354 => ?_)
              refine rf_R_ild pm_M210 T (pc' := 20) rfl e1137 (by decide) (sf_in B1354 (by decide) (by decide)) rfl (fun z1355 ez1356 => ?_)
              have e1357 : (z1352).toInt = 100 * ((m 23)).toInt + 4 * (x6_1131).toInt + 2 := (sf_aux3 _ _ _ _ _ _ _ e1134 e1344 e1347 e1350 e1353)
              have B1358 : sf_B 0 5 z1355 := ez1356 ▸ rf_p47r b1138 e1357 B1132 B1144 (by decide) (by decide) (by decide)
              refine pm_R_ret pm_M210 (r := some (.int z1355)) rfl (pm_ret_i _) ?_
              show pm_R _ 217 31 [.ref 41, .int a0, .int a1, .int a2, .long y4_1336, pm_no, .int x6_1131, .int x7_1336] [.int z1355] _ _
              refine pm_R_lo pm_M217 (pc' := 32) rfl rfl rfl ?_
              refine pm_R_icmp pm_M217 (t := 94) (pc' := 35) rfl rfl rfl (fun c1359 => ?_) (fun c1359 => ?_)
              · skip
                refine sf_R_iinc pm_M217 (pc' := 97) (ls' := fun z => [.ref 41, .int a0, .int a1, .int a2, .long y4_1336, pm_no, .int z, .int x7_1336]) rfl B1144 rfl (by decide) (by decide) (by decide) (fun _ => rfl) rfl (fun z1360 e1361 B1362 => ?_)
                show pm_R _ 217 97 [.ref 41, .int a0, .int a1, .int a2, .long y4_1336, pm_no, .int z1360, .int x7_1336] [] _ _
                refine pm_R_br pm_M217 (pc' := 6) rfl rfl ?_
                exact ih_1131 _ (sf_up hN_1131 e1361 B1144 (by decide) (by decide)) z1360 y4_1336 (.int x7_1336) (sf_weak B1362 (by decide) (by decide)) rfl rfl
              · refine pm_R_lo pm_M217 (pc' := 37) rfl rfl rfl ?_
                refine pm_R_lo pm_M217 (pc' := 38) rfl rfl rfl ?_
                refine pm_R_lo pm_M217 (pc' := 40) rfl rfl rfl ?_
                refine pm_R_op pm_M217 (pc' := 41) (st' := [.int 3, .int x6_1131, .ref 41, .long y4_1336]) rfl rfl rfl ?_
                refine pm_R_cv pm_M217 (pc' := 44) (a := 41) (ra := [.int 3, .int x6_1131]) (rest := [.long y4_1336]) (ls' := [.ref 41, .int x6_1131, .int 3]) rfl rfl (Or.inl rfl) pm_M210 T.2.1 rfl (by decide) (Nat.lt_of_lt_of_le (by decide) T.1) rfl rfl (Nat.le_of_ble_eq_true rfl) rfl rfl ?_
                refine pm_R_lo pm_M210 (pc' := 1) rfl rfl rfl ?_
                refine rf_R_get pm_M210 T (pc' := 4) (v := .ref 47) rfl rfl rfl rfl ?_
                refine pm_R_op pm_M210 (pc' := 6) (st' := [.int 100, .ref 47]) rfl rfl rfl ?_
                refine pm_R_lo pm_M210 (pc' := 7) rfl rfl rfl ?_
                refine rf_R_get pm_M210 T (pc' := 10) (v := .int (m 23)) rfl rfl rfl rfl ?_
                refine sf_R_imulV pm_M210 (pc' := 11) rfl rfl sf_k100 B1132 (by decide) (by decide) (by decide) e1134 ?_
                refine pm_R_op pm_M210 (pc' := 12) (st' := [.int 2, .int z1133, .ref 47]) rfl rfl rfl ?_
                refine sf_R_iaddV pm_M210 (pc' := 13) rfl rfl B1135 sf_k2 (by decide) (by decide) e1344 ?_
                refine pm_R_op pm_M210 (pc' := 14) (st' := [.int 4, .int z1343, .ref 47]) rfl rfl rfl ?_
                refine pm_R_lo pm_M210 (pc' := 15) rfl rfl rfl ?_
                refine sf_R_imulV pm_M210 (pc' := 16) rfl rfl sf_k4 B1144 (by decide) (by decide) (by decide) e1347 ?_
                refine sf_R_iaddV pm_M210 (pc' := 17) rfl rfl B1345 B1348 (by decide) (by decide) e1350 ?_
                refine pm_R_lo pm_M210 (pc' := 18) rfl rfl rfl ?_
                refine sf_R_iadd pm_M210 (pc' := 19) rfl rfl B1351 sf_k3 (by decide) (by decide) (fun z1363 e1364 B1365 => ?_)
                refine rf_R_ild pm_M210 T (pc' := 20) rfl e1137 (by decide) (sf_in B1365 (by decide) (by decide)) rfl (fun z1366 ez1367 => ?_)
                have e1368 : (z1363).toInt = 100 * ((m 23)).toInt + 4 * (x6_1131).toInt + 5 := (sf_aux4 _ _ _ _ _ _ _ e1134 e1344 e1347 e1350 e1364)
                have B1369 : sf_B 0 4 z1366 := ez1367 ▸ rf_p47t b1138 e1368 B1132 B1144 (by decide) (by decide) (by decide)
                refine pm_R_ret pm_M210 (r := some (.int z1366)) rfl (pm_ret_i _) ?_
                show pm_R _ 217 44 [.ref 41, .int a0, .int a1, .int a2, .long y4_1336, pm_no, .int x6_1131, .int x7_1336] [.int z1366, .long y4_1336] _ _
                refine pm_R_lo pm_M217 (pc' := 45) rfl rfl rfl ?_
                refine rf_R_get pm_M217 T (pc' := 48) (v := .ref 54) rfl rfl rfl rfl ?_
                refine pm_R_lo pm_M217 (pc' := 49) rfl rfl rfl ?_
                refine pm_R_lo pm_M217 (pc' := 51) rfl rfl rfl ?_
                refine pm_R_op pm_M217 (pc' := 52) (st' := [.int 1, .int x6_1131, .ref 41, .ref 54, .int z1366, .long y4_1336]) rfl rfl rfl ?_
                refine pm_R_cv pm_M217 (pc' := 55) (a := 41) (ra := [.int 1, .int x6_1131]) (rest := [.ref 54, .int z1366, .long y4_1336]) (ls' := [.ref 41, .int x6_1131, .int 1]) rfl rfl (Or.inl rfl) pm_M210 T.2.1 rfl (by decide) (Nat.lt_of_lt_of_le (by decide) T.1) rfl rfl (Nat.le_of_ble_eq_true rfl) rfl rfl ?_
                refine pm_R_lo pm_M210 (pc' := 1) rfl rfl rfl ?_
                refine rf_R_get pm_M210 T (pc' := 4) (v := .ref 47) rfl rfl rfl rfl ?_
                refine pm_R_op pm_M210 (pc' := 6) (st' := [.int 100, .ref 47]) rfl rfl rfl ?_
                refine pm_R_lo pm_M210 (pc' := 7) rfl rfl rfl ?_
                refine rf_R_get pm_M210 T (pc' := 10) (v := .int (m 23)) rfl rfl rfl rfl ?_
                refine sf_R_imulV pm_M210 (pc' := 11) rfl rfl sf_k100 B1132 (by decide) (by decide) (by decide) e1134 ?_
                refine pm_R_op pm_M210 (pc' := 12) (st' := [.int 2, .int z1133, .ref 47]) rfl rfl rfl ?_
                refine sf_R_iaddV pm_M210 (pc' := 13) rfl rfl B1135 sf_k2 (by decide) (by decide) e1344 ?_
                refine pm_R_op pm_M210 (pc' := 14) (st' := [.int 4, .int z1343, .ref 47]) rfl rfl rfl ?_
                refine pm_R_lo pm_M210 (pc' := 15) rfl rfl rfl ?_
                refine sf_R_imulV pm_M210 (pc' := 16) rfl rfl sf_k4 B1144 (by decide) (by decide) (by decide) e1347 ?_
                refine sf_R_iaddV pm_M210 (pc' := 17) rfl rfl B1345 B1348 (by decide) (by decide) e1350 ?_
                refine pm_R_lo pm_M210 (pc' := 18) rfl rfl rfl ?_
                refine sf_R_iadd pm_M210 (pc' := 19) rfl rfl B1351 sf_k1 (by decide) (by decide) (fun z1370 e1371 B1372 => ?_)
                refine rf_R_ild pm_M210 T (pc' := 20) rfl e1137 (by decide) (sf_in B1372 (by decide) (by decide)) rfl (fun z1373 ez1374 => ?_)
                have e1375 : (z1370).toInt = 100 * ((m 23)).toInt + 4 * (x6_1131).toInt + 3 := (sf_aux5 _ _ _ _ _ _ _ e1134 e1344 e1347 e1350 e1371)
                have B1376 : sf_B 0 5 z1373 := ez1374 ▸ rf_p47r b1138 e1375 B1132 B1144 (by decide) (by decide) (by decide)
                refine pm_R_ret pm_M210 (r := some (.int z1373)) rfl (pm_ret_i _) ?_
                show pm_R _ 217 55 [.ref 41, .int a0, .int a1, .int a2, .long y4_1336, pm_no, .int x6_1131, .int x7_1336] [.int z1373, .ref 54, .int z1366, .long y4_1336] _ _
                refine pm_R_lo pm_M217 (pc' := 56) rfl rfl rfl ?_
                refine pm_R_lo pm_M217 (pc' := 58) rfl rfl rfl ?_
                refine pm_R_cs pm_M217 (pc' := 61) (ra := [.int x7_1336, .int a1, .int z1373]) (rest := [.ref 54, .int z1366, .long y4_1336]) (ls' := [.int z1373, .int a1, .int x7_1336]) rfl rfl (Or.inl rfl) pm_M207 rfl rfl (Nat.le_of_ble_eq_true rfl) rfl rfl ?_
                refine pm_R_op pm_M207 (pc' := 3) (st' := [.int 144]) rfl rfl rfl ?_
                refine pm_R_lo pm_M207 (pc' := 4) rfl rfl rfl ?_
                refine sf_R_imul pm_M207 (pc' := 5) rfl rfl sf_k144 B1376 (by decide) (by decide) (by decide) (fun z1377 e1378 B1379 => ?_)
                refine pm_R_op pm_M207 (pc' := 7) (st' := [.int 12, .int z1377]) rfl rfl rfl ?_
                refine pm_R_lo pm_M207 (pc' := 8) rfl rfl rfl ?_
                refine sf_R_imul pm_M207 (pc' := 9) rfl rfl sf_k12 Ba1 (by decide) (by decide) (by decide) (fun z1380 e1381 B1382 => ?_)
                refine sf_R_iadd pm_M207 (pc' := 10) rfl rfl B1379 B1382 (by decide) (by decide) (fun z1383 e1384 B1385 => ?_)
                refine pm_R_lo pm_M207 (pc' := 11) rfl rfl rfl ?_
                refine sf_R_iadd pm_M207 (pc' := 12) rfl rfl B1385 B1341 (by decide) (by decide) (fun z1386 e1387 B1388 => ?_)
                refine pm_R_ret pm_M207 (r := some (.int z1386)) rfl (pm_ret_i _) ?_
                show pm_R _ 217 61 [.ref 41, .int a0, .int a1, .int a2, .long y4_1336, pm_no, .int x6_1131, .int x7_1336] [.int z1386, .ref 54, .int z1366, .long y4_1336] _ _
                obtain ⟨f1389, e1390⟩ := T.2.2.2.1 54 (by decide) (by decide)
                refine rf_R_lld pm_M217 T (pc' := 62) rfl e1390 (by decide) (by decide) (sf_in B1388 (by decide) (by decide)) rfl (fun z1392 ez1393 => ?_)
                refine pm_R_lo pm_M217 (pc' := 63) rfl rfl rfl ?_
                refine rf_R_get pm_M217 T (pc' := 66) (v := .ref 54) rfl rfl rfl rfl ?_
                refine pm_R_lo pm_M217 (pc' := 67) rfl rfl rfl ?_
                refine pm_R_lo pm_M217 (pc' := 69) rfl rfl rfl ?_
                refine pm_R_op pm_M217 (pc' := 70) (st' := [.int 2, .int x6_1131, .ref 41, .ref 54, .long z1392, .int z1366, .long y4_1336]) rfl rfl rfl ?_
                refine pm_R_cv pm_M217 (pc' := 73) (a := 41) (ra := [.int 2, .int x6_1131]) (rest := [.ref 54, .long z1392, .int z1366, .long y4_1336]) (ls' := [.ref 41, .int x6_1131, .int 2]) rfl rfl (Or.inl rfl) pm_M210 T.2.1 rfl (by decide) (Nat.lt_of_lt_of_le (by decide) T.1) rfl rfl (Nat.le_of_ble_eq_true rfl) rfl rfl ?_
                refine pm_R_lo pm_M210 (pc' := 1) rfl rfl rfl ?_
                refine rf_R_get pm_M210 T (pc' := 4) (v := .ref 47) rfl rfl rfl rfl ?_
                refine pm_R_op pm_M210 (pc' := 6) (st' := [.int 100, .ref 47]) rfl rfl rfl ?_
                refine pm_R_lo pm_M210 (pc' := 7) rfl rfl rfl ?_
                refine rf_R_get pm_M210 T (pc' := 10) (v := .int (m 23)) rfl rfl rfl rfl ?_
                refine sf_R_imulV pm_M210 (pc' := 11) rfl rfl sf_k100 B1132 (by decide) (by decide) (by decide) e1134 ?_
                refine pm_R_op pm_M210 (pc' := 12) (st' := [.int 2, .int z1133, .ref 47]) rfl rfl rfl ?_
                refine sf_R_iaddV pm_M210 (pc' := 13) rfl rfl B1135 sf_k2 (by decide) (by decide) e1344 ?_
                refine pm_R_op pm_M210 (pc' := 14) (st' := [.int 4, .int z1343, .ref 47]) rfl rfl rfl ?_
                refine pm_R_lo pm_M210 (pc' := 15) rfl rfl rfl ?_
                refine sf_R_imulV pm_M210 (pc' := 16) rfl rfl sf_k4 B1144 (by decide) (by decide) (by decide) e1347 ?_
                refine sf_R_iaddV pm_M210 (pc' := 17) rfl rfl B1345 B1348 (by decide) (by decide) e1350 ?_
                refine pm_R_lo pm_M210 (pc' := 18) rfl rfl rfl ?_
                refine sf_R_iadd pm_M210 (pc' := 19) rfl rfl B1351 sf_k2 (by decide) (by decide) (fun z1394 e1395 B1396 => ?_)
                refine rf_R_ild pm_M210 T (pc' := 20) rfl e1137 (by decide) (sf_in B1396 (by decide) (by decide)) rfl (fun z1397 ez1398 => ?_)
                have e1399 : (z1394).toInt = 100 * ((m 23)).toInt + 4 * (x6_1131).toInt + 4 := (sf_aux6 _ _ _ _ _ _ _ e1134 e1344 e1347 e1350 e1395)
                have B1400 : sf_B 0 5 z1397 := ez1398 ▸ rf_p47r b1138 e1399 B1132 B1144 (by decide) (by decide) (by decide)
                refine pm_R_ret pm_M210 (r := some (.int z1397)) rfl (pm_ret_i _) ?_
                show pm_R _ 217 73 [.ref 41, .int a0, .int a1, .int a2, .long y4_1336, pm_no, .int x6_1131, .int x7_1336] [.int z1397, .ref 54, .long z1392, .int z1366, .long y4_1336] _ _
                refine pm_R_lo pm_M217 (pc' := 75) rfl rfl rfl ?_
                refine pm_R_op pm_M217 (pc' := 76) (st' := [.int 1, .int x7_1336, .int z1397, .ref 54, .long z1392, .int z1366, .long y4_1336]) rfl rfl rfl ?_
                refine sf_R_iadd pm_M217 (pc' := 77) rfl rfl B1341 sf_k1 (by decide) (by decide) (fun z1401 e1402 B1403 => ?_)
                refine pm_R_lo pm_M217 (pc' := 78) rfl rfl rfl ?_
                refine pm_R_cs pm_M217 (pc' := 81) (ra := [.int a2, .int z1401, .int z1397]) (rest := [.ref 54, .long z1392, .int z1366, .long y4_1336]) (ls' := [.int z1397, .int z1401, .int a2]) rfl rfl (Or.inl rfl) pm_M207 rfl rfl (Nat.le_of_ble_eq_true rfl) rfl rfl ?_
                refine pm_R_op pm_M207 (pc' := 3) (st' := [.int 144]) rfl rfl rfl ?_
                refine pm_R_lo pm_M207 (pc' := 4) rfl rfl rfl ?_
                refine sf_R_imul pm_M207 (pc' := 5) rfl rfl sf_k144 B1400 (by decide) (by decide) (by decide) (fun z1404 e1405 B1406 => ?_)
                refine pm_R_op pm_M207 (pc' := 7) (st' := [.int 12, .int z1404]) rfl rfl rfl ?_
                refine pm_R_lo pm_M207 (pc' := 8) rfl rfl rfl ?_
                refine sf_R_imul pm_M207 (pc' := 9) rfl rfl sf_k12 B1403 (by decide) (by decide) (by decide) (fun z1407 e1408 B1409 => ?_)
                refine sf_R_iadd pm_M207 (pc' := 10) rfl rfl B1406 B1409 (by decide) (by decide) (fun z1410 e1411 B1412 => ?_)
                refine pm_R_lo pm_M207 (pc' := 11) rfl rfl rfl ?_
                refine sf_R_iadd pm_M207 (pc' := 12) rfl rfl B1412 B1342 (by decide) (by decide) (fun z1413 e1414 B1415 => ?_)
                refine pm_R_ret pm_M207 (r := some (.int z1413)) rfl (pm_ret_i _) ?_
                show pm_R _ 217 81 [.ref 41, .int a0, .int a1, .int a2, .long y4_1336, pm_no, .int x6_1131, .int x7_1336] [.int z1413, .ref 54, .long z1392, .int z1366, .long y4_1336] _ _
                refine rf_R_lld pm_M217 T (pc' := 82) rfl e1390 (by decide) (by decide) (sf_in B1415 (by decide) (by decide)) rfl (fun z1416 ez1417 => ?_)
                refine pm_R_cs pm_M217 (pc' := 85) (ra := [.long z1416, .long z1392, .int z1366]) (rest := [.long y4_1336]) (ls' := [.int z1366, .long z1392, pm_no, .long z1416, pm_no, pm_no, pm_no, pm_no]) rfl rfl (Or.inl rfl) pm_M218 rfl rfl (Nat.le_of_ble_eq_true rfl) rfl rfl ?_
                refine rf_c218 (d := d + 0)  (fun r1418 => ?_)
                show pm_R _ 217 85 [.ref 41, .int a0, .int a1, .int a2, .long y4_1336, pm_no, .int x6_1131, .int x7_1336] [.long r1418, .long y4_1336] _ _
                refine sf_R_lany pm_M217 (pc' := 86) (st := []) rfl rfl rfl (fun z1426 => ?_)
                refine pm_R_lo pm_M217 (pc' := 88) (ls' := [.ref 41, .int a0, .int a1, .int a2, .long z1426, pm_no, .int x6_1131, .int x7_1336]) (st' := []) rfl rfl rfl ?_
                refine sf_R_iinc pm_M217 (pc' := 91) (ls' := fun z => [.ref 41, .int a0, .int a1, .int a2, .long z1426, pm_no, .int x6_1131, .int z]) rfl B1341 rfl (by decide) (by decide) (by decide) (fun _ => rfl) rfl (fun z1427 e1428 B1429 => ?_)
                show pm_R _ 217 91 [.ref 41, .int a0, .int a1, .int a2, .long z1426, pm_no, .int x6_1131, .int z1427] [] _ _
                refine pm_R_br pm_M217 (pc' := 18) rfl rfl ?_
                exact ih_1336 _ (sf_up hN_1336 e1428 B1341 (by decide) (by decide)) z1427 z1426 (sf_weak B1429 (by decide) (by decide)) rfl
        exact L_1336 _ a1 y4_1131 Ba1 rfl
  exact L_1131 _ 0 0 (pm_no) (sf_weak sf_k0 (by decide) (by decide)) rfl rfl

set_option maxRecDepth 100000 in
set_option maxHeartbeats 4000000 in
/-- SilentTableModel.countsOf -/
theorem rf_c208 {d : Nat} {m : Nat → Int32} {w : Int64} {h : pm_H} {Q : Option Value → pm_H → Prop} {a0 : Int32} {a1 : Int32} {a2 : Int32} (T : rf_T m w h) (Ba0 : sf_B 0 5 a0) (Ba1 : sf_B 0 11 a1) (Ba2 : sf_B 0 11 a2) (K : ∀ (r : Int64), lf_B 0 1000000000000 r → Q (some (.long r)) h) : pm_R (d + 3) 208 0 [.ref 41, .int a0, .int a1, .int a2, pm_no, pm_no, pm_no, pm_no] [] h Q := by
  refine pm_R_op pm_M208 (pc' := 1) (st' := [.long 0]) rfl rfl rfl ?_
  refine pm_R_lo pm_M208 (pc' := 3) (ls' := [.ref 41, .int a0, .int a1, .int a2, .long 0, pm_no, pm_no, pm_no]) (st' := []) rfl rfl rfl ?_
  refine pm_R_op pm_M208 (pc' := 4) (st' := [.int 0]) rfl rfl rfl ?_
  refine pm_R_lo pm_M208 (pc' := 6) (ls' := [.ref 41, .int a0, .int a1, .int a2, .long 0, pm_no, .int 0, pm_no]) (st' := []) rfl rfl rfl ?_
  have L_1164 : ∀ (N : Nat) (x6_1164 : Int32) (y4_1164 : Int64) (g7_1164 : Value), sf_B 0 10 x6_1164 → lf_B 0 1000000000000 y4_1164 → g7_1164.category = 1 → (10 - x6_1164.toInt).toNat = N → pm_R (d + 3) 208 6 [.ref 41, .int a0, .int a1, .int a2, .long y4_1164, pm_no, .int x6_1164, g7_1164] [] h Q := by
    intro N
    induction N using Nat.strongRecOn with
    | ind N ih_1164 =>
      intro x6_1164 y4_1164 g7_1164 Bx6_1164 By4_1164 Cg7_1164 hN_1164
      refine pm_R_lo pm_M208 (pc' := 8) rfl rfl rfl ?_
      refine pm_R_lo pm_M208 (pc' := 9) rfl rfl rfl ?_
      refine pm_R_cv pm_M208 (pc' := 12) (a := 41) (ra := []) (rest := [.int x6_1164]) (ls' := [.ref 41]) rfl rfl (Or.inl rfl) pm_M209 T.2.1 rfl (by decide) (Nat.lt_of_lt_of_le (by decide) T.1) rfl rfl (Nat.le_of_ble_eq_true rfl) rfl rfl ?_
      refine pm_R_lo pm_M209 (pc' := 1) rfl rfl rfl ?_
      refine rf_R_get pm_M209 T (pc' := 4) (v := .ref 47) rfl rfl rfl rfl ?_
      refine pm_R_op pm_M209 (pc' := 6) (st' := [.int 100, .ref 47]) rfl rfl rfl ?_
      refine pm_R_lo pm_M209 (pc' := 7) rfl rfl rfl ?_
      have B1165 : sf_B 0 1 (m 23) := T.2.2.1 23
      refine rf_R_get pm_M209 T (pc' := 10) (v := .int (m 23)) rfl rfl rfl rfl ?_
      refine sf_R_imul pm_M209 (pc' := 11) rfl rfl sf_k100 B1165 (by decide) (by decide) (by decide) (fun z1166 e1167 B1168 => ?_)
      obtain ⟨f1169, e1170, b1171⟩ := T.2.2.2.1 47 (by decide) (by decide)
      refine rf_R_ild pm_M209 T (pc' := 12) rfl e1170 (by decide) (sf_in B1168 (by decide) (by decide)) rfl (fun z1172 ez1173 => ?_)
      have e1174 : (z1166).toInt = 100 * ((m 23)).toInt + 0 := (sf_aux2 _ _ e1167)
      have B1175 : sf_B 0 10 z1172 := ez1173 ▸ rf_p47a b1171 e1174 B1165 (by decide)
      refine pm_R_ret pm_M209 (r := some (.int z1172)) rfl (pm_ret_i _) ?_
      show pm_R _ 208 12 [.ref 41, .int a0, .int a1, .int a2, .long y4_1164, pm_no, .int x6_1164, g7_1164] [.int z1172, .int x6_1164] _ _
      refine pm_R_icmp pm_M208 (t := 64) (pc' := 15) rfl rfl rfl (fun c1176 => ?_) (fun c1176 => ?_)
      · skip
        refine pm_R_lo pm_M208 (pc' := 66) rfl rfl rfl ?_
        exact pm_R_ret pm_M208 (r := some (.long y4_1164)) rfl rfl (K y4_1164 By4_1164)
      · have B1177 : sf_B 0 9 x6_1164 := sf_ltL (Int32.not_le.mp c1176) Bx6_1164 B1175
        have B1178 : sf_B 1 10 z1172 := sf_ltR (Int32.not_le.mp c1176) Bx6_1164 B1175
        refine pm_R_lo pm_M208 (pc' := 16) rfl rfl rfl ?_
        refine pm_R_lo pm_M208 (pc' := 18) (ls' := [.ref 41, .int a0, .int a1, .int a2, .long y4_1164, pm_no, .int x6_1164, .int a1]) (st' := []) rfl rfl rfl ?_
        have L_1375 : ∀ (N : Nat) (x7_1375 : Int32) (y4_1375 : Int64), sf_B 0 11 x7_1375 → lf_B 0 1000000000000 y4_1375 → (11 - x7_1375.toInt).toNat = N → pm_R (d + 3) 208 18 [.ref 41, .int a0, .int a1, .int a2, .long y4_1375, pm_no, .int x6_1164, .int x7_1375] [] h Q := by
          intro N
          induction N using Nat.strongRecOn with
          | ind N ih_1375 =>
            intro x7_1375 y4_1375 Bx7_1375 By4_1375 hN_1375
            refine pm_R_lo pm_M208 (pc' := 20) rfl rfl rfl ?_
            refine pm_R_lo pm_M208 (pc' := 21) rfl rfl rfl ?_
            refine pm_R_icmp pm_M208 (t := 58) (pc' := 24) rfl rfl rfl (fun c1376 => ?_) (fun c1376 => ?_)
            · skip
              refine sf_R_iinc pm_M208 (pc' := 61) (ls' := fun z => [.ref 41, .int a0, .int a1, .int a2, .long y4_1375, pm_no, .int z, .int x7_1375]) rfl B1177 rfl (by decide) (by decide) (by decide) (fun _ => rfl) rfl (fun z1377 e1378 B1379 => ?_)
              show pm_R _ 208 61 [.ref 41, .int a0, .int a1, .int a2, .long y4_1375, pm_no, .int z1377, .int x7_1375] [] _ _
              refine pm_R_br pm_M208 (pc' := 6) rfl rfl ?_
              exact ih_1164 _ (sf_up hN_1164 e1378 B1177 (by decide) (by decide)) z1377 y4_1375 (.int x7_1375) (sf_weak B1379 (by decide) (by decide)) By4_1375 rfl rfl
            · have B1380 : sf_B 0 10 x7_1375 := sf_ltL (Int32.not_le.mp c1376) Bx7_1375 Ba2
              have B1381 : sf_B 1 11 a2 := sf_ltR (Int32.not_le.mp c1376) Bx7_1375 Ba2
              refine pm_R_lo pm_M208 (pc' := 25) rfl rfl rfl ?_
              refine pm_R_lo pm_M208 (pc' := 27) rfl rfl rfl ?_
              refine pm_R_op pm_M208 (pc' := 28) (st' := [.int 0, .int x6_1164, .ref 41]) rfl rfl rfl ?_
              refine pm_R_cv pm_M208 (pc' := 31) (a := 41) (ra := [.int 0, .int x6_1164]) (rest := []) (ls' := [.ref 41, .int x6_1164, .int 0]) rfl rfl (Or.inl rfl) pm_M210 T.2.1 rfl (by decide) (Nat.lt_of_lt_of_le (by decide) T.1) rfl rfl (Nat.le_of_ble_eq_true rfl) rfl rfl ?_
              refine pm_R_lo pm_M210 (pc' := 1) rfl rfl rfl ?_
              refine rf_R_get pm_M210 T (pc' := 4) (v := .ref 47) rfl rfl rfl rfl ?_
              refine pm_R_op pm_M210 (pc' := 6) (st' := [.int 100, .ref 47]) rfl rfl rfl ?_
              refine pm_R_lo pm_M210 (pc' := 7) rfl rfl rfl ?_
              refine rf_R_get pm_M210 T (pc' := 10) (v := .int (m 23)) rfl rfl rfl rfl ?_
              refine sf_R_imulV pm_M210 (pc' := 11) rfl rfl sf_k100 B1165 (by decide) (by decide) (by decide) e1167 ?_
              refine pm_R_op pm_M210 (pc' := 12) (st' := [.int 2, .int z1166, .ref 47]) rfl rfl rfl ?_
              refine sf_R_iadd pm_M210 (pc' := 13) rfl rfl B1168 sf_k2 (by decide) (by decide) (fun z1382 e1383 B1384 => ?_)
              refine pm_R_op pm_M210 (pc' := 14) (st' := [.int 4, .int z1382, .ref 47]) rfl rfl rfl ?_
              refine pm_R_lo pm_M210 (pc' := 15) rfl rfl rfl ?_
              refine sf_R_imul pm_M210 (pc' := 16) rfl rfl sf_k4 B1177 (by decide) (by decide) (by decide) (fun z1385 e1386 B1387 => ?_)
              refine sf_R_iadd pm_M210 (pc' := 17) rfl rfl B1384 B1387 (by decide) (by decide) (fun z1388 e1389 B1390 => ?_)
              refine pm_R_lo pm_M210 (pc' := 18) rfl rfl rfl ?_
              refine sf_R_iadd pm_M210 (pc' := 19) rfl rfl B1390 sf_k0 (by decide) (by decide) (fun z1391 e1392 B1393 => ?_)
              refine rf_R_ild pm_M210 T (pc' := 20) rfl e1170 (by decide) (sf_in B1393 (by decide) (by decide)) rfl (fun z1394 ez1395 => ?_)
              have e1396 : (z1391).toInt = 100 * ((m 23)).toInt + 4 * (x6_1164).toInt + 2 := (sf_aux3 _ _ _ _ _ _ _ e1167 e1383 e1386 e1389 e1392)
              have B1397 : sf_B 0 5 z1394 := ez1395 ▸ rf_p47r b1171 e1396 B1165 B1177 (by decide) (by decide) (by decide)
              refine pm_R_ret pm_M210 (r := some (.int z1394)) rfl (pm_ret_i _) ?_
              show pm_R _ 208 31 [.ref 41, .int a0, .int a1, .int a2, .long y4_1375, pm_no, .int x6_1164, .int x7_1375] [.int z1394] _ _
              refine pm_R_lo pm_M208 (pc' := 32) rfl rfl rfl ?_
              refine pm_R_icmp pm_M208 (t := 58) (pc' := 35) rfl rfl rfl (fun c1398 => ?_) (fun c1398 => ?_)
              · skip
                refine sf_R_iinc pm_M208 (pc' := 61) (ls' := fun z => [.ref 41, .int a0, .int a1, .int a2, .long y4_1375, pm_no, .int z, .int x7_1375]) rfl B1177 rfl (by decide) (by decide) (by decide) (fun _ => rfl) rfl (fun z1399 e1400 B1401 => ?_)
                show pm_R _ 208 61 [.ref 41, .int a0, .int a1, .int a2, .long y4_1375, pm_no, .int z1399, .int x7_1375] [] _ _
                refine pm_R_br pm_M208 (pc' := 6) rfl rfl ?_
                exact ih_1164 _ (sf_up hN_1164 e1400 B1177 (by decide) (by decide)) z1399 y4_1375 (.int x7_1375) (sf_weak B1401 (by decide) (by decide)) By4_1375 rfl rfl
              · refine pm_R_lo pm_M208 (pc' := 37) rfl rfl rfl ?_
                refine pm_R_lo pm_M208 (pc' := 38) rfl rfl rfl ?_
                refine pm_R_lo pm_M208 (pc' := 40) rfl rfl rfl ?_
                refine pm_R_lo pm_M208 (pc' := 41) rfl rfl rfl ?_
                refine pm_R_lo pm_M208 (pc' := 43) rfl rfl rfl ?_
                refine pm_R_lo pm_M208 (pc' := 44) rfl rfl rfl ?_
                refine pm_R_cv pm_M208 (pc' := 47) (a := 41) (ra := [.int a2, .int x7_1375, .int a1, .int x6_1164]) (rest := [.long y4_1375]) (ls' := [.ref 41, .int x6_1164, .int a1, .int x7_1375, .int a2]) rfl rfl (Or.inl rfl) pm_M211 T.2.1 rfl (by decide) (Nat.lt_of_lt_of_le (by decide) T.1) rfl rfl (Nat.le_of_ble_eq_true rfl) rfl rfl ?_
                refine pm_R_lo pm_M211 (pc' := 1) rfl rfl rfl ?_
                refine rf_R_get pm_M211 T (pc' := 4) (v := .ref 55) rfl rfl rfl rfl ?_
                refine pm_R_lo pm_M211 (pc' := 5) rfl rfl rfl ?_
                refine pm_R_lo pm_M211 (pc' := 6) rfl rfl rfl ?_
                refine pm_R_op pm_M211 (pc' := 7) (st' := [.int 1, .int x6_1164, .ref 41, .ref 55]) rfl rfl rfl ?_
                refine pm_R_cv pm_M211 (pc' := 10) (a := 41) (ra := [.int 1, .int x6_1164]) (rest := [.ref 55]) (ls' := [.ref 41, .int x6_1164, .int 1]) rfl rfl (Or.inl rfl) pm_M210 T.2.1 rfl (by decide) (Nat.lt_of_lt_of_le (by decide) T.1) rfl rfl (Nat.le_of_ble_eq_true rfl) rfl rfl ?_
                refine pm_R_lo pm_M210 (pc' := 1) rfl rfl rfl ?_
                refine rf_R_get pm_M210 T (pc' := 4) (v := .ref 47) rfl rfl rfl rfl ?_
                refine pm_R_op pm_M210 (pc' := 6) (st' := [.int 100, .ref 47]) rfl rfl rfl ?_
                refine pm_R_lo pm_M210 (pc' := 7) rfl rfl rfl ?_
                refine rf_R_get pm_M210 T (pc' := 10) (v := .int (m 23)) rfl rfl rfl rfl ?_
                refine sf_R_imulV pm_M210 (pc' := 11) rfl rfl sf_k100 B1165 (by decide) (by decide) (by decide) e1167 ?_
                refine pm_R_op pm_M210 (pc' := 12) (st' := [.int 2, .int z1166, .ref 47]) rfl rfl rfl ?_
                refine sf_R_iaddV pm_M210 (pc' := 13) rfl rfl B1168 sf_k2 (by decide) (by decide) e1383 ?_
                refine pm_R_op pm_M210 (pc' := 14) (st' := [.int 4, .int z1382, .ref 47]) rfl rfl rfl ?_
                refine pm_R_lo pm_M210 (pc' := 15) rfl rfl rfl ?_
                refine sf_R_imulV pm_M210 (pc' := 16) rfl rfl sf_k4 B1177 (by decide) (by decide) (by decide) e1386 ?_
                refine sf_R_iaddV pm_M210 (pc' := 17) rfl rfl B1384 B1387 (by decide) (by decide) e1389 ?_
                refine pm_R_lo pm_M210 (pc' := 18) rfl rfl rfl ?_
                refine sf_R_iadd pm_M210 (pc' := 19) rfl rfl B1390 sf_k1 (by decide) (by decide) (fun z1402 e1403 B1404 => ?_)
                refine rf_R_ild pm_M210 T (pc' := 20) rfl e1170 (by decide) (sf_in B1404 (by decide) (by decide)) rfl (fun z1405 ez1406 => ?_)
                have e1407 : (z1402).toInt = 100 * ((m 23)).toInt + 4 * (x6_1164).toInt + 3 := (sf_aux5 _ _ _ _ _ _ _ e1167 e1383 e1386 e1389 e1403)
                have B1408 : sf_B 0 5 z1405 := ez1406 ▸ rf_p47r b1171 e1407 B1165 B1177 (by decide) (by decide) (by decide)
                refine pm_R_ret pm_M210 (r := some (.int z1405)) rfl (pm_ret_i _) ?_
                show pm_R _ 211 10 [.ref 41, .int x6_1164, .int a1, .int x7_1375, .int a2] [.int z1405, .ref 55] _ _
                refine pm_R_lo pm_M211 (pc' := 11) rfl rfl rfl ?_
                refine pm_R_lo pm_M211 (pc' := 12) rfl rfl rfl ?_
                refine pm_R_cs pm_M211 (pc' := 15) (ra := [.int x7_1375, .int a1, .int z1405]) (rest := [.ref 55]) (ls' := [.int z1405, .int a1, .int x7_1375]) rfl rfl (Or.inl rfl) pm_M207 rfl rfl (Nat.le_of_ble_eq_true rfl) rfl rfl ?_
                refine pm_R_op pm_M207 (pc' := 3) (st' := [.int 144]) rfl rfl rfl ?_
                refine pm_R_lo pm_M207 (pc' := 4) rfl rfl rfl ?_
                refine sf_R_imul pm_M207 (pc' := 5) rfl rfl sf_k144 B1408 (by decide) (by decide) (by decide) (fun z1409 e1410 B1411 => ?_)
                refine pm_R_op pm_M207 (pc' := 7) (st' := [.int 12, .int z1409]) rfl rfl rfl ?_
                refine pm_R_lo pm_M207 (pc' := 8) rfl rfl rfl ?_
                refine sf_R_imul pm_M207 (pc' := 9) rfl rfl sf_k12 Ba1 (by decide) (by decide) (by decide) (fun z1412 e1413 B1414 => ?_)
                refine sf_R_iadd pm_M207 (pc' := 10) rfl rfl B1411 B1414 (by decide) (by decide) (fun z1415 e1416 B1417 => ?_)
                refine pm_R_lo pm_M207 (pc' := 11) rfl rfl rfl ?_
                refine sf_R_iadd pm_M207 (pc' := 12) rfl rfl B1417 B1380 (by decide) (by decide) (fun z1418 e1419 B1420 => ?_)
                refine pm_R_ret pm_M207 (r := some (.int z1418)) rfl (pm_ret_i _) ?_
                show pm_R _ 211 15 [.ref 41, .int x6_1164, .int a1, .int x7_1375, .int a2] [.int z1418, .ref 55] _ _
                obtain ⟨f1421, e1422, b1423⟩ := T.2.2.2.1 55 (by decide) (by decide)
                refine rf_R_lld pm_M211 T (pc' := 16) rfl e1422 (by decide) (by decide) (sf_in B1420 (by decide) (by decide)) rfl (fun z1424 ez1425 => ?_)
                have B1426 : lf_B 0 1000000000000 z1424 := ez1425 ▸ b1423 _
                refine pm_R_lo pm_M211 (pc' := 17) rfl rfl rfl ?_
                refine rf_R_get pm_M211 T (pc' := 20) (v := .ref 55) rfl rfl rfl rfl ?_
                refine pm_R_lo pm_M211 (pc' := 21) rfl rfl rfl ?_
                refine pm_R_lo pm_M211 (pc' := 22) rfl rfl rfl ?_
                refine pm_R_op pm_M211 (pc' := 23) (st' := [.int 2, .int x6_1164, .ref 41, .ref 55, .long z1424]) rfl rfl rfl ?_
                refine pm_R_cv pm_M211 (pc' := 26) (a := 41) (ra := [.int 2, .int x6_1164]) (rest := [.ref 55, .long z1424]) (ls' := [.ref 41, .int x6_1164, .int 2]) rfl rfl (Or.inl rfl) pm_M210 T.2.1 rfl (by decide) (Nat.lt_of_lt_of_le (by decide) T.1) rfl rfl (Nat.le_of_ble_eq_true rfl) rfl rfl ?_
                refine pm_R_lo pm_M210 (pc' := 1) rfl rfl rfl ?_
                refine rf_R_get pm_M210 T (pc' := 4) (v := .ref 47) rfl rfl rfl rfl ?_
                refine pm_R_op pm_M210 (pc' := 6) (st' := [.int 100, .ref 47]) rfl rfl rfl ?_
                refine pm_R_lo pm_M210 (pc' := 7) rfl rfl rfl ?_
                refine rf_R_get pm_M210 T (pc' := 10) (v := .int (m 23)) rfl rfl rfl rfl ?_
                refine sf_R_imulV pm_M210 (pc' := 11) rfl rfl sf_k100 B1165 (by decide) (by decide) (by decide) e1167 ?_
                refine pm_R_op pm_M210 (pc' := 12) (st' := [.int 2, .int z1166, .ref 47]) rfl rfl rfl ?_
                refine sf_R_iaddV pm_M210 (pc' := 13) rfl rfl B1168 sf_k2 (by decide) (by decide) e1383 ?_
                refine pm_R_op pm_M210 (pc' := 14) (st' := [.int 4, .int z1382, .ref 47]) rfl rfl rfl ?_
                refine pm_R_lo pm_M210 (pc' := 15) rfl rfl rfl ?_
                refine sf_R_imulV pm_M210 (pc' := 16) rfl rfl sf_k4 B1177 (by decide) (by decide) (by decide) e1386 ?_
                refine sf_R_iaddV pm_M210 (pc' := 17) rfl rfl B1384 B1387 (by decide) (by decide) e1389 ?_
                refine pm_R_lo pm_M210 (pc' := 18) rfl rfl rfl ?_
                refine sf_R_iadd pm_M210 (pc' := 19) rfl rfl B1390 sf_k2 (by decide) (by decide) (fun z1427 e1428 B1429 => ?_)
                refine rf_R_ild pm_M210 T (pc' := 20) rfl e1170 (by decide) (sf_in B1429 (by decide) (by decide)) rfl (fun z1430 ez1431 => ?_)
                have e1432 : (z1427).toInt = 100 * ((m 23)).toInt + 4 * (x6_1164).toInt + 4 := (sf_aux6 _ _ _ _ _ _ _ e1167 e1383 e1386 e1389 e1428)
                have B1433 : sf_B 0 5 z1430 := ez1431 ▸ rf_p47r b1171 e1432 B1165 B1177 (by decide) (by decide) (by decide)
                refine pm_R_ret pm_M210 (r := some (.int z1430)) rfl (pm_ret_i _) ?_
                show pm_R _ 211 26 [.ref 41, .int x6_1164, .int a1, .int x7_1375, .int a2] [.int z1430, .ref 55, .long z1424] _ _
                refine pm_R_lo pm_M211 (pc' := 27) rfl rfl rfl ?_
                refine pm_R_op pm_M211 (pc' := 28) (st' := [.int 1, .int x7_1375, .int z1430, .ref 55, .long z1424]) rfl rfl rfl ?_
                refine sf_R_iadd pm_M211 (pc' := 29) rfl rfl B1380 sf_k1 (by decide) (by decide) (fun z1434 e1435 B1436 => ?_)
                refine pm_R_lo pm_M211 (pc' := 31) rfl rfl rfl ?_
                refine pm_R_cs pm_M211 (pc' := 34) (ra := [.int a2, .int z1434, .int z1430]) (rest := [.ref 55, .long z1424]) (ls' := [.int z1430, .int z1434, .int a2]) rfl rfl (Or.inl rfl) pm_M207 rfl rfl (Nat.le_of_ble_eq_true rfl) rfl rfl ?_
                refine pm_R_op pm_M207 (pc' := 3) (st' := [.int 144]) rfl rfl rfl ?_
                refine pm_R_lo pm_M207 (pc' := 4) rfl rfl rfl ?_
                refine sf_R_imul pm_M207 (pc' := 5) rfl rfl sf_k144 B1433 (by decide) (by decide) (by decide) (fun z1437 e1438 B1439 => ?_)
                refine pm_R_op pm_M207 (pc' := 7) (st' := [.int 12, .int z1437]) rfl rfl rfl ?_
                refine pm_R_lo pm_M207 (pc' := 8) rfl rfl rfl ?_
                refine sf_R_imul pm_M207 (pc' := 9) rfl rfl sf_k12 B1436 (by decide) (by decide) (by decide) (fun z1440 e1441 B1442 => ?_)
                refine sf_R_iadd pm_M207 (pc' := 10) rfl rfl B1439 B1442 (by decide) (by decide) (fun z1443 e1444 B1445 => ?_)
                refine pm_R_lo pm_M207 (pc' := 11) rfl rfl rfl ?_
                refine sf_R_iadd pm_M207 (pc' := 12) rfl rfl B1445 B1381 (by decide) (by decide) (fun z1446 e1447 B1448 => ?_)
                refine pm_R_ret pm_M207 (r := some (.int z1446)) rfl (pm_ret_i _) ?_
                show pm_R _ 211 34 [.ref 41, .int x6_1164, .int a1, .int x7_1375, .int a2] [.int z1446, .ref 55, .long z1424] _ _
                refine rf_R_lld pm_M211 T (pc' := 35) rfl e1422 (by decide) (by decide) (sf_in B1448 (by decide) (by decide)) rfl (fun z1449 ez1450 => ?_)
                have B1451 : lf_B 0 1000000000000 z1449 := ez1450 ▸ b1423 _
                refine pm_R_cs pm_M211 (pc' := 38) (ra := [.long z1449, .long z1424]) (rest := []) (ls' := [.long z1424, pm_no, .long z1449, pm_no]) rfl rfl (Or.inl rfl) pm_M212 rfl rfl (Nat.le_of_ble_eq_true rfl) rfl rfl ?_
                refine rf_c212 (d := d + 0) B1426 B1451 (fun r1452 X1460 B1453 => ?_)
                show pm_R _ 211 38 [.ref 41, .int x6_1164, .int a1, .int x7_1375, .int a2] [.long r1452] _ _
                refine pm_R_ret pm_M211 (r := some (.long r1452)) rfl rfl ?_
                show pm_R _ 208 47 [.ref 41, .int a0, .int a1, .int a2, .long y4_1375, pm_no, .int x6_1164, .int x7_1375] [.long r1452, .long y4_1375] _ _
                refine pm_R_cs pm_M208 (pc' := 50) (ra := [.long r1452, .long y4_1375]) (rest := []) (ls' := [.long y4_1375, pm_no, .long r1452, pm_no]) rfl rfl (Or.inl rfl) pm_M213 rfl rfl (Nat.le_of_ble_eq_true rfl) rfl rfl ?_
                refine rf_c213 (d := d + 2) By4_1375 B1453 (fun r1461 B1462 => ?_)
                show pm_R _ 208 50 [.ref 41, .int a0, .int a1, .int a2, .long y4_1375, pm_no, .int x6_1164, .int x7_1375] [.long r1461] _ _
                refine pm_R_lo pm_M208 (pc' := 52) (ls' := [.ref 41, .int a0, .int a1, .int a2, .long r1461, pm_no, .int x6_1164, .int x7_1375]) (st' := []) rfl rfl rfl ?_
                refine sf_R_iinc pm_M208 (pc' := 55) (ls' := fun z => [.ref 41, .int a0, .int a1, .int a2, .long r1461, pm_no, .int x6_1164, .int z]) rfl B1380 rfl (by decide) (by decide) (by decide) (fun _ => rfl) rfl (fun z1469 e1470 B1471 => ?_)
                show pm_R _ 208 55 [.ref 41, .int a0, .int a1, .int a2, .long r1461, pm_no, .int x6_1164, .int z1469] [] _ _
                refine pm_R_br pm_M208 (pc' := 18) rfl rfl ?_
                exact ih_1375 _ (sf_up hN_1375 e1470 B1380 (by decide) (by decide)) z1469 r1461 (sf_weak B1471 (by decide) (by decide)) B1462 rfl
        exact L_1375 _ a1 y4_1164 Ba1 By4_1164 rfl
  exact L_1164 _ 0 0 (pm_no) (sf_weak sf_k0 (by decide) (by decide)) (lf_weak (⟨by decide, by decide⟩ : lf_B 0 0 0) (by decide) (by decide)) rfl rfl

theorem sf_aux7 (v0 v1 v2 : Int) (q0 : v0 = 100 * v1) (q1 : v2 = v0 + 1) : v2 = 100 * v1 + 1 := by omega
theorem sf_aux8 (v0 v1 v2 v3 v4 v5 v6 : Int) (q0 : v0 = 100 * v1) (q1 : v2 = v0 + 42) (q2 : v3 = 3 * v4) (q3 : v5 = v2 + v3) (q4 : v6 = v5 + 0) : v6 = 100 * v1 + 3 * v4 + 42 := by omega
theorem sf_aux9 (v0 v1 v2 v3 v4 v5 v6 : Int) (q0 : v0 = 100 * v1) (q1 : v2 = v0 + 42) (q2 : v3 = 3 * v4) (q3 : v5 = v2 + v3) (q4 : v6 = v5 + 1) : v6 = 100 * v1 + 3 * v4 + 43 := by omega
theorem sf_aux10 (v0 v1 v2 v3 v4 v5 v6 : Int) (q0 : v0 = 100 * v1) (q1 : v2 = v0 + 42) (q2 : v3 = 3 * v4) (q3 : v5 = v2 + v3) (q4 : v6 = v5 + 2) : v6 = 100 * v1 + 3 * v4 + 44 := by omega
set_option maxRecDepth 100000 in
set_option maxHeartbeats 4000000 in
/-- SilentTableModel.findValues -/
theorem rf_c216 {d : Nat} {m : Nat → Int32} {w : Int64} {h : pm_H} {Q : Option Value → pm_H → Prop}  (T : rf_T m w h)  (K : ∀ (m' : Nat → Int32) (w' : Int64) (h' : pm_H), rf_T m' w' h' → rf_G [54] h h' → rf_W [] m m' → Q none h') : pm_R (d + 4) 216 0 [.ref 41, pm_no, pm_no, pm_no, pm_no, pm_no] [] h Q := by
  refine pm_R_op pm_M216 (pc' := 1) (st' := [.int 0]) rfl rfl rfl ?_
  refine pm_R_lo pm_M216 (pc' := 2) (ls' := [.ref 41, .int 0, pm_no, pm_no, pm_no, pm_no]) (st' := []) rfl rfl rfl ?_
  have L_40286 : ∀ (N : Nat) (h_40286 : pm_H) (m_40286 : Nat → Int32) (w_40286 : Int64) (x1_40286 : Int32) (g2_40286 : Value) (g3_40286 : Value) (g4_40286 : Value) (g5_40286 : Value), rf_T m_40286 w_40286 h_40286 → rf_G [54] h h_40286 → rf_W [] m m_40286 → sf_B 0 6 x1_40286 → g2_40286.category = 1 → g4_40286.category = 1 → g5_40286.category = 1 → (6 - x1_40286.toInt).toNat = N → pm_R (d + 4) 216 2 [.ref 41, .int x1_40286, g2_40286, g3_40286, g4_40286, g5_40286] [] h_40286 Q := by
    intro N
    induction N using Nat.strongRecOn with
    | ind N ih_40286 =>
      intro h_40286 m_40286 w_40286 x1_40286 g2_40286 g3_40286 g4_40286 g5_40286 T_40286 F_40286 W_40286 Bx1_40286 Cg2_40286 Cg4_40286 Cg5_40286 hN_40286
      have W40289 : rf_W [] m m_40286 := (rf_W.refl [] m).trans W_40286 (by decide)
      refine pm_R_lo pm_M216 (pc' := 3) rfl rfl rfl ?_
      refine pm_R_op pm_M216 (pc' := 5) (st' := [.int 6, .int x1_40286]) rfl rfl rfl ?_
      refine pm_R_icmp pm_M216 (t := 99) (pc' := 8) rfl rfl rfl (fun c40290 => ?_) (fun c40290 => ?_)
      · have B40291 : sf_B 6 6 x1_40286 := sf_leR c40290 sf_k6 Bx1_40286
        refine pm_R_op pm_M216 (pc' := 100) (st' := [.int 1]) rfl rfl rfl ?_
        refine pm_R_lo pm_M216 (pc' := 101) (ls' := [.ref 41, .int 1, g2_40286, g3_40286, g4_40286, g5_40286]) (st' := []) rfl rfl rfl ?_
        have L_45292 : ∀ (N : Nat) (h_45292 : pm_H) (m_45292 : Nat → Int32) (w_45292 : Int64) (x1_45292 : Int32) (g2_45292 : Value) (g3_45292 : Value), rf_T m_45292 w_45292 h_45292 → rf_G [54] h h_45292 → rf_W [] m_40286 m_45292 → sf_B 1 12 x1_45292 → g2_45292.category = 1 → (12 - x1_45292.toInt).toNat = N → pm_R (d + 4) 216 101 [.ref 41, .int x1_45292, g2_45292, g3_45292, g4_40286, g5_40286] [] h_45292 Q := by
          intro N
          induction N using Nat.strongRecOn with
          | ind N ih_45292 =>
            intro h_45292 m_45292 w_45292 x1_45292 g2_45292 g3_45292 T_45292 F_45292 W_45292 Bx1_45292 Cg2_45292 hN_45292
            have W45295 : rf_W [] m m_45292 := W40289.trans W_45292 (by decide)
            have W45296 : rf_W [] m m_45292 := W_40286.trans W_45292 (by decide)
            refine pm_R_lo pm_M216 (pc' := 102) rfl rfl rfl ?_
            refine pm_R_lo pm_M216 (pc' := 103) rfl rfl rfl ?_
            have B45297 : sf_B 0 12 (m_45292 24) := T_45292.2.2.1 24
            refine rf_R_get pm_M216 T_45292 (pc' := 106) (v := .int (m_45292 24)) rfl rfl rfl rfl ?_
            refine pm_R_icmp pm_M216 (t := 169) (pc' := 109) (pm_q216_1 (Nat.le_of_ble_eq_true rfl)) rfl rfl (fun c45298 => ?_) (fun c45298 => ?_)
            · skip
              exact pm_R_ret pm_M216 (r := none) (pm_q216_1 (Nat.le_of_ble_eq_true rfl)) rfl (K m_45292 w_45292 h_45292 T_45292 F_45292 W45295)
            · have B45299 : sf_B 1 11 x1_45292 := sf_ltL (Int32.not_le.mp c45298) Bx1_45292 B45297
              have B45300 : sf_B 2 12 (m_45292 24) := sf_ltR (Int32.not_le.mp c45298) Bx1_45292 B45297
              refine pm_R_op pm_M216 (pc' := 110) (st' := [.int 0]) (pm_q216_1 (Nat.le_of_ble_eq_true rfl)) rfl rfl ?_
              refine pm_R_lo pm_M216 (pc' := 111) (ls' := [.ref 41, .int x1_45292, .int 0, g3_45292, g4_40286, g5_40286]) (st' := []) (pm_q216_1 (Nat.le_of_ble_eq_true rfl)) rfl rfl ?_
              have L_46293 : ∀ (N : Nat) (h_46293 : pm_H) (m_46293 : Nat → Int32) (w_46293 : Int64) (x2_46293 : Int32) (g3_46293 : Value), rf_T m_46293 w_46293 h_46293 → rf_G [54] h h_46293 → rf_W [] m_45292 m_46293 → sf_B 0 11 x2_46293 → (11 - x2_46293.toInt).toNat = N → pm_R (d + 4) 216 111 [.ref 41, .int x1_45292, .int x2_46293, g3_46293, g4_40286, g5_40286] [] h_46293 Q := by
                intro N
                induction N using Nat.strongRecOn with
                | ind N ih_46293 =>
                  intro h_46293 m_46293 w_46293 x2_46293 g3_46293 T_46293 F_46293 W_46293 Bx2_46293 hN_46293
                  have B46296 : sf_B 2 12 (m_46293 24) := by rw [W_46293 24 (by decide)]; exact B45300
                  have W46297 : rf_W [] m m_46293 := W45295.trans W_46293 (by decide)
                  have W46298 : rf_W [] m m_46293 := W45296.trans W_46293 (by decide)
                  have W46299 : rf_W [] m_40286 m_46293 := W_45292.trans W_46293 (by decide)
                  refine pm_R_lo pm_M216 (pc' := 112) (pm_q216_1 (Nat.le_of_ble_eq_true rfl)) rfl rfl ?_
                  refine pm_R_lo pm_M216 (pc' := 113) (pm_q216_1 (Nat.le_of_ble_eq_true rfl)) rfl rfl ?_
                  refine sf_R_iadd pm_M216 (pc' := 114) (pm_q216_1 (Nat.le_of_ble_eq_true rfl)) rfl Bx2_46293 B45299 (by decide) (by decide) (fun z46300 e46301 B46302 => ?_)
                  refine pm_R_lo pm_M216 (pc' := 115) (pm_q216_1 (Nat.le_of_ble_eq_true rfl)) rfl rfl ?_
                  refine rf_R_get pm_M216 T_46293 (pc' := 118) (v := .int (m_46293 24)) (pm_q216_1 (Nat.le_of_ble_eq_true rfl)) rfl rfl rfl ?_
                  refine pm_R_icmp pm_M216 (t := 163) (pc' := 121) (pm_q216_1 (Nat.le_of_ble_eq_true rfl)) rfl rfl (fun c46303 => ?_) (fun c46303 => ?_)
                  · have B46304 : sf_B 2 22 z46300 := sf_leR c46303 B46296 B46302
                    refine sf_R_iinc pm_M216 (pc' := 166) (ls' := fun z => [.ref 41, .int z, .int x2_46293, g3_46293, g4_40286, g5_40286]) (pm_q216_1 (Nat.le_of_ble_eq_true rfl)) B45299 rfl (by decide) (by decide) (by decide) (fun _ => rfl) rfl (fun z46305 e46306 B46307 => ?_)
                    show pm_R _ 216 166 [.ref 41, .int z46305, .int x2_46293, g3_46293, g4_40286, g5_40286] [] _ _
                    refine pm_R_br pm_M216 (pc' := 101) (pm_q216_1 (Nat.le_of_ble_eq_true rfl)) rfl ?_
                    exact ih_45292 _ (sf_up hN_45292 e46306 B45299 (by decide) (by decide)) h_46293 m_46293 w_46293 z46305 (.int x2_46293) (g3_46293) T_46293 F_46293 W46299 (sf_weak B46307 (by decide) (by decide)) rfl rfl
                  · have B46308 : sf_B 1 11 z46300 := sf_ltL (Int32.not_le.mp c46303) B46302 B46296
                    have B46309 : sf_B 0 10 x2_46293 := sf_addL e46301 B46308 B45299 Bx2_46293
                    refine pm_R_op pm_M216 (pc' := 122) (st' := [.int 0]) (pm_q216_1 (Nat.le_of_ble_eq_true rfl)) rfl rfl ?_
                    refine pm_R_lo pm_M216 (pc' := 123) (ls' := [.ref 41, .int x1_45292, .int x2_46293, .int 0, g4_40286, g5_40286]) (st' := []) (pm_q216_1 (Nat.le_of_ble_eq_true rfl)) rfl rfl ?_
                    have L_46495 : ∀ (N : Nat) (h_46495 : pm_H) (m_46495 : Nat → Int32) (w_46495 : Int64) (x3_46495 : Int32), rf_T m_46495 w_46495 h_46495 → rf_G [54] h h_46495 → rf_W [] m_46293 m_46495 → sf_B 0 6 x3_46495 → (6 - x3_46495.toInt).toNat = N → pm_R (d + 4) 216 123 [.ref 41, .int x1_45292, .int x2_46293, .int x3_46495, g4_40286, g5_40286] [] h_46495 Q := by
                      intro N
                      induction N using Nat.strongRecOn with
                      | ind N ih_46495 =>
                        intro h_46495 m_46495 w_46495 x3_46495 T_46495 F_46495 W_46495 Bx3_46495 hN_46495
                        have B46498 : sf_B 2 12 (m_46495 24) := by rw [W_46495 24 (by decide)]; exact B46296
                        have W46499 : rf_W [] m m_46495 := W46297.trans W_46495 (by decide)
                        have W46500 : rf_W [] m m_46495 := W46298.trans W_46495 (by decide)
                        have W46501 : rf_W [] m_40286 m_46495 := W46299.trans W_46495 (by decide)
                        have W46502 : rf_W [] m_45292 m_46495 := W_46293.trans W_46495 (by decide)
                        refine pm_R_lo pm_M216 (pc' := 124) (pm_q216_1 (Nat.le_of_ble_eq_true rfl)) rfl rfl ?_
                        refine pm_R_op pm_M216 (pc' := 126) (st' := [.int 6, .int x3_46495]) (pm_q216_1 (Nat.le_of_ble_eq_true rfl)) rfl rfl ?_
                        refine pm_R_icmp pm_M216 (t := 157) (pc' := 129) (pm_q216_1 (Nat.le_of_ble_eq_true rfl)) rfl rfl (fun c46503 => ?_) (fun c46503 => ?_)
                        · have B46504 : sf_B 6 6 x3_46495 := sf_leR c46503 sf_k6 Bx3_46495
                          refine sf_R_iinc pm_M216 (pc' := 160) (ls' := fun z => [.ref 41, .int x1_45292, .int z, .int x3_46495, g4_40286, g5_40286]) (pm_q216_1 (Nat.le_of_ble_eq_true rfl)) B46309 rfl (by decide) (by decide) (by decide) (fun _ => rfl) rfl (fun z46505 e46506 B46507 => ?_)
                          show pm_R _ 216 160 [.ref 41, .int x1_45292, .int z46505, .int x3_46495, g4_40286, g5_40286] [] _ _
                          refine pm_R_br pm_M216 (pc' := 111) (pm_q216_1 (Nat.le_of_ble_eq_true rfl)) rfl ?_
                          exact ih_46293 _ (sf_up hN_46293 e46506 B46309 (by decide) (by decide)) h_46495 m_46495 w_46495 z46505 (.int x3_46495) T_46495 F_46495 W46502 (sf_weak B46507 (by decide) (by decide)) rfl
                        · have B46508 : sf_B 0 5 x3_46495 := sf_ltL (Int32.not_le.mp c46503) Bx3_46495 sf_k6
                          refine pm_R_lo pm_M216 (pc' := 130) (pm_q216_1 (Nat.le_of_ble_eq_true rfl)) rfl rfl ?_
                          refine rf_R_get pm_M216 T_46495 (pc' := 133) (v := .ref 54) (pm_q216_1 (Nat.le_of_ble_eq_true rfl)) rfl rfl rfl ?_
                          refine pm_R_lo pm_M216 (pc' := 134) (pm_q216_1 (Nat.le_of_ble_eq_true rfl)) rfl rfl ?_
                          refine pm_R_lo pm_M216 (pc' := 135) (pm_q216_1 (Nat.le_of_ble_eq_true rfl)) rfl rfl ?_
                          refine pm_R_lo pm_M216 (pc' := 136) (pm_q216_1 (Nat.le_of_ble_eq_true rfl)) rfl rfl ?_
                          refine pm_R_lo pm_M216 (pc' := 137) (pm_q216_1 (Nat.le_of_ble_eq_true rfl)) rfl rfl ?_
                          refine sf_R_iaddV pm_M216 (pc' := 138) (pm_q216_1 (Nat.le_of_ble_eq_true rfl)) rfl Bx2_46293 B45299 (by decide) (by decide) e46301 ?_
                          refine pm_R_cs pm_M216 (pc' := 141) (ra := [.int z46300, .int x2_46293, .int x3_46495]) (rest := [.ref 54]) (ls' := [.int x3_46495, .int x2_46293, .int z46300]) (pm_q216_1 (Nat.le_of_ble_eq_true rfl)) rfl (Or.inl rfl) pm_M207 rfl rfl (Nat.le_of_ble_eq_true rfl) rfl rfl ?_
                          refine pm_R_op pm_M207 (pc' := 3) (st' := [.int 144]) rfl rfl rfl ?_
                          refine pm_R_lo pm_M207 (pc' := 4) rfl rfl rfl ?_
                          refine sf_R_imul pm_M207 (pc' := 5) rfl rfl sf_k144 B46508 (by decide) (by decide) (by decide) (fun z46509 e46510 B46511 => ?_)
                          refine pm_R_op pm_M207 (pc' := 7) (st' := [.int 12, .int z46509]) rfl rfl rfl ?_
                          refine pm_R_lo pm_M207 (pc' := 8) rfl rfl rfl ?_
                          refine sf_R_imul pm_M207 (pc' := 9) rfl rfl sf_k12 B46309 (by decide) (by decide) (by decide) (fun z46512 e46513 B46514 => ?_)
                          refine sf_R_iadd pm_M207 (pc' := 10) rfl rfl B46511 B46514 (by decide) (by decide) (fun z46515 e46516 B46517 => ?_)
                          refine pm_R_lo pm_M207 (pc' := 11) rfl rfl rfl ?_
                          refine sf_R_iadd pm_M207 (pc' := 12) rfl rfl B46517 B46308 (by decide) (by decide) (fun z46518 e46519 B46520 => ?_)
                          refine pm_R_ret pm_M207 (r := some (.int z46518)) rfl (pm_ret_i _) ?_
                          show pm_R _ 216 141 [.ref 41, .int x1_45292, .int x2_46293, .int x3_46495, g4_40286, g5_40286] [.int z46518, .ref 54] _ _
                          refine pm_R_lo pm_M216 (pc' := 142) (pm_q216_1 (Nat.le_of_ble_eq_true rfl)) rfl rfl ?_
                          refine pm_R_lo pm_M216 (pc' := 143) (pm_q216_1 (Nat.le_of_ble_eq_true rfl)) rfl rfl ?_
                          refine pm_R_lo pm_M216 (pc' := 144) (pm_q216_1 (Nat.le_of_ble_eq_true rfl)) rfl rfl ?_
                          refine pm_R_lo pm_M216 (pc' := 145) (pm_q216_1 (Nat.le_of_ble_eq_true rfl)) rfl rfl ?_
                          refine pm_R_lo pm_M216 (pc' := 146) (pm_q216_1 (Nat.le_of_ble_eq_true rfl)) rfl rfl ?_
                          refine sf_R_iaddV pm_M216 (pc' := 147) (pm_q216_1 (Nat.le_of_ble_eq_true rfl)) rfl Bx2_46293 B45299 (by decide) (by decide) e46301 ?_
                          refine pm_R_cv pm_M216 (pc' := 150) (a := 41) (ra := [.int z46300, .int x2_46293, .int x3_46495]) (rest := [.int z46518, .ref 54]) (ls' := [.ref 41, .int x3_46495, .int x2_46293, .int z46300, pm_no, pm_no, pm_no, pm_no]) (pm_q216_1 (Nat.le_of_ble_eq_true rfl)) rfl (Or.inl rfl) pm_M217 T_46495.2.1 rfl (by decide) (Nat.lt_of_lt_of_le (by decide) T_46495.1) rfl rfl (Nat.le_of_ble_eq_true rfl) rfl rfl ?_
                          refine rf_c217 (d := d + 0) T_46495 B46508 (sf_weak B46309 (by decide) (by decide)) (sf_weak B46308 (by decide) (by decide)) (fun r46521 => ?_)
                          show pm_R _ 216 150 [.ref 41, .int x1_45292, .int x2_46293, .int x3_46495, g4_40286, g5_40286] [.long r46521, .int z46518, .ref 54] _ _
                          obtain ⟨f46529, e46530⟩ := T_46495.2.2.2.1 54 (by decide) (by decide)
                          refine rf_R_lst pm_M216 T_46495 (pc' := 151) (pm_q216_1 (Nat.le_of_ble_eq_true rfl)) e46530 (by decide) (by decide) (sf_in B46520 (by decide) (by decide)) ⟨_, rfl⟩ rfl (fun h46532 T46533 F46534 e46535 => ?_)
                          have F46536 := F_46495.trans F46534 (by decide)
                          refine sf_R_iinc pm_M216 (pc' := 154) (ls' := fun z => [.ref 41, .int x1_45292, .int x2_46293, .int z, g4_40286, g5_40286]) (pm_q216_1 (Nat.le_of_ble_eq_true rfl)) B46508 rfl (by decide) (by decide) (by decide) (fun _ => rfl) rfl (fun z46537 e46538 B46539 => ?_)
                          show pm_R _ 216 154 [.ref 41, .int x1_45292, .int x2_46293, .int z46537, g4_40286, g5_40286] [] _ _
                          refine pm_R_br pm_M216 (pc' := 123) (pm_q216_1 (Nat.le_of_ble_eq_true rfl)) rfl ?_
                          exact ih_46495 _ (sf_up hN_46495 e46538 B46508 (by decide) (by decide)) h46532 m_46495 w_46495 z46537 T46533 F46536 W_46495 (sf_weak B46539 (by decide) (by decide)) rfl
                    exact L_46495 _ h_46293 m_46293 w_46293 0 T_46293 F_46293 (rf_W.refl _ _) (sf_weak sf_k0 (by decide) (by decide)) rfl
              exact L_46293 _ h_45292 m_45292 w_45292 0 (g3_45292) T_45292 F_45292 (rf_W.refl _ _) (sf_weak sf_k0 (by decide) (by decide)) rfl
        exact L_45292 _ h_40286 m_40286 w_40286 1 (g2_40286) (g3_40286) T_40286 F_40286 (rf_W.refl _ _) (sf_weak sf_k1 (by decide) (by decide)) Cg2_40286 rfl
      · have B46540 : sf_B 0 5 x1_40286 := sf_ltL (Int32.not_le.mp c40290) Bx1_40286 sf_k6
        refine pm_R_op pm_M216 (pc' := 9) (st' := [.int 0]) rfl rfl rfl ?_
        refine pm_R_lo pm_M216 (pc' := 10) (ls' := [.ref 41, .int x1_40286, .int 0, g3_40286, g4_40286, g5_40286]) (st' := []) rfl rfl rfl ?_
        have L_51395 : ∀ (N : Nat) (h_51395 : pm_H) (m_51395 : Nat → Int32) (w_51395 : Int64) (x2_51395 : Int32) (g3_51395 : Value) (g4_51395 : Value) (g5_51395 : Value), rf_T m_51395 w_51395 h_51395 → rf_G [54] h h_51395 → rf_W [] m_40286 m_51395 → sf_B 0 12 x2_51395 → g4_51395.category = 1 → g5_51395.category = 1 → (12 - x2_51395.toInt).toNat = N → pm_R (d + 4) 216 10 [.ref 41, .int x1_40286, .int x2_51395, g3_51395, g4_51395, g5_51395] [] h_51395 Q := by
          intro N
          induction N using Nat.strongRecOn with
          | ind N ih_51395 =>
            intro h_51395 m_51395 w_51395 x2_51395 g3_51395 g4_51395 g5_51395 T_51395 F_51395 W_51395 Bx2_51395 Cg4_51395 Cg5_51395 hN_51395
            have W51398 : rf_W [] m m_51395 := W40289.trans W_51395 (by decide)
            have W51399 : rf_W [] m m_51395 := W_40286.trans W_51395 (by decide)
            refine pm_R_lo pm_M216 (pc' := 11) rfl rfl rfl ?_
            refine pm_R_lo pm_M216 (pc' := 12) rfl rfl rfl ?_
            have B51400 : sf_B 0 12 (m_51395 24) := T_51395.2.2.1 24
            refine rf_R_get pm_M216 T_51395 (pc' := 15) (v := .int (m_51395 24)) rfl rfl rfl rfl ?_
            refine pm_R_icmp pm_M216 (t := 93) (pc' := 18) rfl rfl rfl (fun c51401 => ?_) (fun c51401 => ?_)
            · skip
              refine sf_R_iinc pm_M216 (pc' := 96) (ls' := fun z => [.ref 41, .int z, .int x2_51395, g3_51395, g4_51395, g5_51395]) rfl B46540 rfl (by decide) (by decide) (by decide) (fun _ => rfl) rfl (fun z51402 e51403 B51404 => ?_)
              show pm_R _ 216 96 [.ref 41, .int z51402, .int x2_51395, g3_51395, g4_51395, g5_51395] [] _ _
              refine pm_R_br pm_M216 (pc' := 2) rfl rfl ?_
              exact ih_40286 _ (sf_up hN_40286 e51403 B46540 (by decide) (by decide)) h_51395 m_51395 w_51395 z51402 (.int x2_51395) (g3_51395) (g4_51395) (g5_51395) T_51395 F_51395 W51399 (sf_weak B51404 (by decide) (by decide)) rfl Cg4_51395 Cg5_51395 rfl
            · have B51405 : sf_B 0 11 x2_51395 := sf_ltL (Int32.not_le.mp c51401) Bx2_51395 B51400
              have B51406 : sf_B 1 12 (m_51395 24) := sf_ltR (Int32.not_le.mp c51401) Bx2_51395 B51400
              refine pm_R_op pm_M216 (pc' := 19) (st' := [.long 0]) rfl rfl rfl ?_
              refine pm_R_lo pm_M216 (pc' := 20) (ls' := [.ref 41, .int x1_40286, .int x2_51395, .long 0, pm_no, g5_51395]) (st' := []) rfl rfl rfl ?_
              refine pm_R_op pm_M216 (pc' := 21) (st' := [.int 0]) rfl rfl rfl ?_
              refine pm_R_lo pm_M216 (pc' := 23) (ls' := [.ref 41, .int x1_40286, .int x2_51395, .long 0, pm_no, .int 0]) (st' := []) rfl rfl rfl ?_
              have L_52203 : ∀ (N : Nat) (x5_52203 : Int32) (y3_52203 : Int64), sf_B 0 16 x5_52203 → (16 - x5_52203.toInt).toNat = N → pm_R (d + 4) 216 23 [.ref 41, .int x1_40286, .int x2_51395, .long y3_52203, pm_no, .int x5_52203] [] h_51395 Q := by
                intro N
                induction N using Nat.strongRecOn with
                | ind N ih_52203 =>
                  intro x5_52203 y3_52203 Bx5_52203 hN_52203
                  refine pm_R_lo pm_M216 (pc' := 25) rfl rfl rfl ?_
                  refine pm_R_lo pm_M216 (pc' := 26) rfl rfl rfl ?_
                  refine pm_R_cv pm_M216 (pc' := 29) (a := 41) (ra := []) (rest := [.int x5_52203]) (ls' := [.ref 41]) rfl rfl (Or.inl rfl) pm_M203 T_51395.2.1 rfl (by decide) (Nat.lt_of_lt_of_le (by decide) T_51395.1) rfl rfl (Nat.le_of_ble_eq_true rfl) rfl rfl ?_
                  refine pm_R_lo pm_M203 (pc' := 1) rfl rfl rfl ?_
                  refine rf_R_get pm_M203 T_51395 (pc' := 4) (v := .ref 47) rfl rfl rfl rfl ?_
                  refine pm_R_op pm_M203 (pc' := 6) (st' := [.int 100, .ref 47]) rfl rfl rfl ?_
                  refine pm_R_lo pm_M203 (pc' := 7) rfl rfl rfl ?_
                  have B52204 : sf_B 0 1 (m_51395 23) := T_51395.2.2.1 23
                  refine rf_R_get pm_M203 T_51395 (pc' := 10) (v := .int (m_51395 23)) rfl rfl rfl rfl ?_
                  refine sf_R_imul pm_M203 (pc' := 11) rfl rfl sf_k100 B52204 (by decide) (by decide) (by decide) (fun z52205 e52206 B52207 => ?_)
                  refine pm_R_op pm_M203 (pc' := 12) (st' := [.int 1, .int z52205, .ref 47]) rfl rfl rfl ?_
                  refine sf_R_iadd pm_M203 (pc' := 13) rfl rfl B52207 sf_k1 (by decide) (by decide) (fun z52208 e52209 B52210 => ?_)
                  obtain ⟨f52211, e52212, b52213⟩ := T_51395.2.2.2.1 47 (by decide) (by decide)
                  refine rf_R_ild pm_M203 T_51395 (pc' := 14) rfl e52212 (by decide) (sf_in B52210 (by decide) (by decide)) rfl (fun z52214 ez52215 => ?_)
                  have e52216 : (z52208).toInt = 100 * ((m_51395 23)).toInt + 1 := (sf_aux7 _ _ _ e52206 e52209)
                  have B52217 : sf_B 0 16 z52214 := ez52215 ▸ rf_p47b b52213 e52216 B52204 (by decide)
                  refine pm_R_ret pm_M203 (r := some (.int z52214)) rfl (pm_ret_i _) ?_
                  show pm_R _ 216 29 [.ref 41, .int x1_40286, .int x2_51395, .long y3_52203, pm_no, .int x5_52203] [.int z52214, .int x5_52203] _ _
                  refine pm_R_icmp pm_M216 (t := 75) (pc' := 32) rfl rfl rfl (fun c52218 => ?_) (fun c52218 => ?_)
                  · skip
                    refine pm_R_lo pm_M216 (pc' := 76) rfl rfl rfl ?_
                    refine rf_R_get pm_M216 T_51395 (pc' := 79) (v := .ref 54) rfl rfl rfl rfl ?_
                    refine pm_R_lo pm_M216 (pc' := 80) rfl rfl rfl ?_
                    refine pm_R_lo pm_M216 (pc' := 81) rfl rfl rfl ?_
                    refine pm_R_lo pm_M216 (pc' := 82) rfl rfl rfl ?_
                    refine pm_R_cs pm_M216 (pc' := 85) (ra := [.int x2_51395, .int x2_51395, .int x1_40286]) (rest := [.ref 54]) (ls' := [.int x1_40286, .int x2_51395, .int x2_51395]) rfl rfl (Or.inl rfl) pm_M207 rfl rfl (Nat.le_of_ble_eq_true rfl) rfl rfl ?_
                    refine pm_R_op pm_M207 (pc' := 3) (st' := [.int 144]) rfl rfl rfl ?_
                    refine pm_R_lo pm_M207 (pc' := 4) rfl rfl rfl ?_
                    refine sf_R_imul pm_M207 (pc' := 5) rfl rfl sf_k144 B46540 (by decide) (by decide) (by decide) (fun z52219 e52220 B52221 => ?_)
                    refine pm_R_op pm_M207 (pc' := 7) (st' := [.int 12, .int z52219]) rfl rfl rfl ?_
                    refine pm_R_lo pm_M207 (pc' := 8) rfl rfl rfl ?_
                    refine sf_R_imul pm_M207 (pc' := 9) rfl rfl sf_k12 B51405 (by decide) (by decide) (by decide) (fun z52222 e52223 B52224 => ?_)
                    refine sf_R_iadd pm_M207 (pc' := 10) rfl rfl B52221 B52224 (by decide) (by decide) (fun z52225 e52226 B52227 => ?_)
                    refine pm_R_lo pm_M207 (pc' := 11) rfl rfl rfl ?_
                    refine sf_R_iadd pm_M207 (pc' := 12) rfl rfl B52227 B51405 (by decide) (by decide) (fun z52228 e52229 B52230 => ?_)
                    refine pm_R_ret pm_M207 (r := some (.int z52228)) rfl (pm_ret_i _) ?_
                    show pm_R _ 216 85 [.ref 41, .int x1_40286, .int x2_51395, .long y3_52203, pm_no, .int x5_52203] [.int z52228, .ref 54] _ _
                    refine pm_R_lo pm_M216 (pc' := 86) rfl rfl rfl ?_
                    obtain ⟨f52231, e52232⟩ := T_51395.2.2.2.1 54 (by decide) (by decide)
                    refine rf_R_lst pm_M216 T_51395 (pc' := 87) rfl e52232 (by decide) (by decide) (sf_in B52230 (by decide) (by decide)) ⟨_, rfl⟩ rfl (fun h52234 T52235 F52236 e52237 => ?_)
                    have F52238 := F_51395.trans F52236 (by decide)
                    refine sf_R_iinc pm_M216 (pc' := 90) (ls' := fun z => [.ref 41, .int x1_40286, .int z, .long y3_52203, pm_no, .int x5_52203]) rfl B51405 rfl (by decide) (by decide) (by decide) (fun _ => rfl) rfl (fun z52239 e52240 B52241 => ?_)
                    show pm_R _ 216 90 [.ref 41, .int x1_40286, .int z52239, .long y3_52203, pm_no, .int x5_52203] [] _ _
                    refine pm_R_br pm_M216 (pc' := 10) rfl rfl ?_
                    exact ih_51395 _ (sf_up hN_51395 e52240 B51405 (by decide) (by decide)) h52234 m_51395 w_51395 z52239 (.long y3_52203) (pm_no) (.int x5_52203) T52235 F52238 W_51395 (sf_weak B52241 (by decide) (by decide)) rfl rfl rfl
                  · have B52242 : sf_B 0 15 x5_52203 := sf_ltL (Int32.not_le.mp c52218) Bx5_52203 B52217
                    have B52243 : sf_B 1 16 z52214 := sf_ltR (Int32.not_le.mp c52218) Bx5_52203 B52217
                    refine pm_R_lo pm_M216 (pc' := 33) rfl rfl rfl ?_
                    refine pm_R_lo pm_M216 (pc' := 34) rfl rfl rfl ?_
                    refine pm_R_lo pm_M216 (pc' := 36) rfl rfl rfl ?_
                    refine pm_R_lo pm_M216 (pc' := 37) rfl rfl rfl ?_
                    refine pm_R_cv pm_M216 (pc' := 40) (a := 41) (ra := [.int x2_51395, .int x5_52203]) (rest := [.long y3_52203]) (ls' := [.ref 41, .int x5_52203, .int x2_51395]) rfl rfl (Or.inl rfl) pm_M204 T_51395.2.1 rfl (by decide) (Nat.lt_of_lt_of_le (by decide) T_51395.1) rfl rfl (Nat.le_of_ble_eq_true rfl) rfl rfl ?_
                    refine pm_R_lo pm_M204 (pc' := 1) rfl rfl rfl ?_
                    refine rf_R_get pm_M204 T_51395 (pc' := 4) (v := .ref 53) rfl rfl rfl rfl ?_
                    refine pm_R_lo pm_M204 (pc' := 5) rfl rfl rfl ?_
                    obtain ⟨f52244, e52245⟩ := T_51395.2.2.2.1 53 (by decide) (by decide)
                    refine rf_R_ild pm_M204 T_51395 (pc' := 6) rfl e52245 (by decide) (sf_in B51405 (by decide) (by decide)) rfl (fun z52247 ez52248 => ?_)
                    refine sf_R_lany pm_M204 (pc' := 7) (st := []) rfl rfl rfl (fun z52249 => ?_)
                    refine pm_R_lo pm_M204 (pc' := 8) rfl rfl rfl ?_
                    refine pm_R_lo pm_M204 (pc' := 9) rfl rfl rfl ?_
                    refine pm_R_op pm_M204 (pc' := 10) (st' := [.int 0, .int x5_52203, .ref 41, .long z52249]) rfl rfl rfl ?_
                    refine pm_R_cv pm_M204 (pc' := 13) (a := 41) (ra := [.int 0, .int x5_52203]) (rest := [.long z52249]) (ls' := [.ref 41, .int x5_52203, .int 0]) rfl rfl (Or.inl rfl) pm_M205 T_51395.2.1 rfl (by decide) (Nat.lt_of_lt_of_le (by decide) T_51395.1) rfl rfl (Nat.le_of_ble_eq_true rfl) rfl rfl ?_
                    refine pm_R_lo pm_M205 (pc' := 1) rfl rfl rfl ?_
                    refine rf_R_get pm_M205 T_51395 (pc' := 4) (v := .ref 47) rfl rfl rfl rfl ?_
                    refine pm_R_op pm_M205 (pc' := 6) (st' := [.int 100, .ref 47]) rfl rfl rfl ?_
                    refine pm_R_lo pm_M205 (pc' := 7) rfl rfl rfl ?_
                    refine rf_R_get pm_M205 T_51395 (pc' := 10) (v := .int (m_51395 23)) rfl rfl rfl rfl ?_
                    refine sf_R_imulV pm_M205 (pc' := 11) rfl rfl sf_k100 B52204 (by decide) (by decide) (by decide) e52206 ?_
                    refine pm_R_op pm_M205 (pc' := 13) (st' := [.int 42, .int z52205, .ref 47]) rfl rfl rfl ?_
                    refine sf_R_iadd pm_M205 (pc' := 14) rfl rfl B52207 sf_k42 (by decide) (by decide) (fun z52250 e52251 B52252 => ?_)
                    refine pm_R_op pm_M205 (pc' := 15) (st' := [.int 3, .int z52250, .ref 47]) rfl rfl rfl ?_
                    refine pm_R_lo pm_M205 (pc' := 16) rfl rfl rfl ?_
                    refine sf_R_imul pm_M205 (pc' := 17) rfl rfl sf_k3 B52242 (by decide) (by decide) (by decide) (fun z52253 e52254 B52255 => ?_)
                    refine sf_R_iadd pm_M205 (pc' := 18) rfl rfl B52252 B52255 (by decide) (by decide) (fun z52256 e52257 B52258 => ?_)
                    refine pm_R_lo pm_M205 (pc' := 19) rfl rfl rfl ?_
                    refine sf_R_iadd pm_M205 (pc' := 20) rfl rfl B52258 sf_k0 (by decide) (by decide) (fun z52259 e52260 B52261 => ?_)
                    refine rf_R_ild pm_M205 T_51395 (pc' := 21) rfl e52212 (by decide) (sf_in B52261 (by decide) (by decide)) rfl (fun z52262 ez52263 => ?_)
                    have e52264 : (z52259).toInt = 100 * ((m_51395 23)).toInt + 3 * (x5_52203).toInt + 42 := (sf_aux8 _ _ _ _ _ _ _ e52206 e52251 e52254 e52257 e52260)
                    have B52265 : sf_B 0 9 z52262 := ez52263 ▸ rf_p47s b52213 e52264 B52204 B52242 (by decide) (by decide) (by decide)
                    refine pm_R_ret pm_M205 (r := some (.int z52262)) rfl (pm_ret_i _) ?_
                    show pm_R _ 204 13 [.ref 41, .int x5_52203, .int x2_51395] [.int z52262, .long z52249] _ _
                    refine pm_R_cs pm_M204 (pc' := 16) (ra := [.int z52262, .long z52249]) (rest := []) (ls' := [.long z52249, pm_no, .int z52262]) rfl rfl (Or.inl rfl) pm_M206 rfl rfl (Nat.le_of_ble_eq_true rfl) rfl rfl ?_
                    refine pm_R_lo pm_M206 (pc' := 1) rfl rfl rfl ?_
                    refine pm_R_lo pm_M206 (pc' := 2) rfl rfl rfl ?_
                    refine sf_R_lany pm_M206 (pc' := 3) (st := []) rfl rfl rfl (fun z52266 => ?_)
                    refine pm_R_op pm_M206 (pc' := 4) (st' := [.long 1, .long z52266]) rfl rfl rfl ?_
                    refine sf_R_lany pm_M206 (pc' := 5) (st := []) rfl rfl rfl (fun z52267 => ?_)
                    refine pm_R_op pm_M206 (pc' := 6) (st' := [.long 1, .long z52267]) rfl rfl rfl ?_
                    refine sf_R_lcmp pm_M206 (pc' := 7) rfl rfl (fun z52268 e52269 => ?_)
                    refine pm_R_ifc pm_M206 (t := 14) (pc' := 10) rfl rfl rfl (fun c52270 => ?_) (fun c52270 => ?_)
                    · have k52271 := sf_lneC e52269 c52270
                      refine pm_R_op pm_M206 (pc' := 15) (st' := [.int 0]) rfl rfl rfl ?_
                      refine pm_R_ret pm_M206 (r := some (.int 0)) rfl rfl ?_
                      show pm_R _ 204 16 [.ref 41, .int x5_52203, .int x2_51395] [.int 0] _ _
                      refine pm_R_br pm_M204 (pc' := 39) (st' := []) rfl rfl ?_
                      refine pm_R_op pm_M204 (pc' := 40) (st' := [.int 0]) rfl rfl rfl ?_
                      refine pm_R_ret pm_M204 (r := some (.int 0)) rfl rfl ?_
                      show pm_R _ 216 40 [.ref 41, .int x1_40286, .int x2_51395, .long y3_52203, pm_no, .int x5_52203] [.int 0, .long y3_52203] _ _
                      refine pm_R_br pm_M216 (pc' := 66) (st' := [.long y3_52203]) rfl rfl ?_
                      refine pm_R_op pm_M216 (pc' := 67) (st' := [.long 0, .long y3_52203]) rfl rfl rfl ?_
                      refine sf_R_lany pm_M216 (pc' := 68) (st := []) rfl rfl rfl (fun z52272 => ?_)
                      refine pm_R_lo pm_M216 (pc' := 69) (ls' := [.ref 41, .int x1_40286, .int x2_51395, .long z52272, pm_no, .int x5_52203]) (st' := []) rfl rfl rfl ?_
                      refine sf_R_iinc pm_M216 (pc' := 72) (ls' := fun z => [.ref 41, .int x1_40286, .int x2_51395, .long z52272, pm_no, .int z]) rfl B52242 rfl (by decide) (by decide) (by decide) (fun _ => rfl) rfl (fun z52273 e52274 B52275 => ?_)
                      show pm_R _ 216 72 [.ref 41, .int x1_40286, .int x2_51395, .long z52272, pm_no, .int z52273] [] _ _
                      refine pm_R_br pm_M216 (pc' := 23) rfl rfl ?_
                      exact ih_52203 _ (sf_up hN_52203 e52274 B52242 (by decide) (by decide)) z52273 z52272 (sf_weak B52275 (by decide) (by decide)) rfl
                    · have B52276 : sf_B 0 0 z52268 := sf_eqL (Classical.not_not.mp c52270) sf_k0
                      refine pm_R_op pm_M206 (pc' := 11) (st' := [.int 1]) rfl rfl rfl ?_
                      refine pm_R_br pm_M206 (pc' := 15) rfl rfl ?_
                      refine pm_R_ret pm_M206 (r := some (.int 1)) rfl rfl ?_
                      show pm_R _ 204 16 [.ref 41, .int x5_52203, .int x2_51395] [.int 1] _ _
                      refine pm_R_br pm_M204 (pc' := 19) (st' := []) rfl rfl ?_
                      refine pm_R_lo pm_M204 (pc' := 20) rfl rfl rfl ?_
                      have B52277 : sf_B (-1) 11 (m_51395 26) := T_51395.2.2.1 26
                      refine rf_R_get pm_M204 T_51395 (pc' := 23) (v := .int (m_51395 26)) rfl rfl rfl rfl ?_
                      refine pm_R_lo pm_M204 (pc' := 24) rfl rfl rfl ?_
                      refine pm_R_icmp pm_M204 (t := 35) (pc' := 27) rfl rfl rfl (fun c52278 => ?_) (fun c52278 => ?_)
                      · skip
                        refine pm_R_op pm_M204 (pc' := 36) (st' := [.int 1]) rfl rfl rfl ?_
                        refine pm_R_br pm_M204 (pc' := 40) rfl rfl ?_
                        refine pm_R_ret pm_M204 (r := some (.int 1)) rfl rfl ?_
                        show pm_R _ 216 40 [.ref 41, .int x1_40286, .int x2_51395, .long y3_52203, pm_no, .int x5_52203] [.int 1, .long y3_52203] _ _
                        refine pm_R_br pm_M216 (pc' := 43) (st' := [.long y3_52203]) rfl rfl ?_
                        refine pm_R_lo pm_M216 (pc' := 44) rfl rfl rfl ?_
                        refine pm_R_lo pm_M216 (pc' := 46) rfl rfl rfl ?_
                        refine pm_R_op pm_M216 (pc' := 47) (st' := [.int 1, .int x5_52203, .ref 41, .long y3_52203]) rfl rfl rfl ?_
                        refine pm_R_cv pm_M216 (pc' := 50) (a := 41) (ra := [.int 1, .int x5_52203]) (rest := [.long y3_52203]) (ls' := [.ref 41, .int x5_52203, .int 1]) rfl rfl (Or.inl rfl) pm_M205 T_51395.2.1 rfl (by decide) (Nat.lt_of_lt_of_le (by decide) T_51395.1) rfl rfl (Nat.le_of_ble_eq_true rfl) rfl rfl ?_
                        refine pm_R_lo pm_M205 (pc' := 1) rfl rfl rfl ?_
                        refine rf_R_get pm_M205 T_51395 (pc' := 4) (v := .ref 47) rfl rfl rfl rfl ?_
                        refine pm_R_op pm_M205 (pc' := 6) (st' := [.int 100, .ref 47]) rfl rfl rfl ?_
                        refine pm_R_lo pm_M205 (pc' := 7) rfl rfl rfl ?_
                        refine rf_R_get pm_M205 T_51395 (pc' := 10) (v := .int (m_51395 23)) rfl rfl rfl rfl ?_
                        refine sf_R_imulV pm_M205 (pc' := 11) rfl rfl sf_k100 B52204 (by decide) (by decide) (by decide) e52206 ?_
                        refine pm_R_op pm_M205 (pc' := 13) (st' := [.int 42, .int z52205, .ref 47]) rfl rfl rfl ?_
                        refine sf_R_iaddV pm_M205 (pc' := 14) rfl rfl B52207 sf_k42 (by decide) (by decide) e52251 ?_
                        refine pm_R_op pm_M205 (pc' := 15) (st' := [.int 3, .int z52250, .ref 47]) rfl rfl rfl ?_
                        refine pm_R_lo pm_M205 (pc' := 16) rfl rfl rfl ?_
                        refine sf_R_imulV pm_M205 (pc' := 17) rfl rfl sf_k3 B52242 (by decide) (by decide) (by decide) e52254 ?_
                        refine sf_R_iaddV pm_M205 (pc' := 18) rfl rfl B52252 B52255 (by decide) (by decide) e52257 ?_
                        refine pm_R_lo pm_M205 (pc' := 19) rfl rfl rfl ?_
                        refine sf_R_iadd pm_M205 (pc' := 20) rfl rfl B52258 sf_k1 (by decide) (by decide) (fun z52279 e52280 B52281 => ?_)
                        refine rf_R_ild pm_M205 T_51395 (pc' := 21) rfl e52212 (by decide) (sf_in B52281 (by decide) (by decide)) rfl (fun z52282 ez52283 => ?_)
                        have e52284 : (z52279).toInt = 100 * ((m_51395 23)).toInt + 3 * (x5_52203).toInt + 43 := (sf_aux9 _ _ _ _ _ _ _ e52206 e52251 e52254 e52257 e52280)
                        have B52285 : sf_B 0 5 z52282 := ez52283 ▸ rf_p47k b52213 e52284 B52204 B52242 (by decide) (by decide) (by decide)
                        refine pm_R_ret pm_M205 (r := some (.int z52282)) rfl (pm_ret_i _) ?_
                        show pm_R _ 216 50 [.ref 41, .int x1_40286, .int x2_51395, .long y3_52203, pm_no, .int x5_52203] [.int z52282, .long y3_52203] _ _
                        refine pm_R_lo pm_M216 (pc' := 51) rfl rfl rfl ?_
                        refine pm_R_icmp pm_M216 (t := 66) (pc' := 54) rfl rfl rfl (fun c52286 => ?_) (fun c52286 => ?_)
                        · skip
                          refine pm_R_op pm_M216 (pc' := 67) (st' := [.long 0, .long y3_52203]) rfl rfl rfl ?_
                          refine sf_R_lany pm_M216 (pc' := 68) (st := []) rfl rfl rfl (fun z52287 => ?_)
                          refine pm_R_lo pm_M216 (pc' := 69) (ls' := [.ref 41, .int x1_40286, .int x2_51395, .long z52287, pm_no, .int x5_52203]) (st' := []) rfl rfl rfl ?_
                          refine sf_R_iinc pm_M216 (pc' := 72) (ls' := fun z => [.ref 41, .int x1_40286, .int x2_51395, .long z52287, pm_no, .int z]) rfl B52242 rfl (by decide) (by decide) (by decide) (fun _ => rfl) rfl (fun z52288 e52289 B52290 => ?_)
                          show pm_R _ 216 72 [.ref 41, .int x1_40286, .int x2_51395, .long z52287, pm_no, .int z52288] [] _ _
                          refine pm_R_br pm_M216 (pc' := 23) rfl rfl ?_
                          exact ih_52203 _ (sf_up hN_52203 e52289 B52242 (by decide) (by decide)) z52288 z52287 (sf_weak B52290 (by decide) (by decide)) rfl
                        · refine pm_R_op pm_M216 (pc' := 55) (st' := [.long 1, .long y3_52203]) rfl rfl rfl ?_
                          refine pm_R_lo pm_M216 (pc' := 56) rfl rfl rfl ?_
                          refine pm_R_lo pm_M216 (pc' := 58) rfl rfl rfl ?_
                          refine pm_R_op pm_M216 (pc' := 59) (st' := [.int 2, .int x5_52203, .ref 41, .long 1, .long y3_52203]) rfl rfl rfl ?_
                          refine pm_R_cv pm_M216 (pc' := 62) (a := 41) (ra := [.int 2, .int x5_52203]) (rest := [.long 1, .long y3_52203]) (ls' := [.ref 41, .int x5_52203, .int 2]) rfl rfl (Or.inl rfl) pm_M205 T_51395.2.1 rfl (by decide) (Nat.lt_of_lt_of_le (by decide) T_51395.1) rfl rfl (Nat.le_of_ble_eq_true rfl) rfl rfl ?_
                          refine pm_R_lo pm_M205 (pc' := 1) rfl rfl rfl ?_
                          refine rf_R_get pm_M205 T_51395 (pc' := 4) (v := .ref 47) rfl rfl rfl rfl ?_
                          refine pm_R_op pm_M205 (pc' := 6) (st' := [.int 100, .ref 47]) rfl rfl rfl ?_
                          refine pm_R_lo pm_M205 (pc' := 7) rfl rfl rfl ?_
                          refine rf_R_get pm_M205 T_51395 (pc' := 10) (v := .int (m_51395 23)) rfl rfl rfl rfl ?_
                          refine sf_R_imulV pm_M205 (pc' := 11) rfl rfl sf_k100 B52204 (by decide) (by decide) (by decide) e52206 ?_
                          refine pm_R_op pm_M205 (pc' := 13) (st' := [.int 42, .int z52205, .ref 47]) rfl rfl rfl ?_
                          refine sf_R_iaddV pm_M205 (pc' := 14) rfl rfl B52207 sf_k42 (by decide) (by decide) e52251 ?_
                          refine pm_R_op pm_M205 (pc' := 15) (st' := [.int 3, .int z52250, .ref 47]) rfl rfl rfl ?_
                          refine pm_R_lo pm_M205 (pc' := 16) rfl rfl rfl ?_
                          refine sf_R_imulV pm_M205 (pc' := 17) rfl rfl sf_k3 B52242 (by decide) (by decide) (by decide) e52254 ?_
                          refine sf_R_iaddV pm_M205 (pc' := 18) rfl rfl B52252 B52255 (by decide) (by decide) e52257 ?_
                          refine pm_R_lo pm_M205 (pc' := 19) rfl rfl rfl ?_
                          refine sf_R_iadd pm_M205 (pc' := 20) rfl rfl B52258 sf_k2 (by decide) (by decide) (fun z52291 e52292 B52293 => ?_)
                          refine rf_R_ild pm_M205 T_51395 (pc' := 21) rfl e52212 (by decide) (sf_in B52293 (by decide) (by decide)) rfl (fun z52294 ez52295 => ?_)
                          have e52296 : (z52291).toInt = 100 * ((m_51395 23)).toInt + 3 * (x5_52203).toInt + 44 := (sf_aux10 _ _ _ _ _ _ _ e52206 e52251 e52254 e52257 e52292)
                          have B52297 : sf_B 0 49 z52294 := ez52295 ▸ rf_p47v b52213 e52296 B52204 B52242 (by decide) (by decide) (by decide)
                          refine pm_R_ret pm_M205 (r := some (.int z52294)) rfl (pm_ret_i _) ?_
                          show pm_R _ 216 62 [.ref 41, .int x1_40286, .int x2_51395, .long y3_52203, pm_no, .int x5_52203] [.int z52294, .long 1, .long y3_52203] _ _
                          refine sf_R_lany pm_M216 (pc' := 63) (st := [.long y3_52203]) rfl rfl rfl (fun z52298 => ?_)
                          refine pm_R_br pm_M216 (pc' := 67) rfl rfl ?_
                          refine sf_R_lany pm_M216 (pc' := 68) (st := []) rfl rfl rfl (fun z52299 => ?_)
                          refine pm_R_lo pm_M216 (pc' := 69) (ls' := [.ref 41, .int x1_40286, .int x2_51395, .long z52299, pm_no, .int x5_52203]) (st' := []) rfl rfl rfl ?_
                          refine sf_R_iinc pm_M216 (pc' := 72) (ls' := fun z => [.ref 41, .int x1_40286, .int x2_51395, .long z52299, pm_no, .int z]) rfl B52242 rfl (by decide) (by decide) (by decide) (fun _ => rfl) rfl (fun z52300 e52301 B52302 => ?_)
                          show pm_R _ 216 72 [.ref 41, .int x1_40286, .int x2_51395, .long z52299, pm_no, .int z52300] [] _ _
                          refine pm_R_br pm_M216 (pc' := 23) rfl rfl ?_
                          exact ih_52203 _ (sf_up hN_52203 e52301 B52242 (by decide) (by decide)) z52300 z52299 (sf_weak B52302 (by decide) (by decide)) rfl
                      · have B52303 : sf_B 0 11 (m_51395 26) := sf_eqL (Classical.not_not.mp c52278) B51405
                        refine pm_R_lo pm_M204 (pc' := 28) rfl rfl rfl ?_
                        have B52304 : sf_B 0 15 (m_51395 27) := T_51395.2.2.1 27
                        refine rf_R_get pm_M204 T_51395 (pc' := 31) (v := .int (m_51395 27)) rfl rfl rfl rfl ?_
                        refine pm_R_lo pm_M204 (pc' := 32) rfl rfl rfl ?_
                        refine pm_R_icmp pm_M204 (t := 39) (pc' := 35) rfl rfl rfl (fun c52305 => ?_) (fun c52305 => ?_)
                        · skip
                          refine pm_R_op pm_M204 (pc' := 40) (st' := [.int 0]) rfl rfl rfl ?_
                          refine pm_R_ret pm_M204 (r := some (.int 0)) rfl rfl ?_
                          show pm_R _ 216 40 [.ref 41, .int x1_40286, .int x2_51395, .long y3_52203, pm_no, .int x5_52203] [.int 0, .long y3_52203] _ _
                          refine pm_R_br pm_M216 (pc' := 66) (st' := [.long y3_52203]) rfl rfl ?_
                          refine pm_R_op pm_M216 (pc' := 67) (st' := [.long 0, .long y3_52203]) rfl rfl rfl ?_
                          refine sf_R_lany pm_M216 (pc' := 68) (st := []) rfl rfl rfl (fun z52306 => ?_)
                          refine pm_R_lo pm_M216 (pc' := 69) (ls' := [.ref 41, .int x1_40286, .int x2_51395, .long z52306, pm_no, .int x5_52203]) (st' := []) rfl rfl rfl ?_
                          refine sf_R_iinc pm_M216 (pc' := 72) (ls' := fun z => [.ref 41, .int x1_40286, .int x2_51395, .long z52306, pm_no, .int z]) rfl B52242 rfl (by decide) (by decide) (by decide) (fun _ => rfl) rfl (fun z52307 e52308 B52309 => ?_)
                          show pm_R _ 216 72 [.ref 41, .int x1_40286, .int x2_51395, .long z52306, pm_no, .int z52307] [] _ _
                          refine pm_R_br pm_M216 (pc' := 23) rfl rfl ?_
                          exact ih_52203 _ (sf_up hN_52203 e52308 B52242 (by decide) (by decide)) z52307 z52306 (sf_weak B52309 (by decide) (by decide)) rfl
                        · refine pm_R_op pm_M204 (pc' := 36) (st' := [.int 1]) rfl rfl rfl ?_
                          refine pm_R_br pm_M204 (pc' := 40) rfl rfl ?_
                          refine pm_R_ret pm_M204 (r := some (.int 1)) rfl rfl ?_
                          show pm_R _ 216 40 [.ref 41, .int x1_40286, .int x2_51395, .long y3_52203, pm_no, .int x5_52203] [.int 1, .long y3_52203] _ _
                          refine pm_R_br pm_M216 (pc' := 43) (st' := [.long y3_52203]) rfl rfl ?_
                          refine pm_R_lo pm_M216 (pc' := 44) rfl rfl rfl ?_
                          refine pm_R_lo pm_M216 (pc' := 46) rfl rfl rfl ?_
                          refine pm_R_op pm_M216 (pc' := 47) (st' := [.int 1, .int x5_52203, .ref 41, .long y3_52203]) rfl rfl rfl ?_
                          refine pm_R_cv pm_M216 (pc' := 50) (a := 41) (ra := [.int 1, .int x5_52203]) (rest := [.long y3_52203]) (ls' := [.ref 41, .int x5_52203, .int 1]) rfl rfl (Or.inl rfl) pm_M205 T_51395.2.1 rfl (by decide) (Nat.lt_of_lt_of_le (by decide) T_51395.1) rfl rfl (Nat.le_of_ble_eq_true rfl) rfl rfl ?_
                          refine pm_R_lo pm_M205 (pc' := 1) rfl rfl rfl ?_
                          refine rf_R_get pm_M205 T_51395 (pc' := 4) (v := .ref 47) rfl rfl rfl rfl ?_
                          refine pm_R_op pm_M205 (pc' := 6) (st' := [.int 100, .ref 47]) rfl rfl rfl ?_
                          refine pm_R_lo pm_M205 (pc' := 7) rfl rfl rfl ?_
                          refine rf_R_get pm_M205 T_51395 (pc' := 10) (v := .int (m_51395 23)) rfl rfl rfl rfl ?_
                          refine sf_R_imulV pm_M205 (pc' := 11) rfl rfl sf_k100 B52204 (by decide) (by decide) (by decide) e52206 ?_
                          refine pm_R_op pm_M205 (pc' := 13) (st' := [.int 42, .int z52205, .ref 47]) rfl rfl rfl ?_
                          refine sf_R_iaddV pm_M205 (pc' := 14) rfl rfl B52207 sf_k42 (by decide) (by decide) e52251 ?_
                          refine pm_R_op pm_M205 (pc' := 15) (st' := [.int 3, .int z52250, .ref 47]) rfl rfl rfl ?_
                          refine pm_R_lo pm_M205 (pc' := 16) rfl rfl rfl ?_
                          refine sf_R_imulV pm_M205 (pc' := 17) rfl rfl sf_k3 B52242 (by decide) (by decide) (by decide) e52254 ?_
                          refine sf_R_iaddV pm_M205 (pc' := 18) rfl rfl B52252 B52255 (by decide) (by decide) e52257 ?_
                          refine pm_R_lo pm_M205 (pc' := 19) rfl rfl rfl ?_
                          refine sf_R_iadd pm_M205 (pc' := 20) rfl rfl B52258 sf_k1 (by decide) (by decide) (fun z52310 e52311 B52312 => ?_)
                          refine rf_R_ild pm_M205 T_51395 (pc' := 21) rfl e52212 (by decide) (sf_in B52312 (by decide) (by decide)) rfl (fun z52313 ez52314 => ?_)
                          have e52315 : (z52310).toInt = 100 * ((m_51395 23)).toInt + 3 * (x5_52203).toInt + 43 := (sf_aux9 _ _ _ _ _ _ _ e52206 e52251 e52254 e52257 e52311)
                          have B52316 : sf_B 0 5 z52313 := ez52314 ▸ rf_p47k b52213 e52315 B52204 B52242 (by decide) (by decide) (by decide)
                          refine pm_R_ret pm_M205 (r := some (.int z52313)) rfl (pm_ret_i _) ?_
                          show pm_R _ 216 50 [.ref 41, .int x1_40286, .int x2_51395, .long y3_52203, pm_no, .int x5_52203] [.int z52313, .long y3_52203] _ _
                          refine pm_R_lo pm_M216 (pc' := 51) rfl rfl rfl ?_
                          refine pm_R_icmp pm_M216 (t := 66) (pc' := 54) rfl rfl rfl (fun c52317 => ?_) (fun c52317 => ?_)
                          · skip
                            refine pm_R_op pm_M216 (pc' := 67) (st' := [.long 0, .long y3_52203]) rfl rfl rfl ?_
                            refine sf_R_lany pm_M216 (pc' := 68) (st := []) rfl rfl rfl (fun z52318 => ?_)
                            refine pm_R_lo pm_M216 (pc' := 69) (ls' := [.ref 41, .int x1_40286, .int x2_51395, .long z52318, pm_no, .int x5_52203]) (st' := []) rfl rfl rfl ?_
                            refine sf_R_iinc pm_M216 (pc' := 72) (ls' := fun z => [.ref 41, .int x1_40286, .int x2_51395, .long z52318, pm_no, .int z]) rfl B52242 rfl (by decide) (by decide) (by decide) (fun _ => rfl) rfl (fun z52319 e52320 B52321 => ?_)
                            show pm_R _ 216 72 [.ref 41, .int x1_40286, .int x2_51395, .long z52318, pm_no, .int z52319] [] _ _
                            refine pm_R_br pm_M216 (pc' := 23) rfl rfl ?_
                            exact ih_52203 _ (sf_up hN_52203 e52320 B52242 (by decide) (by decide)) z52319 z52318 (sf_weak B52321 (by decide) (by decide)) rfl
                          · refine pm_R_op pm_M216 (pc' := 55) (st' := [.long 1, .long y3_52203]) rfl rfl rfl ?_
                            refine pm_R_lo pm_M216 (pc' := 56) rfl rfl rfl ?_
                            refine pm_R_lo pm_M216 (pc' := 58) rfl rfl rfl ?_
                            refine pm_R_op pm_M216 (pc' := 59) (st' := [.int 2, .int x5_52203, .ref 41, .long 1, .long y3_52203]) rfl rfl rfl ?_
                            refine pm_R_cv pm_M216 (pc' := 62) (a := 41) (ra := [.int 2, .int x5_52203]) (rest := [.long 1, .long y3_52203]) (ls' := [.ref 41, .int x5_52203, .int 2]) rfl rfl (Or.inl rfl) pm_M205 T_51395.2.1 rfl (by decide) (Nat.lt_of_lt_of_le (by decide) T_51395.1) rfl rfl (Nat.le_of_ble_eq_true rfl) rfl rfl ?_
                            refine pm_R_lo pm_M205 (pc' := 1) rfl rfl rfl ?_
                            refine rf_R_get pm_M205 T_51395 (pc' := 4) (v := .ref 47) rfl rfl rfl rfl ?_
                            refine pm_R_op pm_M205 (pc' := 6) (st' := [.int 100, .ref 47]) rfl rfl rfl ?_
                            refine pm_R_lo pm_M205 (pc' := 7) rfl rfl rfl ?_
                            refine rf_R_get pm_M205 T_51395 (pc' := 10) (v := .int (m_51395 23)) rfl rfl rfl rfl ?_
                            refine sf_R_imulV pm_M205 (pc' := 11) rfl rfl sf_k100 B52204 (by decide) (by decide) (by decide) e52206 ?_
                            refine pm_R_op pm_M205 (pc' := 13) (st' := [.int 42, .int z52205, .ref 47]) rfl rfl rfl ?_
                            refine sf_R_iaddV pm_M205 (pc' := 14) rfl rfl B52207 sf_k42 (by decide) (by decide) e52251 ?_
                            refine pm_R_op pm_M205 (pc' := 15) (st' := [.int 3, .int z52250, .ref 47]) rfl rfl rfl ?_
                            refine pm_R_lo pm_M205 (pc' := 16) rfl rfl rfl ?_
                            refine sf_R_imulV pm_M205 (pc' := 17) rfl rfl sf_k3 B52242 (by decide) (by decide) (by decide) e52254 ?_
                            refine sf_R_iaddV pm_M205 (pc' := 18) rfl rfl B52252 B52255 (by decide) (by decide) e52257 ?_
                            refine pm_R_lo pm_M205 (pc' := 19) rfl rfl rfl ?_
                            refine sf_R_iadd pm_M205 (pc' := 20) rfl rfl B52258 sf_k2 (by decide) (by decide) (fun z52322 e52323 B52324 => ?_)
                            refine rf_R_ild pm_M205 T_51395 (pc' := 21) rfl e52212 (by decide) (sf_in B52324 (by decide) (by decide)) rfl (fun z52325 ez52326 => ?_)
                            have e52327 : (z52322).toInt = 100 * ((m_51395 23)).toInt + 3 * (x5_52203).toInt + 44 := (sf_aux10 _ _ _ _ _ _ _ e52206 e52251 e52254 e52257 e52323)
                            have B52328 : sf_B 0 49 z52325 := ez52326 ▸ rf_p47v b52213 e52327 B52204 B52242 (by decide) (by decide) (by decide)
                            refine pm_R_ret pm_M205 (r := some (.int z52325)) rfl (pm_ret_i _) ?_
                            show pm_R _ 216 62 [.ref 41, .int x1_40286, .int x2_51395, .long y3_52203, pm_no, .int x5_52203] [.int z52325, .long 1, .long y3_52203] _ _
                            refine sf_R_lany pm_M216 (pc' := 63) (st := [.long y3_52203]) rfl rfl rfl (fun z52329 => ?_)
                            refine pm_R_br pm_M216 (pc' := 67) rfl rfl ?_
                            refine sf_R_lany pm_M216 (pc' := 68) (st := []) rfl rfl rfl (fun z52330 => ?_)
                            refine pm_R_lo pm_M216 (pc' := 69) (ls' := [.ref 41, .int x1_40286, .int x2_51395, .long z52330, pm_no, .int x5_52203]) (st' := []) rfl rfl rfl ?_
                            refine sf_R_iinc pm_M216 (pc' := 72) (ls' := fun z => [.ref 41, .int x1_40286, .int x2_51395, .long z52330, pm_no, .int z]) rfl B52242 rfl (by decide) (by decide) (by decide) (fun _ => rfl) rfl (fun z52331 e52332 B52333 => ?_)
                            show pm_R _ 216 72 [.ref 41, .int x1_40286, .int x2_51395, .long z52330, pm_no, .int z52331] [] _ _
                            refine pm_R_br pm_M216 (pc' := 23) rfl rfl ?_
                            exact ih_52203 _ (sf_up hN_52203 e52332 B52242 (by decide) (by decide)) z52331 z52330 (sf_weak B52333 (by decide) (by decide)) rfl
              exact L_52203 _ 0 0 (sf_weak sf_k0 (by decide) (by decide)) rfl
        exact L_51395 _ h_40286 m_40286 w_40286 0 (g3_40286) (g4_40286) (g5_40286) T_40286 F_40286 (rf_W.refl _ _) (sf_weak sf_k0 (by decide) (by decide)) Cg4_40286 Cg5_40286 rfl
  exact L_40286 _ h m w 0 (pm_no) (pm_no) (pm_no) (pm_no) T (rf_G.refl [54] h) (rf_W.refl _ _) (sf_weak sf_k0 (by decide) (by decide)) rfl rfl rfl rfl

theorem sf_aux11 (v0 v1 v2 v3 : Int) (q0 : v0 = v1 + 0) (q1 : v2 = v3 + 1) (q2 : 0 ≤ v1) (q3 : v1 ≤ 15) (q4 : 0 ≤ v3) (q5 : v3 ≤ 15) (q6 : v1 ≤ v3) : v0 ≤ v2 := by omega
theorem sf_aux12 (v0 v1 v2 v3 : Int) (q0 : v0 = v1 + 1) (q1 : v2 = v3 + 1) (q2 : 0 ≤ v1) (q3 : v1 ≤ 15) (q4 : 0 ≤ v3) (q5 : v3 ≤ 15) (q6 : v1 ≤ v3) : v0 ≤ v2 := by omega
set_option maxRecDepth 100000 in
set_option maxHeartbeats 4000000 in
/-- SilentTableModel.findCounts -/
theorem rf_c202 {d : Nat} {m : Nat → Int32} {w : Int64} {h : pm_H} {Q : Option Value → pm_H → Prop}  (T : rf_T m w h)  (K : ∀ (m' : Nat → Int32) (w' : Int64) (h' : pm_H), rf_T m' w' h' → rf_G [55] h h' → rf_W [] m m' → Q none h') : pm_R (d + 4) 202 0 [.ref 41, pm_no, pm_no, pm_no, pm_no, pm_no] [] h Q := by
  refine pm_R_op pm_M202 (pc' := 1) (st' := [.int 0]) rfl rfl rfl ?_
  refine pm_R_lo pm_M202 (pc' := 2) (ls' := [.ref 41, .int 0, pm_no, pm_no, pm_no, pm_no]) (st' := []) rfl rfl rfl ?_
  have L_43329 : ∀ (N : Nat) (h_43329 : pm_H) (m_43329 : Nat → Int32) (w_43329 : Int64) (x1_43329 : Int32) (g2_43329 : Value) (g3_43329 : Value) (g4_43329 : Value) (g5_43329 : Value), rf_T m_43329 w_43329 h_43329 → rf_G [55] h h_43329 → rf_W [] m m_43329 → sf_B 0 6 x1_43329 → g2_43329.category = 1 → g4_43329.category = 1 → g5_43329.category = 1 → (6 - x1_43329.toInt).toNat = N → pm_R (d + 4) 202 2 [.ref 41, .int x1_43329, g2_43329, g3_43329, g4_43329, g5_43329] [] h_43329 Q := by
    intro N
    induction N using Nat.strongRecOn with
    | ind N ih_43329 =>
      intro h_43329 m_43329 w_43329 x1_43329 g2_43329 g3_43329 g4_43329 g5_43329 T_43329 F_43329 W_43329 Bx1_43329 Cg2_43329 Cg4_43329 Cg5_43329 hN_43329
      have W43332 : rf_W [] m m_43329 := (rf_W.refl [] m).trans W_43329 (by decide)
      refine pm_R_lo pm_M202 (pc' := 3) rfl rfl rfl ?_
      refine pm_R_op pm_M202 (pc' := 5) (st' := [.int 6, .int x1_43329]) rfl rfl rfl ?_
      refine pm_R_icmp pm_M202 (t := 91) (pc' := 8) rfl rfl rfl (fun c43333 => ?_) (fun c43333 => ?_)
      · have B43334 : sf_B 6 6 x1_43329 := sf_leR c43333 sf_k6 Bx1_43329
        refine pm_R_op pm_M202 (pc' := 92) (st' := [.int 1]) rfl rfl rfl ?_
        refine pm_R_lo pm_M202 (pc' := 93) (ls' := [.ref 41, .int 1, g2_43329, g3_43329, g4_43329, g5_43329]) (st' := []) rfl rfl rfl ?_
        have L_48335 : ∀ (N : Nat) (h_48335 : pm_H) (m_48335 : Nat → Int32) (w_48335 : Int64) (x1_48335 : Int32) (g2_48335 : Value) (g3_48335 : Value), rf_T m_48335 w_48335 h_48335 → rf_G [55] h h_48335 → rf_W [] m_43329 m_48335 → sf_B 1 12 x1_48335 → g2_48335.category = 1 → (12 - x1_48335.toInt).toNat = N → pm_R (d + 4) 202 93 [.ref 41, .int x1_48335, g2_48335, g3_48335, g4_43329, g5_43329] [] h_48335 Q := by
          intro N
          induction N using Nat.strongRecOn with
          | ind N ih_48335 =>
            intro h_48335 m_48335 w_48335 x1_48335 g2_48335 g3_48335 T_48335 F_48335 W_48335 Bx1_48335 Cg2_48335 hN_48335
            have W48338 : rf_W [] m m_48335 := W43332.trans W_48335 (by decide)
            have W48339 : rf_W [] m m_48335 := W_43329.trans W_48335 (by decide)
            refine pm_R_lo pm_M202 (pc' := 94) rfl rfl rfl ?_
            refine pm_R_lo pm_M202 (pc' := 95) rfl rfl rfl ?_
            have B48340 : sf_B 0 12 (m_48335 24) := T_48335.2.2.1 24
            refine rf_R_get pm_M202 T_48335 (pc' := 98) (v := .int (m_48335 24)) rfl rfl rfl rfl ?_
            refine pm_R_icmp pm_M202 (t := 161) (pc' := 101) rfl rfl rfl (fun c48341 => ?_) (fun c48341 => ?_)
            · skip
              exact pm_R_ret pm_M202 (r := none) (pm_q202_1 (Nat.le_of_ble_eq_true rfl)) rfl (K m_48335 w_48335 h_48335 T_48335 F_48335 W48338)
            · have B48342 : sf_B 1 11 x1_48335 := sf_ltL (Int32.not_le.mp c48341) Bx1_48335 B48340
              have B48343 : sf_B 2 12 (m_48335 24) := sf_ltR (Int32.not_le.mp c48341) Bx1_48335 B48340
              refine pm_R_op pm_M202 (pc' := 102) (st' := [.int 0]) rfl rfl rfl ?_
              refine pm_R_lo pm_M202 (pc' := 103) (ls' := [.ref 41, .int x1_48335, .int 0, g3_48335, g4_43329, g5_43329]) (st' := []) rfl rfl rfl ?_
              have L_49336 : ∀ (N : Nat) (h_49336 : pm_H) (m_49336 : Nat → Int32) (w_49336 : Int64) (x2_49336 : Int32) (g3_49336 : Value), rf_T m_49336 w_49336 h_49336 → rf_G [55] h h_49336 → rf_W [] m_48335 m_49336 → sf_B 0 11 x2_49336 → (11 - x2_49336.toInt).toNat = N → pm_R (d + 4) 202 103 [.ref 41, .int x1_48335, .int x2_49336, g3_49336, g4_43329, g5_43329] [] h_49336 Q := by
                intro N
                induction N using Nat.strongRecOn with
                | ind N ih_49336 =>
                  intro h_49336 m_49336 w_49336 x2_49336 g3_49336 T_49336 F_49336 W_49336 Bx2_49336 hN_49336
                  have B49339 : sf_B 2 12 (m_49336 24) := by rw [W_49336 24 (by decide)]; exact B48343
                  have W49340 : rf_W [] m m_49336 := W48338.trans W_49336 (by decide)
                  have W49341 : rf_W [] m m_49336 := W48339.trans W_49336 (by decide)
                  have W49342 : rf_W [] m_43329 m_49336 := W_48335.trans W_49336 (by decide)
                  refine pm_R_lo pm_M202 (pc' := 104) rfl rfl rfl ?_
                  refine pm_R_lo pm_M202 (pc' := 105) rfl rfl rfl ?_
                  refine sf_R_iadd pm_M202 (pc' := 106) (pm_q202_1 (Nat.le_of_ble_eq_true rfl)) rfl Bx2_49336 B48342 (by decide) (by decide) (fun z49343 e49344 B49345 => ?_)
                  refine pm_R_lo pm_M202 (pc' := 107) (pm_q202_1 (Nat.le_of_ble_eq_true rfl)) rfl rfl ?_
                  refine rf_R_get pm_M202 T_49336 (pc' := 110) (v := .int (m_49336 24)) (pm_q202_1 (Nat.le_of_ble_eq_true rfl)) rfl rfl rfl ?_
                  refine pm_R_icmp pm_M202 (t := 155) (pc' := 113) (pm_q202_1 (Nat.le_of_ble_eq_true rfl)) rfl rfl (fun c49346 => ?_) (fun c49346 => ?_)
                  · have B49347 : sf_B 2 22 z49343 := sf_leR c49346 B49339 B49345
                    refine sf_R_iinc pm_M202 (pc' := 158) (ls' := fun z => [.ref 41, .int z, .int x2_49336, g3_49336, g4_43329, g5_43329]) (pm_q202_1 (Nat.le_of_ble_eq_true rfl)) B48342 rfl (by decide) (by decide) (by decide) (fun _ => rfl) rfl (fun z49348 e49349 B49350 => ?_)
                    show pm_R _ 202 158 [.ref 41, .int z49348, .int x2_49336, g3_49336, g4_43329, g5_43329] [] _ _
                    refine pm_R_br pm_M202 (pc' := 93) (pm_q202_1 (Nat.le_of_ble_eq_true rfl)) rfl ?_
                    exact ih_48335 _ (sf_up hN_48335 e49349 B48342 (by decide) (by decide)) h_49336 m_49336 w_49336 z49348 (.int x2_49336) (g3_49336) T_49336 F_49336 W49342 (sf_weak B49350 (by decide) (by decide)) rfl rfl
                  · have B49351 : sf_B 1 11 z49343 := sf_ltL (Int32.not_le.mp c49346) B49345 B49339
                    have B49352 : sf_B 0 10 x2_49336 := sf_addL e49344 B49351 B48342 Bx2_49336
                    refine pm_R_op pm_M202 (pc' := 114) (st' := [.int 0]) (pm_q202_1 (Nat.le_of_ble_eq_true rfl)) rfl rfl ?_
                    refine pm_R_lo pm_M202 (pc' := 115) (ls' := [.ref 41, .int x1_48335, .int x2_49336, .int 0, g4_43329, g5_43329]) (st' := []) (pm_q202_1 (Nat.le_of_ble_eq_true rfl)) rfl rfl ?_
                    have L_49538 : ∀ (N : Nat) (h_49538 : pm_H) (m_49538 : Nat → Int32) (w_49538 : Int64) (x3_49538 : Int32), rf_T m_49538 w_49538 h_49538 → rf_G [55] h h_49538 → rf_W [] m_49336 m_49538 → sf_B 0 6 x3_49538 → (6 - x3_49538.toInt).toNat = N → pm_R (d + 4) 202 115 [.ref 41, .int x1_48335, .int x2_49336, .int x3_49538, g4_43329, g5_43329] [] h_49538 Q := by
                      intro N
                      induction N using Nat.strongRecOn with
                      | ind N ih_49538 =>
                        intro h_49538 m_49538 w_49538 x3_49538 T_49538 F_49538 W_49538 Bx3_49538 hN_49538
                        have B49541 : sf_B 2 12 (m_49538 24) := by rw [W_49538 24 (by decide)]; exact B49339
                        have W49542 : rf_W [] m m_49538 := W49340.trans W_49538 (by decide)
                        have W49543 : rf_W [] m m_49538 := W49341.trans W_49538 (by decide)
                        have W49544 : rf_W [] m_43329 m_49538 := W49342.trans W_49538 (by decide)
                        have W49545 : rf_W [] m_48335 m_49538 := W_49336.trans W_49538 (by decide)
                        refine pm_R_lo pm_M202 (pc' := 116) (pm_q202_1 (Nat.le_of_ble_eq_true rfl)) rfl rfl ?_
                        refine pm_R_op pm_M202 (pc' := 118) (st' := [.int 6, .int x3_49538]) (pm_q202_1 (Nat.le_of_ble_eq_true rfl)) rfl rfl ?_
                        refine pm_R_icmp pm_M202 (t := 149) (pc' := 121) (pm_q202_1 (Nat.le_of_ble_eq_true rfl)) rfl rfl (fun c49546 => ?_) (fun c49546 => ?_)
                        · have B49547 : sf_B 6 6 x3_49538 := sf_leR c49546 sf_k6 Bx3_49538
                          refine sf_R_iinc pm_M202 (pc' := 152) (ls' := fun z => [.ref 41, .int x1_48335, .int z, .int x3_49538, g4_43329, g5_43329]) (pm_q202_1 (Nat.le_of_ble_eq_true rfl)) B49352 rfl (by decide) (by decide) (by decide) (fun _ => rfl) rfl (fun z49548 e49549 B49550 => ?_)
                          show pm_R _ 202 152 [.ref 41, .int x1_48335, .int z49548, .int x3_49538, g4_43329, g5_43329] [] _ _
                          refine pm_R_br pm_M202 (pc' := 103) (pm_q202_1 (Nat.le_of_ble_eq_true rfl)) rfl ?_
                          exact ih_49336 _ (sf_up hN_49336 e49549 B49352 (by decide) (by decide)) h_49538 m_49538 w_49538 z49548 (.int x3_49538) T_49538 F_49538 W49545 (sf_weak B49550 (by decide) (by decide)) rfl
                        · have B49551 : sf_B 0 5 x3_49538 := sf_ltL (Int32.not_le.mp c49546) Bx3_49538 sf_k6
                          refine pm_R_lo pm_M202 (pc' := 122) (pm_q202_1 (Nat.le_of_ble_eq_true rfl)) rfl rfl ?_
                          refine rf_R_get pm_M202 T_49538 (pc' := 125) (v := .ref 55) (pm_q202_1 (Nat.le_of_ble_eq_true rfl)) rfl rfl rfl ?_
                          refine pm_R_lo pm_M202 (pc' := 126) (pm_q202_1 (Nat.le_of_ble_eq_true rfl)) rfl rfl ?_
                          refine pm_R_lo pm_M202 (pc' := 127) (pm_q202_1 (Nat.le_of_ble_eq_true rfl)) rfl rfl ?_
                          refine pm_R_lo pm_M202 (pc' := 128) (pm_q202_1 (Nat.le_of_ble_eq_true rfl)) rfl rfl ?_
                          refine pm_R_lo pm_M202 (pc' := 129) (pm_q202_1 (Nat.le_of_ble_eq_true rfl)) rfl rfl ?_
                          refine sf_R_iaddV pm_M202 (pc' := 130) (pm_q202_1 (Nat.le_of_ble_eq_true rfl)) rfl Bx2_49336 B48342 (by decide) (by decide) e49344 ?_
                          refine pm_R_cs pm_M202 (pc' := 133) (ra := [.int z49343, .int x2_49336, .int x3_49538]) (rest := [.ref 55]) (ls' := [.int x3_49538, .int x2_49336, .int z49343]) (pm_q202_1 (Nat.le_of_ble_eq_true rfl)) rfl (Or.inl rfl) pm_M207 rfl rfl (Nat.le_of_ble_eq_true rfl) rfl rfl ?_
                          refine pm_R_op pm_M207 (pc' := 3) (st' := [.int 144]) rfl rfl rfl ?_
                          refine pm_R_lo pm_M207 (pc' := 4) rfl rfl rfl ?_
                          refine sf_R_imul pm_M207 (pc' := 5) rfl rfl sf_k144 B49551 (by decide) (by decide) (by decide) (fun z49552 e49553 B49554 => ?_)
                          refine pm_R_op pm_M207 (pc' := 7) (st' := [.int 12, .int z49552]) rfl rfl rfl ?_
                          refine pm_R_lo pm_M207 (pc' := 8) rfl rfl rfl ?_
                          refine sf_R_imul pm_M207 (pc' := 9) rfl rfl sf_k12 B49352 (by decide) (by decide) (by decide) (fun z49555 e49556 B49557 => ?_)
                          refine sf_R_iadd pm_M207 (pc' := 10) rfl rfl B49554 B49557 (by decide) (by decide) (fun z49558 e49559 B49560 => ?_)
                          refine pm_R_lo pm_M207 (pc' := 11) rfl rfl rfl ?_
                          refine sf_R_iadd pm_M207 (pc' := 12) rfl rfl B49560 B49351 (by decide) (by decide) (fun z49561 e49562 B49563 => ?_)
                          refine pm_R_ret pm_M207 (r := some (.int z49561)) rfl (pm_ret_i _) ?_
                          show pm_R _ 202 133 [.ref 41, .int x1_48335, .int x2_49336, .int x3_49538, g4_43329, g5_43329] [.int z49561, .ref 55] _ _
                          refine pm_R_lo pm_M202 (pc' := 134) (pm_q202_1 (Nat.le_of_ble_eq_true rfl)) rfl rfl ?_
                          refine pm_R_lo pm_M202 (pc' := 135) (pm_q202_1 (Nat.le_of_ble_eq_true rfl)) rfl rfl ?_
                          refine pm_R_lo pm_M202 (pc' := 136) (pm_q202_1 (Nat.le_of_ble_eq_true rfl)) rfl rfl ?_
                          refine pm_R_lo pm_M202 (pc' := 137) (pm_q202_1 (Nat.le_of_ble_eq_true rfl)) rfl rfl ?_
                          refine pm_R_lo pm_M202 (pc' := 138) (pm_q202_1 (Nat.le_of_ble_eq_true rfl)) rfl rfl ?_
                          refine sf_R_iaddV pm_M202 (pc' := 139) (pm_q202_1 (Nat.le_of_ble_eq_true rfl)) rfl Bx2_49336 B48342 (by decide) (by decide) e49344 ?_
                          refine pm_R_cv pm_M202 (pc' := 142) (a := 41) (ra := [.int z49343, .int x2_49336, .int x3_49538]) (rest := [.int z49561, .ref 55]) (ls' := [.ref 41, .int x3_49538, .int x2_49336, .int z49343, pm_no, pm_no, pm_no, pm_no]) (pm_q202_1 (Nat.le_of_ble_eq_true rfl)) rfl (Or.inl rfl) pm_M208 T_49538.2.1 rfl (by decide) (Nat.lt_of_lt_of_le (by decide) T_49538.1) rfl rfl (Nat.le_of_ble_eq_true rfl) rfl rfl ?_
                          refine rf_c208 (d := d + 0) T_49538 B49551 (sf_weak B49352 (by decide) (by decide)) (sf_weak B49351 (by decide) (by decide)) (fun r49564 B49565 => ?_)
                          show pm_R _ 202 142 [.ref 41, .int x1_48335, .int x2_49336, .int x3_49538, g4_43329, g5_43329] [.long r49564, .int z49561, .ref 55] _ _
                          obtain ⟨f49572, e49573, b49574⟩ := T_49538.2.2.2.1 55 (by decide) (by decide)
                          refine rf_R_lst pm_M202 T_49538 (pc' := 143) (pm_q202_1 (Nat.le_of_ble_eq_true rfl)) e49573 (by decide) (by decide) (sf_in B49563 (by decide) (by decide)) ⟨_, rfl, lf_upd b49574 B49565 _⟩ rfl (fun h49575 T49576 F49577 e49578 => ?_)
                          have F49579 := F_49538.trans F49577 (by decide)
                          refine sf_R_iinc pm_M202 (pc' := 146) (ls' := fun z => [.ref 41, .int x1_48335, .int x2_49336, .int z, g4_43329, g5_43329]) (pm_q202_1 (Nat.le_of_ble_eq_true rfl)) B49551 rfl (by decide) (by decide) (by decide) (fun _ => rfl) rfl (fun z49580 e49581 B49582 => ?_)
                          show pm_R _ 202 146 [.ref 41, .int x1_48335, .int x2_49336, .int z49580, g4_43329, g5_43329] [] _ _
                          refine pm_R_br pm_M202 (pc' := 115) (pm_q202_1 (Nat.le_of_ble_eq_true rfl)) rfl ?_
                          exact ih_49538 _ (sf_up hN_49538 e49581 B49551 (by decide) (by decide)) h49575 m_49538 w_49538 z49580 T49576 F49579 W_49538 (sf_weak B49582 (by decide) (by decide)) rfl
                    exact L_49538 _ h_49336 m_49336 w_49336 0 T_49336 F_49336 (rf_W.refl _ _) (sf_weak sf_k0 (by decide) (by decide)) rfl
              exact L_49336 _ h_48335 m_48335 w_48335 0 (g3_48335) T_48335 F_48335 (rf_W.refl _ _) (sf_weak sf_k0 (by decide) (by decide)) rfl
        exact L_48335 _ h_43329 m_43329 w_43329 1 (g2_43329) (g3_43329) T_43329 F_43329 (rf_W.refl _ _) (sf_weak sf_k1 (by decide) (by decide)) Cg2_43329 rfl
      · have B49583 : sf_B 0 5 x1_43329 := sf_ltL (Int32.not_le.mp c43333) Bx1_43329 sf_k6
        refine pm_R_op pm_M202 (pc' := 9) (st' := [.int 0]) rfl rfl rfl ?_
        refine pm_R_lo pm_M202 (pc' := 10) (ls' := [.ref 41, .int x1_43329, .int 0, g3_43329, g4_43329, g5_43329]) (st' := []) rfl rfl rfl ?_
        have L_55074 : ∀ (N : Nat) (h_55074 : pm_H) (m_55074 : Nat → Int32) (w_55074 : Int64) (x2_55074 : Int32) (g3_55074 : Value) (g4_55074 : Value) (g5_55074 : Value), rf_T m_55074 w_55074 h_55074 → rf_G [55] h h_55074 → rf_W [] m_43329 m_55074 → sf_B 0 12 x2_55074 → g4_55074.category = 1 → g5_55074.category = 1 → (12 - x2_55074.toInt).toNat = N → pm_R (d + 4) 202 10 [.ref 41, .int x1_43329, .int x2_55074, g3_55074, g4_55074, g5_55074] [] h_55074 Q := by
          intro N
          induction N using Nat.strongRecOn with
          | ind N ih_55074 =>
            intro h_55074 m_55074 w_55074 x2_55074 g3_55074 g4_55074 g5_55074 T_55074 F_55074 W_55074 Bx2_55074 Cg4_55074 Cg5_55074 hN_55074
            have W55077 : rf_W [] m m_55074 := W43332.trans W_55074 (by decide)
            have W55078 : rf_W [] m m_55074 := W_43329.trans W_55074 (by decide)
            refine pm_R_lo pm_M202 (pc' := 11) rfl rfl rfl ?_
            refine pm_R_lo pm_M202 (pc' := 12) rfl rfl rfl ?_
            have B55079 : sf_B 0 12 (m_55074 24) := T_55074.2.2.1 24
            refine rf_R_get pm_M202 T_55074 (pc' := 15) (v := .int (m_55074 24)) rfl rfl rfl rfl ?_
            refine pm_R_icmp pm_M202 (t := 85) (pc' := 18) rfl rfl rfl (fun c55080 => ?_) (fun c55080 => ?_)
            · skip
              refine sf_R_iinc pm_M202 (pc' := 88) (ls' := fun z => [.ref 41, .int z, .int x2_55074, g3_55074, g4_55074, g5_55074]) rfl B49583 rfl (by decide) (by decide) (by decide) (fun _ => rfl) rfl (fun z55081 e55082 B55083 => ?_)
              show pm_R _ 202 88 [.ref 41, .int z55081, .int x2_55074, g3_55074, g4_55074, g5_55074] [] _ _
              refine pm_R_br pm_M202 (pc' := 2) rfl rfl ?_
              exact ih_43329 _ (sf_up hN_43329 e55082 B49583 (by decide) (by decide)) h_55074 m_55074 w_55074 z55081 (.int x2_55074) (g3_55074) (g4_55074) (g5_55074) T_55074 F_55074 W55078 (sf_weak B55083 (by decide) (by decide)) rfl Cg4_55074 Cg5_55074 rfl
            · have B55084 : sf_B 0 11 x2_55074 := sf_ltL (Int32.not_le.mp c55080) Bx2_55074 B55079
              have B55085 : sf_B 1 12 (m_55074 24) := sf_ltR (Int32.not_le.mp c55080) Bx2_55074 B55079
              refine pm_R_op pm_M202 (pc' := 19) (st' := [.long 0]) rfl rfl rfl ?_
              refine pm_R_lo pm_M202 (pc' := 20) (ls' := [.ref 41, .int x1_43329, .int x2_55074, .long 0, pm_no, g5_55074]) (st' := []) rfl rfl rfl ?_
              refine pm_R_op pm_M202 (pc' := 21) (st' := [.int 0]) rfl rfl rfl ?_
              refine pm_R_lo pm_M202 (pc' := 23) (ls' := [.ref 41, .int x1_43329, .int x2_55074, .long 0, pm_no, .int 0]) (st' := []) rfl rfl rfl ?_
              have L_55988 : ∀ (N : Nat) (x5_55988 : Int32) (y3_55988 : Int64), sf_B 0 16 x5_55988 → lf_B 0 16 y3_55988 → y3_55988.toInt ≤ x5_55988.toInt → (16 - x5_55988.toInt).toNat = N → pm_R (d + 4) 202 23 [.ref 41, .int x1_43329, .int x2_55074, .long y3_55988, pm_no, .int x5_55988] [] h_55074 Q := by
                intro N
                induction N using Nat.strongRecOn with
                | ind N ih_55988 =>
                  intro x5_55988 y3_55988 Bx5_55988 By3_55988 R0_55988 hN_55988
                  refine pm_R_lo pm_M202 (pc' := 25) rfl rfl rfl ?_
                  refine pm_R_lo pm_M202 (pc' := 26) rfl rfl rfl ?_
                  refine pm_R_cv pm_M202 (pc' := 29) (a := 41) (ra := []) (rest := [.int x5_55988]) (ls' := [.ref 41]) rfl rfl (Or.inl rfl) pm_M203 T_55074.2.1 rfl (by decide) (Nat.lt_of_lt_of_le (by decide) T_55074.1) rfl rfl (Nat.le_of_ble_eq_true rfl) rfl rfl ?_
                  refine pm_R_lo pm_M203 (pc' := 1) rfl rfl rfl ?_
                  refine rf_R_get pm_M203 T_55074 (pc' := 4) (v := .ref 47) rfl rfl rfl rfl ?_
                  refine pm_R_op pm_M203 (pc' := 6) (st' := [.int 100, .ref 47]) rfl rfl rfl ?_
                  refine pm_R_lo pm_M203 (pc' := 7) rfl rfl rfl ?_
                  have B55989 : sf_B 0 1 (m_55074 23) := T_55074.2.2.1 23
                  refine rf_R_get pm_M203 T_55074 (pc' := 10) (v := .int (m_55074 23)) rfl rfl rfl rfl ?_
                  refine sf_R_imul pm_M203 (pc' := 11) rfl rfl sf_k100 B55989 (by decide) (by decide) (by decide) (fun z55990 e55991 B55992 => ?_)
                  refine pm_R_op pm_M203 (pc' := 12) (st' := [.int 1, .int z55990, .ref 47]) rfl rfl rfl ?_
                  refine sf_R_iadd pm_M203 (pc' := 13) rfl rfl B55992 sf_k1 (by decide) (by decide) (fun z55993 e55994 B55995 => ?_)
                  obtain ⟨f55996, e55997, b55998⟩ := T_55074.2.2.2.1 47 (by decide) (by decide)
                  refine rf_R_ild pm_M203 T_55074 (pc' := 14) rfl e55997 (by decide) (sf_in B55995 (by decide) (by decide)) rfl (fun z55999 ez56000 => ?_)
                  have e56001 : (z55993).toInt = 100 * ((m_55074 23)).toInt + 1 := (sf_aux7 _ _ _ e55991 e55994)
                  have B56002 : sf_B 0 16 z55999 := ez56000 ▸ rf_p47b b55998 e56001 B55989 (by decide)
                  refine pm_R_ret pm_M203 (r := some (.int z55999)) rfl (pm_ret_i _) ?_
                  show pm_R _ 202 29 [.ref 41, .int x1_43329, .int x2_55074, .long y3_55988, pm_no, .int x5_55988] [.int z55999, .int x5_55988] _ _
                  refine pm_R_icmp pm_M202 (t := 67) (pc' := 32) rfl rfl rfl (fun c56003 => ?_) (fun c56003 => ?_)
                  · skip
                    refine pm_R_lo pm_M202 (pc' := 68) rfl rfl rfl ?_
                    refine rf_R_get pm_M202 T_55074 (pc' := 71) (v := .ref 55) rfl rfl rfl rfl ?_
                    refine pm_R_lo pm_M202 (pc' := 72) rfl rfl rfl ?_
                    refine pm_R_lo pm_M202 (pc' := 73) rfl rfl rfl ?_
                    refine pm_R_lo pm_M202 (pc' := 74) rfl rfl rfl ?_
                    refine pm_R_cs pm_M202 (pc' := 77) (ra := [.int x2_55074, .int x2_55074, .int x1_43329]) (rest := [.ref 55]) (ls' := [.int x1_43329, .int x2_55074, .int x2_55074]) rfl rfl (Or.inl rfl) pm_M207 rfl rfl (Nat.le_of_ble_eq_true rfl) rfl rfl ?_
                    refine pm_R_op pm_M207 (pc' := 3) (st' := [.int 144]) rfl rfl rfl ?_
                    refine pm_R_lo pm_M207 (pc' := 4) rfl rfl rfl ?_
                    refine sf_R_imul pm_M207 (pc' := 5) rfl rfl sf_k144 B49583 (by decide) (by decide) (by decide) (fun z56004 e56005 B56006 => ?_)
                    refine pm_R_op pm_M207 (pc' := 7) (st' := [.int 12, .int z56004]) rfl rfl rfl ?_
                    refine pm_R_lo pm_M207 (pc' := 8) rfl rfl rfl ?_
                    refine sf_R_imul pm_M207 (pc' := 9) rfl rfl sf_k12 B55084 (by decide) (by decide) (by decide) (fun z56007 e56008 B56009 => ?_)
                    refine sf_R_iadd pm_M207 (pc' := 10) rfl rfl B56006 B56009 (by decide) (by decide) (fun z56010 e56011 B56012 => ?_)
                    refine pm_R_lo pm_M207 (pc' := 11) rfl rfl rfl ?_
                    refine sf_R_iadd pm_M207 (pc' := 12) rfl rfl B56012 B55084 (by decide) (by decide) (fun z56013 e56014 B56015 => ?_)
                    refine pm_R_ret pm_M207 (r := some (.int z56013)) rfl (pm_ret_i _) ?_
                    show pm_R _ 202 77 [.ref 41, .int x1_43329, .int x2_55074, .long y3_55988, pm_no, .int x5_55988] [.int z56013, .ref 55] _ _
                    refine pm_R_lo pm_M202 (pc' := 78) rfl rfl rfl ?_
                    obtain ⟨f56016, e56017, b56018⟩ := T_55074.2.2.2.1 55 (by decide) (by decide)
                    refine rf_R_lst pm_M202 T_55074 (pc' := 79) rfl e56017 (by decide) (by decide) (sf_in B56015 (by decide) (by decide)) ⟨_, rfl, lf_upd b56018 (lf_weak By3_55988 (by decide) (by decide)) _⟩ rfl (fun h56019 T56020 F56021 e56022 => ?_)
                    have F56023 := F_55074.trans F56021 (by decide)
                    refine sf_R_iinc pm_M202 (pc' := 82) (ls' := fun z => [.ref 41, .int x1_43329, .int z, .long y3_55988, pm_no, .int x5_55988]) rfl B55084 rfl (by decide) (by decide) (by decide) (fun _ => rfl) rfl (fun z56024 e56025 B56026 => ?_)
                    show pm_R _ 202 82 [.ref 41, .int x1_43329, .int z56024, .long y3_55988, pm_no, .int x5_55988] [] _ _
                    refine pm_R_br pm_M202 (pc' := 10) rfl rfl ?_
                    exact ih_55074 _ (sf_up hN_55074 e56025 B55084 (by decide) (by decide)) h56019 m_55074 w_55074 z56024 (.long y3_55988) (pm_no) (.int x5_55988) T56020 F56023 W_55074 (sf_weak B56026 (by decide) (by decide)) rfl rfl rfl
                  · have B56027 : sf_B 0 15 x5_55988 := sf_ltL (Int32.not_le.mp c56003) Bx5_55988 B56002
                    have B56028 : lf_B 0 15 y3_55988 := lf_leT R0_55988 By3_55988 B56027
                    have B56029 : sf_B 1 16 z55999 := sf_ltR (Int32.not_le.mp c56003) Bx5_55988 B56002
                    refine pm_R_lo pm_M202 (pc' := 33) rfl rfl rfl ?_
                    refine pm_R_lo pm_M202 (pc' := 34) rfl rfl rfl ?_
                    refine pm_R_lo pm_M202 (pc' := 36) rfl rfl rfl ?_
                    refine pm_R_lo pm_M202 (pc' := 37) rfl rfl rfl ?_
                    refine pm_R_cv pm_M202 (pc' := 40) (a := 41) (ra := [.int x2_55074, .int x5_55988]) (rest := [.long y3_55988]) (ls' := [.ref 41, .int x5_55988, .int x2_55074]) rfl rfl (Or.inl rfl) pm_M204 T_55074.2.1 rfl (by decide) (Nat.lt_of_lt_of_le (by decide) T_55074.1) rfl rfl (Nat.le_of_ble_eq_true rfl) rfl rfl ?_
                    refine pm_R_lo pm_M204 (pc' := 1) rfl rfl rfl ?_
                    refine rf_R_get pm_M204 T_55074 (pc' := 4) (v := .ref 53) rfl rfl rfl rfl ?_
                    refine pm_R_lo pm_M204 (pc' := 5) rfl rfl rfl ?_
                    obtain ⟨f56030, e56031⟩ := T_55074.2.2.2.1 53 (by decide) (by decide)
                    refine rf_R_ild pm_M204 T_55074 (pc' := 6) rfl e56031 (by decide) (sf_in B55084 (by decide) (by decide)) rfl (fun z56033 ez56034 => ?_)
                    refine sf_R_lany pm_M204 (pc' := 7) (st := []) rfl rfl rfl (fun z56035 => ?_)
                    refine pm_R_lo pm_M204 (pc' := 8) rfl rfl rfl ?_
                    refine pm_R_lo pm_M204 (pc' := 9) rfl rfl rfl ?_
                    refine pm_R_op pm_M204 (pc' := 10) (st' := [.int 0, .int x5_55988, .ref 41, .long z56035]) rfl rfl rfl ?_
                    refine pm_R_cv pm_M204 (pc' := 13) (a := 41) (ra := [.int 0, .int x5_55988]) (rest := [.long z56035]) (ls' := [.ref 41, .int x5_55988, .int 0]) rfl rfl (Or.inl rfl) pm_M205 T_55074.2.1 rfl (by decide) (Nat.lt_of_lt_of_le (by decide) T_55074.1) rfl rfl (Nat.le_of_ble_eq_true rfl) rfl rfl ?_
                    refine pm_R_lo pm_M205 (pc' := 1) rfl rfl rfl ?_
                    refine rf_R_get pm_M205 T_55074 (pc' := 4) (v := .ref 47) rfl rfl rfl rfl ?_
                    refine pm_R_op pm_M205 (pc' := 6) (st' := [.int 100, .ref 47]) rfl rfl rfl ?_
                    refine pm_R_lo pm_M205 (pc' := 7) rfl rfl rfl ?_
                    refine rf_R_get pm_M205 T_55074 (pc' := 10) (v := .int (m_55074 23)) rfl rfl rfl rfl ?_
                    refine sf_R_imulV pm_M205 (pc' := 11) rfl rfl sf_k100 B55989 (by decide) (by decide) (by decide) e55991 ?_
                    refine pm_R_op pm_M205 (pc' := 13) (st' := [.int 42, .int z55990, .ref 47]) rfl rfl rfl ?_
                    refine sf_R_iadd pm_M205 (pc' := 14) rfl rfl B55992 sf_k42 (by decide) (by decide) (fun z56036 e56037 B56038 => ?_)
                    refine pm_R_op pm_M205 (pc' := 15) (st' := [.int 3, .int z56036, .ref 47]) rfl rfl rfl ?_
                    refine pm_R_lo pm_M205 (pc' := 16) rfl rfl rfl ?_
                    refine sf_R_imul pm_M205 (pc' := 17) rfl rfl sf_k3 B56027 (by decide) (by decide) (by decide) (fun z56039 e56040 B56041 => ?_)
                    refine sf_R_iadd pm_M205 (pc' := 18) rfl rfl B56038 B56041 (by decide) (by decide) (fun z56042 e56043 B56044 => ?_)
                    refine pm_R_lo pm_M205 (pc' := 19) rfl rfl rfl ?_
                    refine sf_R_iadd pm_M205 (pc' := 20) rfl rfl B56044 sf_k0 (by decide) (by decide) (fun z56045 e56046 B56047 => ?_)
                    refine rf_R_ild pm_M205 T_55074 (pc' := 21) rfl e55997 (by decide) (sf_in B56047 (by decide) (by decide)) rfl (fun z56048 ez56049 => ?_)
                    have e56050 : (z56045).toInt = 100 * ((m_55074 23)).toInt + 3 * (x5_55988).toInt + 42 := (sf_aux8 _ _ _ _ _ _ _ e55991 e56037 e56040 e56043 e56046)
                    have B56051 : sf_B 0 9 z56048 := ez56049 ▸ rf_p47s b55998 e56050 B55989 B56027 (by decide) (by decide) (by decide)
                    refine pm_R_ret pm_M205 (r := some (.int z56048)) rfl (pm_ret_i _) ?_
                    show pm_R _ 204 13 [.ref 41, .int x5_55988, .int x2_55074] [.int z56048, .long z56035] _ _
                    refine pm_R_cs pm_M204 (pc' := 16) (ra := [.int z56048, .long z56035]) (rest := []) (ls' := [.long z56035, pm_no, .int z56048]) rfl rfl (Or.inl rfl) pm_M206 rfl rfl (Nat.le_of_ble_eq_true rfl) rfl rfl ?_
                    refine pm_R_lo pm_M206 (pc' := 1) rfl rfl rfl ?_
                    refine pm_R_lo pm_M206 (pc' := 2) rfl rfl rfl ?_
                    refine sf_R_lany pm_M206 (pc' := 3) (st := []) rfl rfl rfl (fun z56052 => ?_)
                    refine pm_R_op pm_M206 (pc' := 4) (st' := [.long 1, .long z56052]) rfl rfl rfl ?_
                    refine sf_R_lany pm_M206 (pc' := 5) (st := []) rfl rfl rfl (fun z56053 => ?_)
                    refine pm_R_op pm_M206 (pc' := 6) (st' := [.long 1, .long z56053]) rfl rfl rfl ?_
                    refine sf_R_lcmp pm_M206 (pc' := 7) rfl rfl (fun z56054 e56055 => ?_)
                    refine pm_R_ifc pm_M206 (t := 14) (pc' := 10) rfl rfl rfl (fun c56056 => ?_) (fun c56056 => ?_)
                    · have k56057 := sf_lneC e56055 c56056
                      refine pm_R_op pm_M206 (pc' := 15) (st' := [.int 0]) rfl rfl rfl ?_
                      refine pm_R_ret pm_M206 (r := some (.int 0)) rfl rfl ?_
                      show pm_R _ 204 16 [.ref 41, .int x5_55988, .int x2_55074] [.int 0] _ _
                      refine pm_R_br pm_M204 (pc' := 39) (st' := []) rfl rfl ?_
                      refine pm_R_op pm_M204 (pc' := 40) (st' := [.int 0]) rfl rfl rfl ?_
                      refine pm_R_ret pm_M204 (r := some (.int 0)) rfl rfl ?_
                      show pm_R _ 202 40 [.ref 41, .int x1_43329, .int x2_55074, .long y3_55988, pm_no, .int x5_55988] [.int 0, .long y3_55988] _ _
                      refine pm_R_br pm_M202 (pc' := 58) (st' := [.long y3_55988]) rfl rfl ?_
                      refine pm_R_op pm_M202 (pc' := 59) (st' := [.long 0, .long y3_55988]) rfl rfl rfl ?_
                      refine sf_R_ladd pm_M202 (pc' := 60) rfl rfl B56028 (⟨by decide, by decide⟩ : lf_B 0 0 0) (by decide) (by decide) (fun z56058 e56059 B56060 => ?_)
                      refine pm_R_lo pm_M202 (pc' := 61) (ls' := [.ref 41, .int x1_43329, .int x2_55074, .long z56058, pm_no, .int x5_55988]) (st' := []) rfl rfl rfl ?_
                      refine sf_R_iinc pm_M202 (pc' := 64) (ls' := fun z => [.ref 41, .int x1_43329, .int x2_55074, .long z56058, pm_no, .int z]) rfl B56027 rfl (by decide) (by decide) (by decide) (fun _ => rfl) rfl (fun z56061 e56062 B56063 => ?_)
                      show pm_R _ 202 64 [.ref 41, .int x1_43329, .int x2_55074, .long z56058, pm_no, .int z56061] [] _ _
                      refine pm_R_br pm_M202 (pc' := 23) rfl rfl ?_
                      exact ih_55988 _ (sf_up hN_55988 e56062 B56027 (by decide) (by decide)) z56061 z56058 (sf_weak B56063 (by decide) (by decide)) (lf_weak B56060 (by decide) (by decide)) (sf_aux11 _ _ _ _ e56059 e56062 B56028.1 B56028.2 B56027.1 B56027.2 R0_55988) rfl
                    · have B56064 : sf_B 0 0 z56054 := sf_eqL (Classical.not_not.mp c56056) sf_k0
                      refine pm_R_op pm_M206 (pc' := 11) (st' := [.int 1]) rfl rfl rfl ?_
                      refine pm_R_br pm_M206 (pc' := 15) rfl rfl ?_
                      refine pm_R_ret pm_M206 (r := some (.int 1)) rfl rfl ?_
                      show pm_R _ 204 16 [.ref 41, .int x5_55988, .int x2_55074] [.int 1] _ _
                      refine pm_R_br pm_M204 (pc' := 19) (st' := []) rfl rfl ?_
                      refine pm_R_lo pm_M204 (pc' := 20) rfl rfl rfl ?_
                      have B56065 : sf_B (-1) 11 (m_55074 26) := T_55074.2.2.1 26
                      refine rf_R_get pm_M204 T_55074 (pc' := 23) (v := .int (m_55074 26)) rfl rfl rfl rfl ?_
                      refine pm_R_lo pm_M204 (pc' := 24) rfl rfl rfl ?_
                      refine pm_R_icmp pm_M204 (t := 35) (pc' := 27) rfl rfl rfl (fun c56066 => ?_) (fun c56066 => ?_)
                      · skip
                        refine pm_R_op pm_M204 (pc' := 36) (st' := [.int 1]) rfl rfl rfl ?_
                        refine pm_R_br pm_M204 (pc' := 40) rfl rfl ?_
                        refine pm_R_ret pm_M204 (r := some (.int 1)) rfl rfl ?_
                        show pm_R _ 202 40 [.ref 41, .int x1_43329, .int x2_55074, .long y3_55988, pm_no, .int x5_55988] [.int 1, .long y3_55988] _ _
                        refine pm_R_br pm_M202 (pc' := 43) (st' := [.long y3_55988]) rfl rfl ?_
                        refine pm_R_lo pm_M202 (pc' := 44) rfl rfl rfl ?_
                        refine pm_R_lo pm_M202 (pc' := 46) rfl rfl rfl ?_
                        refine pm_R_op pm_M202 (pc' := 47) (st' := [.int 1, .int x5_55988, .ref 41, .long y3_55988]) rfl rfl rfl ?_
                        refine pm_R_cv pm_M202 (pc' := 50) (a := 41) (ra := [.int 1, .int x5_55988]) (rest := [.long y3_55988]) (ls' := [.ref 41, .int x5_55988, .int 1]) rfl rfl (Or.inl rfl) pm_M205 T_55074.2.1 rfl (by decide) (Nat.lt_of_lt_of_le (by decide) T_55074.1) rfl rfl (Nat.le_of_ble_eq_true rfl) rfl rfl ?_
                        refine pm_R_lo pm_M205 (pc' := 1) rfl rfl rfl ?_
                        refine rf_R_get pm_M205 T_55074 (pc' := 4) (v := .ref 47) rfl rfl rfl rfl ?_
                        refine pm_R_op pm_M205 (pc' := 6) (st' := [.int 100, .ref 47]) rfl rfl rfl ?_
                        refine pm_R_lo pm_M205 (pc' := 7) rfl rfl rfl ?_
                        refine rf_R_get pm_M205 T_55074 (pc' := 10) (v := .int (m_55074 23)) rfl rfl rfl rfl ?_
                        refine sf_R_imulV pm_M205 (pc' := 11) rfl rfl sf_k100 B55989 (by decide) (by decide) (by decide) e55991 ?_
                        refine pm_R_op pm_M205 (pc' := 13) (st' := [.int 42, .int z55990, .ref 47]) rfl rfl rfl ?_
                        refine sf_R_iaddV pm_M205 (pc' := 14) rfl rfl B55992 sf_k42 (by decide) (by decide) e56037 ?_
                        refine pm_R_op pm_M205 (pc' := 15) (st' := [.int 3, .int z56036, .ref 47]) rfl rfl rfl ?_
                        refine pm_R_lo pm_M205 (pc' := 16) rfl rfl rfl ?_
                        refine sf_R_imulV pm_M205 (pc' := 17) rfl rfl sf_k3 B56027 (by decide) (by decide) (by decide) e56040 ?_
                        refine sf_R_iaddV pm_M205 (pc' := 18) rfl rfl B56038 B56041 (by decide) (by decide) e56043 ?_
                        refine pm_R_lo pm_M205 (pc' := 19) rfl rfl rfl ?_
                        refine sf_R_iadd pm_M205 (pc' := 20) rfl rfl B56044 sf_k1 (by decide) (by decide) (fun z56067 e56068 B56069 => ?_)
                        refine rf_R_ild pm_M205 T_55074 (pc' := 21) rfl e55997 (by decide) (sf_in B56069 (by decide) (by decide)) rfl (fun z56070 ez56071 => ?_)
                        have e56072 : (z56067).toInt = 100 * ((m_55074 23)).toInt + 3 * (x5_55988).toInt + 43 := (sf_aux9 _ _ _ _ _ _ _ e55991 e56037 e56040 e56043 e56068)
                        have B56073 : sf_B 0 5 z56070 := ez56071 ▸ rf_p47k b55998 e56072 B55989 B56027 (by decide) (by decide) (by decide)
                        refine pm_R_ret pm_M205 (r := some (.int z56070)) rfl (pm_ret_i _) ?_
                        show pm_R _ 202 50 [.ref 41, .int x1_43329, .int x2_55074, .long y3_55988, pm_no, .int x5_55988] [.int z56070, .long y3_55988] _ _
                        refine pm_R_lo pm_M202 (pc' := 51) rfl rfl rfl ?_
                        refine pm_R_icmp pm_M202 (t := 58) (pc' := 54) rfl rfl rfl (fun c56074 => ?_) (fun c56074 => ?_)
                        · skip
                          refine pm_R_op pm_M202 (pc' := 59) (st' := [.long 0, .long y3_55988]) rfl rfl rfl ?_
                          refine sf_R_ladd pm_M202 (pc' := 60) rfl rfl B56028 (⟨by decide, by decide⟩ : lf_B 0 0 0) (by decide) (by decide) (fun z56075 e56076 B56077 => ?_)
                          refine pm_R_lo pm_M202 (pc' := 61) (ls' := [.ref 41, .int x1_43329, .int x2_55074, .long z56075, pm_no, .int x5_55988]) (st' := []) rfl rfl rfl ?_
                          refine sf_R_iinc pm_M202 (pc' := 64) (ls' := fun z => [.ref 41, .int x1_43329, .int x2_55074, .long z56075, pm_no, .int z]) rfl B56027 rfl (by decide) (by decide) (by decide) (fun _ => rfl) rfl (fun z56078 e56079 B56080 => ?_)
                          show pm_R _ 202 64 [.ref 41, .int x1_43329, .int x2_55074, .long z56075, pm_no, .int z56078] [] _ _
                          refine pm_R_br pm_M202 (pc' := 23) rfl rfl ?_
                          exact ih_55988 _ (sf_up hN_55988 e56079 B56027 (by decide) (by decide)) z56078 z56075 (sf_weak B56080 (by decide) (by decide)) (lf_weak B56077 (by decide) (by decide)) (sf_aux11 _ _ _ _ e56076 e56079 B56028.1 B56028.2 B56027.1 B56027.2 R0_55988) rfl
                        · refine pm_R_op pm_M202 (pc' := 55) (st' := [.long 1, .long y3_55988]) rfl rfl rfl ?_
                          refine pm_R_br pm_M202 (pc' := 59) rfl rfl ?_
                          refine sf_R_ladd pm_M202 (pc' := 60) rfl rfl B56028 (⟨by decide, by decide⟩ : lf_B 1 1 1) (by decide) (by decide) (fun z56081 e56082 B56083 => ?_)
                          refine pm_R_lo pm_M202 (pc' := 61) (ls' := [.ref 41, .int x1_43329, .int x2_55074, .long z56081, pm_no, .int x5_55988]) (st' := []) rfl rfl rfl ?_
                          refine sf_R_iinc pm_M202 (pc' := 64) (ls' := fun z => [.ref 41, .int x1_43329, .int x2_55074, .long z56081, pm_no, .int z]) rfl B56027 rfl (by decide) (by decide) (by decide) (fun _ => rfl) rfl (fun z56084 e56085 B56086 => ?_)
                          show pm_R _ 202 64 [.ref 41, .int x1_43329, .int x2_55074, .long z56081, pm_no, .int z56084] [] _ _
                          refine pm_R_br pm_M202 (pc' := 23) rfl rfl ?_
                          exact ih_55988 _ (sf_up hN_55988 e56085 B56027 (by decide) (by decide)) z56084 z56081 (sf_weak B56086 (by decide) (by decide)) (lf_weak B56083 (by decide) (by decide)) (sf_aux12 _ _ _ _ e56082 e56085 B56028.1 B56028.2 B56027.1 B56027.2 R0_55988) rfl
                      · have B56087 : sf_B 0 11 (m_55074 26) := sf_eqL (Classical.not_not.mp c56066) B55084
                        refine pm_R_lo pm_M204 (pc' := 28) rfl rfl rfl ?_
                        have B56088 : sf_B 0 15 (m_55074 27) := T_55074.2.2.1 27
                        refine rf_R_get pm_M204 T_55074 (pc' := 31) (v := .int (m_55074 27)) rfl rfl rfl rfl ?_
                        refine pm_R_lo pm_M204 (pc' := 32) rfl rfl rfl ?_
                        refine pm_R_icmp pm_M204 (t := 39) (pc' := 35) rfl rfl rfl (fun c56089 => ?_) (fun c56089 => ?_)
                        · skip
                          refine pm_R_op pm_M204 (pc' := 40) (st' := [.int 0]) rfl rfl rfl ?_
                          refine pm_R_ret pm_M204 (r := some (.int 0)) rfl rfl ?_
                          show pm_R _ 202 40 [.ref 41, .int x1_43329, .int x2_55074, .long y3_55988, pm_no, .int x5_55988] [.int 0, .long y3_55988] _ _
                          refine pm_R_br pm_M202 (pc' := 58) (st' := [.long y3_55988]) rfl rfl ?_
                          refine pm_R_op pm_M202 (pc' := 59) (st' := [.long 0, .long y3_55988]) rfl rfl rfl ?_
                          refine sf_R_ladd pm_M202 (pc' := 60) rfl rfl B56028 (⟨by decide, by decide⟩ : lf_B 0 0 0) (by decide) (by decide) (fun z56090 e56091 B56092 => ?_)
                          refine pm_R_lo pm_M202 (pc' := 61) (ls' := [.ref 41, .int x1_43329, .int x2_55074, .long z56090, pm_no, .int x5_55988]) (st' := []) rfl rfl rfl ?_
                          refine sf_R_iinc pm_M202 (pc' := 64) (ls' := fun z => [.ref 41, .int x1_43329, .int x2_55074, .long z56090, pm_no, .int z]) rfl B56027 rfl (by decide) (by decide) (by decide) (fun _ => rfl) rfl (fun z56093 e56094 B56095 => ?_)
                          show pm_R _ 202 64 [.ref 41, .int x1_43329, .int x2_55074, .long z56090, pm_no, .int z56093] [] _ _
                          refine pm_R_br pm_M202 (pc' := 23) rfl rfl ?_
                          exact ih_55988 _ (sf_up hN_55988 e56094 B56027 (by decide) (by decide)) z56093 z56090 (sf_weak B56095 (by decide) (by decide)) (lf_weak B56092 (by decide) (by decide)) (sf_aux11 _ _ _ _ e56091 e56094 B56028.1 B56028.2 B56027.1 B56027.2 R0_55988) rfl
                        · refine pm_R_op pm_M204 (pc' := 36) (st' := [.int 1]) rfl rfl rfl ?_
                          refine pm_R_br pm_M204 (pc' := 40) rfl rfl ?_
                          refine pm_R_ret pm_M204 (r := some (.int 1)) rfl rfl ?_
                          show pm_R _ 202 40 [.ref 41, .int x1_43329, .int x2_55074, .long y3_55988, pm_no, .int x5_55988] [.int 1, .long y3_55988] _ _
                          refine pm_R_br pm_M202 (pc' := 43) (st' := [.long y3_55988]) rfl rfl ?_
                          refine pm_R_lo pm_M202 (pc' := 44) rfl rfl rfl ?_
                          refine pm_R_lo pm_M202 (pc' := 46) rfl rfl rfl ?_
                          refine pm_R_op pm_M202 (pc' := 47) (st' := [.int 1, .int x5_55988, .ref 41, .long y3_55988]) rfl rfl rfl ?_
                          refine pm_R_cv pm_M202 (pc' := 50) (a := 41) (ra := [.int 1, .int x5_55988]) (rest := [.long y3_55988]) (ls' := [.ref 41, .int x5_55988, .int 1]) rfl rfl (Or.inl rfl) pm_M205 T_55074.2.1 rfl (by decide) (Nat.lt_of_lt_of_le (by decide) T_55074.1) rfl rfl (Nat.le_of_ble_eq_true rfl) rfl rfl ?_
                          refine pm_R_lo pm_M205 (pc' := 1) rfl rfl rfl ?_
                          refine rf_R_get pm_M205 T_55074 (pc' := 4) (v := .ref 47) rfl rfl rfl rfl ?_
                          refine pm_R_op pm_M205 (pc' := 6) (st' := [.int 100, .ref 47]) rfl rfl rfl ?_
                          refine pm_R_lo pm_M205 (pc' := 7) rfl rfl rfl ?_
                          refine rf_R_get pm_M205 T_55074 (pc' := 10) (v := .int (m_55074 23)) rfl rfl rfl rfl ?_
                          refine sf_R_imulV pm_M205 (pc' := 11) rfl rfl sf_k100 B55989 (by decide) (by decide) (by decide) e55991 ?_
                          refine pm_R_op pm_M205 (pc' := 13) (st' := [.int 42, .int z55990, .ref 47]) rfl rfl rfl ?_
                          refine sf_R_iaddV pm_M205 (pc' := 14) rfl rfl B55992 sf_k42 (by decide) (by decide) e56037 ?_
                          refine pm_R_op pm_M205 (pc' := 15) (st' := [.int 3, .int z56036, .ref 47]) rfl rfl rfl ?_
                          refine pm_R_lo pm_M205 (pc' := 16) rfl rfl rfl ?_
                          refine sf_R_imulV pm_M205 (pc' := 17) rfl rfl sf_k3 B56027 (by decide) (by decide) (by decide) e56040 ?_
                          refine sf_R_iaddV pm_M205 (pc' := 18) rfl rfl B56038 B56041 (by decide) (by decide) e56043 ?_
                          refine pm_R_lo pm_M205 (pc' := 19) rfl rfl rfl ?_
                          refine sf_R_iadd pm_M205 (pc' := 20) rfl rfl B56044 sf_k1 (by decide) (by decide) (fun z56096 e56097 B56098 => ?_)
                          refine rf_R_ild pm_M205 T_55074 (pc' := 21) rfl e55997 (by decide) (sf_in B56098 (by decide) (by decide)) rfl (fun z56099 ez56100 => ?_)
                          have e56101 : (z56096).toInt = 100 * ((m_55074 23)).toInt + 3 * (x5_55988).toInt + 43 := (sf_aux9 _ _ _ _ _ _ _ e55991 e56037 e56040 e56043 e56097)
                          have B56102 : sf_B 0 5 z56099 := ez56100 ▸ rf_p47k b55998 e56101 B55989 B56027 (by decide) (by decide) (by decide)
                          refine pm_R_ret pm_M205 (r := some (.int z56099)) rfl (pm_ret_i _) ?_
                          show pm_R _ 202 50 [.ref 41, .int x1_43329, .int x2_55074, .long y3_55988, pm_no, .int x5_55988] [.int z56099, .long y3_55988] _ _
                          refine pm_R_lo pm_M202 (pc' := 51) rfl rfl rfl ?_
                          refine pm_R_icmp pm_M202 (t := 58) (pc' := 54) rfl rfl rfl (fun c56103 => ?_) (fun c56103 => ?_)
                          · skip
                            refine pm_R_op pm_M202 (pc' := 59) (st' := [.long 0, .long y3_55988]) rfl rfl rfl ?_
                            refine sf_R_ladd pm_M202 (pc' := 60) rfl rfl B56028 (⟨by decide, by decide⟩ : lf_B 0 0 0) (by decide) (by decide) (fun z56104 e56105 B56106 => ?_)
                            refine pm_R_lo pm_M202 (pc' := 61) (ls' := [.ref 41, .int x1_43329, .int x2_55074, .long z56104, pm_no, .int x5_55988]) (st' := []) rfl rfl rfl ?_
                            refine sf_R_iinc pm_M202 (pc' := 64) (ls' := fun z => [.ref 41, .int x1_43329, .int x2_55074, .long z56104, pm_no, .int z]) rfl B56027 rfl (by decide) (by decide) (by decide) (fun _ => rfl) rfl (fun z56107 e56108 B56109 => ?_)
                            show pm_R _ 202 64 [.ref 41, .int x1_43329, .int x2_55074, .long z56104, pm_no, .int z56107] [] _ _
                            refine pm_R_br pm_M202 (pc' := 23) rfl rfl ?_
                            exact ih_55988 _ (sf_up hN_55988 e56108 B56027 (by decide) (by decide)) z56107 z56104 (sf_weak B56109 (by decide) (by decide)) (lf_weak B56106 (by decide) (by decide)) (sf_aux11 _ _ _ _ e56105 e56108 B56028.1 B56028.2 B56027.1 B56027.2 R0_55988) rfl
                          · refine pm_R_op pm_M202 (pc' := 55) (st' := [.long 1, .long y3_55988]) rfl rfl rfl ?_
                            refine pm_R_br pm_M202 (pc' := 59) rfl rfl ?_
                            refine sf_R_ladd pm_M202 (pc' := 60) rfl rfl B56028 (⟨by decide, by decide⟩ : lf_B 1 1 1) (by decide) (by decide) (fun z56110 e56111 B56112 => ?_)
                            refine pm_R_lo pm_M202 (pc' := 61) (ls' := [.ref 41, .int x1_43329, .int x2_55074, .long z56110, pm_no, .int x5_55988]) (st' := []) rfl rfl rfl ?_
                            refine sf_R_iinc pm_M202 (pc' := 64) (ls' := fun z => [.ref 41, .int x1_43329, .int x2_55074, .long z56110, pm_no, .int z]) rfl B56027 rfl (by decide) (by decide) (by decide) (fun _ => rfl) rfl (fun z56113 e56114 B56115 => ?_)
                            show pm_R _ 202 64 [.ref 41, .int x1_43329, .int x2_55074, .long z56110, pm_no, .int z56113] [] _ _
                            refine pm_R_br pm_M202 (pc' := 23) rfl rfl ?_
                            exact ih_55988 _ (sf_up hN_55988 e56114 B56027 (by decide) (by decide)) z56113 z56110 (sf_weak B56115 (by decide) (by decide)) (lf_weak B56112 (by decide) (by decide)) (sf_aux12 _ _ _ _ e56111 e56114 B56028.1 B56028.2 B56027.1 B56027.2 R0_55988) rfl
              exact L_55988 _ 0 0 (sf_weak sf_k0 (by decide) (by decide)) (lf_weak (⟨by decide, by decide⟩ : lf_B 0 0 0) (by decide) (by decide)) (by decide) rfl
        exact L_55074 _ h_43329 m_43329 w_43329 0 (g3_43329) (g4_43329) (g5_43329) T_43329 F_43329 (rf_W.refl _ _) (sf_weak sf_k0 (by decide) (by decide)) Cg4_43329 Cg5_43329 rfl
  exact L_43329 _ h m w 0 (pm_no) (pm_no) (pm_no) (pm_no) T (rf_G.refl [55] h) (rf_W.refl _ _) (sf_weak sf_k0 (by decide) (by decide)) rfl rfl rfl rfl

set_option maxRecDepth 100000 in
set_option maxHeartbeats 4000000 in
/-- SilentTableModel.addByValue -/
theorem rf_c226 {d : Nat} {m : Nat → Int32} {w : Int64} {h : pm_H} {Q : Option Value → pm_H → Prop} {a0 : Int32} {a1 : Int32} {a2 : Int32} {a3 : Int32} (T : rf_T m w h) (Ba0 : sf_B 0 9 a0) (Ba1 : sf_B 0 11 a1) (Ba2 : sf_B 0 10 a2) (Ba3 : sf_B 0 11 a3) (K : ∀ (m' : Nat → Int32) (w' : Int64) (h' : pm_H), rf_T m' w' h' → rf_G [56] h h' → rf_W [] m m' → Q none h') : pm_R (d + 2) 226 0 [.ref 41, .int a0, .int a1, .int a2, .int a3, pm_no, pm_no, pm_no, pm_no, pm_no, pm_no, pm_no] [] h Q := by
  refine pm_R_op pm_M226 (pc' := 1) (st' := [.int 0]) rfl rfl rfl ?_
  refine pm_R_lo pm_M226 (pc' := 3) (ls' := [.ref 41, .int a0, .int a1, .int a2, .int a3, .int 0, pm_no, pm_no, pm_no, pm_no, pm_no, pm_no]) (st' := []) rfl rfl rfl ?_
  have L_10010 : ∀ (N : Nat) (h_10010 : pm_H) (m_10010 : Nat → Int32) (w_10010 : Int64) (x5_10010 : Int32) (g6_10010 : Value) (g7_10010 : Value) (g8_10010 : Value) (g9_10010 : Value) (g10_10010 : Value) (g11_10010 : Value), rf_T m_10010 w_10010 h_10010 → rf_G [56] h h_10010 → rf_W [] m m_10010 → sf_B 0 50 x5_10010 → g7_10010.category = 1 → g8_10010.category = 1 → g10_10010.category = 1 → g11_10010.category = 1 → (50 - x5_10010.toInt).toNat = N → pm_R (d + 2) 226 3 [.ref 41, .int a0, .int a1, .int a2, .int a3, .int x5_10010, g6_10010, g7_10010, g8_10010, g9_10010, g10_10010, g11_10010] [] h_10010 Q := by
    intro N
    induction N using Nat.strongRecOn with
    | ind N ih_10010 =>
      intro h_10010 m_10010 w_10010 x5_10010 g6_10010 g7_10010 g8_10010 g9_10010 g10_10010 g11_10010 T_10010 F_10010 W_10010 Bx5_10010 Cg7_10010 Cg8_10010 Cg10_10010 Cg11_10010 hN_10010
      have W10013 : rf_W [] m m_10010 := (rf_W.refl [] m).trans W_10010 (by decide)
      refine pm_R_lo pm_M226 (pc' := 5) rfl rfl rfl ?_
      refine pm_R_op pm_M226 (pc' := 7) (st' := [.int 50, .int x5_10010]) rfl rfl rfl ?_
      refine pm_R_icmp pm_M226 (t := 150) (pc' := 10) rfl rfl rfl (fun c10014 => ?_) (fun c10014 => ?_)
      · have B10015 : sf_B 50 50 x5_10010 := sf_leR c10014 sf_k50 Bx5_10010
        exact pm_R_ret pm_M226 (r := none) (pm_q226_1 (Nat.le_of_ble_eq_true rfl)) rfl (K m_10010 w_10010 h_10010 T_10010 F_10010 W10013)
      · have B10016 : sf_B 0 49 x5_10010 := sf_ltL (Int32.not_le.mp c10014) Bx5_10010 sf_k50
        refine pm_R_lo pm_M226 (pc' := 11) rfl rfl rfl ?_
        refine rf_R_get pm_M226 T_10010 (pc' := 14) (v := .ref 56) rfl rfl rfl rfl ?_
        refine pm_R_lo pm_M226 (pc' := 15) rfl rfl rfl ?_
        refine pm_R_lo pm_M226 (pc' := 16) rfl rfl rfl ?_
        refine pm_R_op pm_M226 (pc' := 17) (st' := [.int 1, .int a0, .ref 41, .ref 56]) rfl rfl rfl ?_
        refine pm_R_cv pm_M226 (pc' := 20) (a := 41) (ra := [.int 1, .int a0]) (rest := [.ref 56]) (ls' := [.ref 41, .int a0, .int 1]) rfl rfl (Or.inl rfl) pm_M210 T_10010.2.1 rfl (by decide) (Nat.lt_of_lt_of_le (by decide) T_10010.1) rfl rfl (Nat.le_of_ble_eq_true rfl) rfl rfl ?_
        refine pm_R_lo pm_M210 (pc' := 1) rfl rfl rfl ?_
        refine rf_R_get pm_M210 T_10010 (pc' := 4) (v := .ref 47) rfl rfl rfl rfl ?_
        refine pm_R_op pm_M210 (pc' := 6) (st' := [.int 100, .ref 47]) rfl rfl rfl ?_
        refine pm_R_lo pm_M210 (pc' := 7) rfl rfl rfl ?_
        have B10017 : sf_B 0 1 (m_10010 23) := T_10010.2.2.1 23
        refine rf_R_get pm_M210 T_10010 (pc' := 10) (v := .int (m_10010 23)) rfl rfl rfl rfl ?_
        refine sf_R_imul pm_M210 (pc' := 11) rfl rfl sf_k100 B10017 (by decide) (by decide) (by decide) (fun z10018 e10019 B10020 => ?_)
        refine pm_R_op pm_M210 (pc' := 12) (st' := [.int 2, .int z10018, .ref 47]) rfl rfl rfl ?_
        refine sf_R_iadd pm_M210 (pc' := 13) rfl rfl B10020 sf_k2 (by decide) (by decide) (fun z10021 e10022 B10023 => ?_)
        refine pm_R_op pm_M210 (pc' := 14) (st' := [.int 4, .int z10021, .ref 47]) rfl rfl rfl ?_
        refine pm_R_lo pm_M210 (pc' := 15) rfl rfl rfl ?_
        refine sf_R_imul pm_M210 (pc' := 16) rfl rfl sf_k4 Ba0 (by decide) (by decide) (by decide) (fun z10024 e10025 B10026 => ?_)
        refine sf_R_iadd pm_M210 (pc' := 17) rfl rfl B10023 B10026 (by decide) (by decide) (fun z10027 e10028 B10029 => ?_)
        refine pm_R_lo pm_M210 (pc' := 18) rfl rfl rfl ?_
        refine sf_R_iadd pm_M210 (pc' := 19) rfl rfl B10029 sf_k1 (by decide) (by decide) (fun z10030 e10031 B10032 => ?_)
        obtain ⟨f10033, e10034, b10035⟩ := T_10010.2.2.2.1 47 (by decide) (by decide)
        refine rf_R_ild pm_M210 T_10010 (pc' := 20) rfl e10034 (by decide) (sf_in B10032 (by decide) (by decide)) rfl (fun z10036 ez10037 => ?_)
        have e10038 : (z10030).toInt = 100 * ((m_10010 23)).toInt + 4 * (a0).toInt + 3 := (sf_aux5 _ _ _ _ _ _ _ e10019 e10022 e10025 e10028 e10031)
        have B10039 : sf_B 0 5 z10036 := ez10037 ▸ rf_p47r b10035 e10038 B10017 Ba0 (by decide) (by decide) (by decide)
        refine pm_R_ret pm_M210 (r := some (.int z10036)) rfl (pm_ret_i _) ?_
        show pm_R _ 226 20 [.ref 41, .int a0, .int a1, .int a2, .int a3, .int x5_10010, g6_10010, g7_10010, g8_10010, g9_10010, g10_10010, g11_10010] [.int z10036, .ref 56] _ _
        refine pm_R_lo pm_M226 (pc' := 21) rfl rfl rfl ?_
        refine pm_R_lo pm_M226 (pc' := 22) rfl rfl rfl ?_
        refine pm_R_lo pm_M226 (pc' := 24) rfl rfl rfl ?_
        refine pm_R_cs pm_M226 (pc' := 27) (ra := [.int x5_10010, .int a2, .int a1, .int z10036]) (rest := [.ref 56]) (ls' := [.int z10036, .int a1, .int a2, .int x5_10010]) rfl rfl (Or.inl rfl) pm_M225 rfl rfl (Nat.le_of_ble_eq_true rfl) rfl rfl ?_
        refine pm_R_op pm_M225 (pc' := 2) (st' := [.int 50]) rfl rfl rfl ?_
        refine pm_R_lo pm_M225 (pc' := 3) rfl rfl rfl ?_
        refine pm_R_lo pm_M225 (pc' := 4) rfl rfl rfl ?_
        refine pm_R_lo pm_M225 (pc' := 5) rfl rfl rfl ?_
        refine pm_R_cs pm_M225 (pc' := 8) (ra := [.int a2, .int a1, .int z10036]) (rest := [.int 50]) (ls' := [.int z10036, .int a1, .int a2]) rfl rfl (Or.inl rfl) pm_M207 rfl rfl (Nat.le_of_ble_eq_true rfl) rfl rfl ?_
        refine pm_R_op pm_M207 (pc' := 3) (st' := [.int 144]) rfl rfl rfl ?_
        refine pm_R_lo pm_M207 (pc' := 4) rfl rfl rfl ?_
        refine sf_R_imul pm_M207 (pc' := 5) rfl rfl sf_k144 B10039 (by decide) (by decide) (by decide) (fun z10040 e10041 B10042 => ?_)
        refine pm_R_op pm_M207 (pc' := 7) (st' := [.int 12, .int z10040]) rfl rfl rfl ?_
        refine pm_R_lo pm_M207 (pc' := 8) rfl rfl rfl ?_
        refine sf_R_imul pm_M207 (pc' := 9) rfl rfl sf_k12 Ba1 (by decide) (by decide) (by decide) (fun z10043 e10044 B10045 => ?_)
        refine sf_R_iadd pm_M207 (pc' := 10) rfl rfl B10042 B10045 (by decide) (by decide) (fun z10046 e10047 B10048 => ?_)
        refine pm_R_lo pm_M207 (pc' := 11) rfl rfl rfl ?_
        refine sf_R_iadd pm_M207 (pc' := 12) rfl rfl B10048 Ba2 (by decide) (by decide) (fun z10049 e10050 B10051 => ?_)
        refine pm_R_ret pm_M207 (r := some (.int z10049)) rfl (pm_ret_i _) ?_
        show pm_R _ 225 8 [.int z10036, .int a1, .int a2, .int x5_10010] [.int z10049, .int 50] _ _
        refine sf_R_imul pm_M225 (pc' := 9) rfl rfl sf_k50 B10051 (by decide) (by decide) (by decide) (fun z10052 e10053 B10054 => ?_)
        refine pm_R_lo pm_M225 (pc' := 10) rfl rfl rfl ?_
        refine sf_R_iadd pm_M225 (pc' := 11) rfl rfl B10054 B10016 (by decide) (by decide) (fun z10055 e10056 B10057 => ?_)
        refine pm_R_ret pm_M225 (r := some (.int z10055)) rfl (pm_ret_i _) ?_
        show pm_R _ 226 27 [.ref 41, .int a0, .int a1, .int a2, .int a3, .int x5_10010, g6_10010, g7_10010, g8_10010, g9_10010, g10_10010, g11_10010] [.int z10055, .ref 56] _ _
        obtain ⟨f10058, e10059⟩ := T_10010.2.2.2.1 56 (by decide) (by decide)
        refine rf_R_lld pm_M226 T_10010 (pc' := 28) rfl e10059 (by decide) (by decide) (sf_in B10057 (by decide) (by decide)) rfl (fun z10061 ez10062 => ?_)
        refine pm_R_lo pm_M226 (pc' := 30) (ls' := [.ref 41, .int a0, .int a1, .int a2, .int a3, .int x5_10010, .long z10061, pm_no, g8_10010, g9_10010, g10_10010, g11_10010]) (st' := []) rfl rfl rfl ?_
        refine pm_R_op pm_M226 (pc' := 31) (st' := [.int 0]) rfl rfl rfl ?_
        refine pm_R_lo pm_M226 (pc' := 33) (ls' := [.ref 41, .int a0, .int a1, .int a2, .int a3, .int x5_10010, .long z10061, pm_no, .int 0, g9_10010, g10_10010, g11_10010]) (st' := []) rfl rfl rfl ?_
        have L_12008 : ∀ (N : Nat) (h_12008 : pm_H) (m_12008 : Nat → Int32) (w_12008 : Int64) (x8_12008 : Int32) (g9_12008 : Value) (g10_12008 : Value) (g11_12008 : Value), rf_T m_12008 w_12008 h_12008 → rf_G [56] h h_12008 → rf_W [] m_10010 m_12008 → sf_B 0 50 x8_12008 → g10_12008.category = 1 → g11_12008.category = 1 → (50 - x8_12008.toInt).toNat = N → pm_R (d + 2) 226 33 [.ref 41, .int a0, .int a1, .int a2, .int a3, .int x5_10010, .long z10061, pm_no, .int x8_12008, g9_12008, g10_12008, g11_12008] [] h_12008 Q := by
          intro N
          induction N using Nat.strongRecOn with
          | ind N ih_12008 =>
            intro h_12008 m_12008 w_12008 x8_12008 g9_12008 g10_12008 g11_12008 T_12008 F_12008 W_12008 Bx8_12008 Cg10_12008 Cg11_12008 hN_12008
            have W12011 : rf_W [] m m_12008 := W10013.trans W_12008 (by decide)
            have W12012 : rf_W [] m m_12008 := W_10010.trans W_12008 (by decide)
            refine pm_R_lo pm_M226 (pc' := 35) rfl rfl rfl ?_
            refine pm_R_op pm_M226 (pc' := 37) (st' := [.int 50, .int x8_12008]) rfl rfl rfl ?_
            refine pm_R_icmp pm_M226 (t := 144) (pc' := 40) rfl rfl rfl (fun c12013 => ?_) (fun c12013 => ?_)
            · have B12014 : sf_B 50 50 x8_12008 := sf_leR c12013 sf_k50 Bx8_12008
              refine sf_R_iinc pm_M226 (pc' := 147) (ls' := fun z => [.ref 41, .int a0, .int a1, .int a2, .int a3, .int z, .long z10061, pm_no, .int x8_12008, g9_12008, g10_12008, g11_12008]) (pm_q226_1 (Nat.le_of_ble_eq_true rfl)) B10016 rfl (by decide) (by decide) (by decide) (fun _ => rfl) rfl (fun z12015 e12016 B12017 => ?_)
              show pm_R _ 226 147 [.ref 41, .int a0, .int a1, .int a2, .int a3, .int z12015, .long z10061, pm_no, .int x8_12008, g9_12008, g10_12008, g11_12008] [] _ _
              refine pm_R_br pm_M226 (pc' := 3) (pm_q226_1 (Nat.le_of_ble_eq_true rfl)) rfl ?_
              exact ih_10010 _ (sf_up hN_10010 e12016 B10016 (by decide) (by decide)) h_12008 m_12008 w_12008 z12015 (.long z10061) (pm_no) (.int x8_12008) (g9_12008) (g10_12008) (g11_12008) T_12008 F_12008 W12012 (sf_weak B12017 (by decide) (by decide)) rfl rfl Cg10_12008 Cg11_12008 rfl
            · have B12018 : sf_B 0 49 x8_12008 := sf_ltL (Int32.not_le.mp c12013) Bx8_12008 sf_k50
              refine pm_R_lo pm_M226 (pc' := 42) rfl rfl rfl ?_
              refine pm_R_op pm_M226 (pc' := 43) (st' := [.long 0, .long z10061]) rfl rfl rfl ?_
              refine sf_R_lcmp pm_M226 (pc' := 44) rfl rfl (fun z12019 e12020 => ?_)
              refine pm_R_ifc pm_M226 (t := 144) (pc' := 47) rfl rfl rfl (fun c12021 => ?_) (fun c12021 => ?_)
              · have B12022 : sf_B (-2147483648) 0 z12019 := sf_leL c12021 (sf_any z12019) sf_k0
                refine sf_R_iinc pm_M226 (pc' := 147) (ls' := fun z => [.ref 41, .int a0, .int a1, .int a2, .int a3, .int z, .long z10061, pm_no, .int x8_12008, g9_12008, g10_12008, g11_12008]) (pm_q226_1 (Nat.le_of_ble_eq_true rfl)) B10016 rfl (by decide) (by decide) (by decide) (fun _ => rfl) rfl (fun z12023 e12024 B12025 => ?_)
                show pm_R _ 226 147 [.ref 41, .int a0, .int a1, .int a2, .int a3, .int z12023, .long z10061, pm_no, .int x8_12008, g9_12008, g10_12008, g11_12008] [] _ _
                refine pm_R_br pm_M226 (pc' := 3) (pm_q226_1 (Nat.le_of_ble_eq_true rfl)) rfl ?_
                exact ih_10010 _ (sf_up hN_10010 e12024 B10016 (by decide) (by decide)) h_12008 m_12008 w_12008 z12023 (.long z10061) (pm_no) (.int x8_12008) (g9_12008) (g10_12008) (g11_12008) T_12008 F_12008 W12012 (sf_weak B12025 (by decide) (by decide)) rfl rfl Cg10_12008 Cg11_12008 rfl
              · have B12026 : sf_B 1 2147483647 z12019 := sf_ltR (Int32.not_le.mp c12021) sf_k0 (sf_any z12019)
                have k12027 := lf_ge e12020 B12026 (by decide)
                have B12028 : lf_B 0 9223372036854775807 z10061 := lf_geB k12027 (⟨by decide, by decide⟩ : lf_B 0 0 0) (lf_any _)
                have k12029 := sf_lneA e12020 B12026 (by decide)
                refine pm_R_lo pm_M226 (pc' := 48) rfl rfl rfl ?_
                refine rf_R_get pm_M226 T_12008 (pc' := 51) (v := .ref 56) rfl rfl rfl rfl ?_
                refine pm_R_lo pm_M226 (pc' := 52) rfl rfl rfl ?_
                refine pm_R_lo pm_M226 (pc' := 53) rfl rfl rfl ?_
                refine pm_R_op pm_M226 (pc' := 54) (st' := [.int 2, .int a0, .ref 41, .ref 56]) rfl rfl rfl ?_
                refine pm_R_cv pm_M226 (pc' := 57) (a := 41) (ra := [.int 2, .int a0]) (rest := [.ref 56]) (ls' := [.ref 41, .int a0, .int 2]) rfl rfl (Or.inl rfl) pm_M210 T_12008.2.1 rfl (by decide) (Nat.lt_of_lt_of_le (by decide) T_12008.1) rfl rfl (Nat.le_of_ble_eq_true rfl) rfl rfl ?_
                refine pm_R_lo pm_M210 (pc' := 1) rfl rfl rfl ?_
                refine rf_R_get pm_M210 T_12008 (pc' := 4) (v := .ref 47) rfl rfl rfl rfl ?_
                refine pm_R_op pm_M210 (pc' := 6) (st' := [.int 100, .ref 47]) rfl rfl rfl ?_
                refine pm_R_lo pm_M210 (pc' := 7) rfl rfl rfl ?_
                have B12030 : sf_B 0 1 (m_12008 23) := T_12008.2.2.1 23
                refine rf_R_get pm_M210 T_12008 (pc' := 10) (v := .int (m_12008 23)) rfl rfl rfl rfl ?_
                refine sf_R_imul pm_M210 (pc' := 11) rfl rfl sf_k100 B12030 (by decide) (by decide) (by decide) (fun z12031 e12032 B12033 => ?_)
                refine pm_R_op pm_M210 (pc' := 12) (st' := [.int 2, .int z12031, .ref 47]) rfl rfl rfl ?_
                refine sf_R_iadd pm_M210 (pc' := 13) rfl rfl B12033 sf_k2 (by decide) (by decide) (fun z12034 e12035 B12036 => ?_)
                refine pm_R_op pm_M210 (pc' := 14) (st' := [.int 4, .int z12034, .ref 47]) rfl rfl rfl ?_
                refine pm_R_lo pm_M210 (pc' := 15) rfl rfl rfl ?_
                refine sf_R_imulV pm_M210 (pc' := 16) rfl rfl sf_k4 Ba0 (by decide) (by decide) (by decide) e10025 ?_
                refine sf_R_iadd pm_M210 (pc' := 17) rfl rfl B12036 B10026 (by decide) (by decide) (fun z12037 e12038 B12039 => ?_)
                refine pm_R_lo pm_M210 (pc' := 18) rfl rfl rfl ?_
                refine sf_R_iadd pm_M210 (pc' := 19) rfl rfl B12039 sf_k2 (by decide) (by decide) (fun z12040 e12041 B12042 => ?_)
                obtain ⟨f12043, e12044, b12045⟩ := T_12008.2.2.2.1 47 (by decide) (by decide)
                refine rf_R_ild pm_M210 T_12008 (pc' := 20) rfl e12044 (by decide) (sf_in B12042 (by decide) (by decide)) rfl (fun z12046 ez12047 => ?_)
                have e12048 : (z12040).toInt = 100 * ((m_12008 23)).toInt + 4 * (a0).toInt + 4 := (sf_aux6 _ _ _ _ _ _ _ e12032 e12035 e10025 e12038 e12041)
                have B12049 : sf_B 0 5 z12046 := ez12047 ▸ rf_p47r b12045 e12048 B12030 Ba0 (by decide) (by decide) (by decide)
                refine pm_R_ret pm_M210 (r := some (.int z12046)) rfl (pm_ret_i _) ?_
                show pm_R _ 226 57 [.ref 41, .int a0, .int a1, .int a2, .int a3, .int x5_10010, .long z10061, pm_no, .int x8_12008, g9_12008, g10_12008, g11_12008] [.int z12046, .ref 56] _ _
                refine pm_R_lo pm_M226 (pc' := 58) rfl rfl rfl ?_
                refine pm_R_op pm_M226 (pc' := 59) (st' := [.int 1, .int a2, .int z12046, .ref 56]) rfl rfl rfl ?_
                refine sf_R_iadd pm_M226 (pc' := 60) rfl rfl Ba2 sf_k1 (by decide) (by decide) (fun z12050 e12051 B12052 => ?_)
                refine pm_R_lo pm_M226 (pc' := 62) rfl rfl rfl ?_
                refine pm_R_lo pm_M226 (pc' := 64) rfl rfl rfl ?_
                refine pm_R_cs pm_M226 (pc' := 67) (ra := [.int x8_12008, .int a3, .int z12050, .int z12046]) (rest := [.ref 56]) (ls' := [.int z12046, .int z12050, .int a3, .int x8_12008]) rfl rfl (Or.inl rfl) pm_M225 rfl rfl (Nat.le_of_ble_eq_true rfl) rfl rfl ?_
                refine pm_R_op pm_M225 (pc' := 2) (st' := [.int 50]) rfl rfl rfl ?_
                refine pm_R_lo pm_M225 (pc' := 3) rfl rfl rfl ?_
                refine pm_R_lo pm_M225 (pc' := 4) rfl rfl rfl ?_
                refine pm_R_lo pm_M225 (pc' := 5) rfl rfl rfl ?_
                refine pm_R_cs pm_M225 (pc' := 8) (ra := [.int a3, .int z12050, .int z12046]) (rest := [.int 50]) (ls' := [.int z12046, .int z12050, .int a3]) rfl rfl (Or.inl rfl) pm_M207 rfl rfl (Nat.le_of_ble_eq_true rfl) rfl rfl ?_
                refine pm_R_op pm_M207 (pc' := 3) (st' := [.int 144]) rfl rfl rfl ?_
                refine pm_R_lo pm_M207 (pc' := 4) rfl rfl rfl ?_
                refine sf_R_imul pm_M207 (pc' := 5) rfl rfl sf_k144 B12049 (by decide) (by decide) (by decide) (fun z12053 e12054 B12055 => ?_)
                refine pm_R_op pm_M207 (pc' := 7) (st' := [.int 12, .int z12053]) rfl rfl rfl ?_
                refine pm_R_lo pm_M207 (pc' := 8) rfl rfl rfl ?_
                refine sf_R_imul pm_M207 (pc' := 9) rfl rfl sf_k12 B12052 (by decide) (by decide) (by decide) (fun z12056 e12057 B12058 => ?_)
                refine sf_R_iadd pm_M207 (pc' := 10) rfl rfl B12055 B12058 (by decide) (by decide) (fun z12059 e12060 B12061 => ?_)
                refine pm_R_lo pm_M207 (pc' := 11) rfl rfl rfl ?_
                refine sf_R_iadd pm_M207 (pc' := 12) rfl rfl B12061 Ba3 (by decide) (by decide) (fun z12062 e12063 B12064 => ?_)
                refine pm_R_ret pm_M207 (r := some (.int z12062)) rfl (pm_ret_i _) ?_
                show pm_R _ 225 8 [.int z12046, .int z12050, .int a3, .int x8_12008] [.int z12062, .int 50] _ _
                refine sf_R_imul pm_M225 (pc' := 9) rfl rfl sf_k50 B12064 (by decide) (by decide) (by decide) (fun z12065 e12066 B12067 => ?_)
                refine pm_R_lo pm_M225 (pc' := 10) rfl rfl rfl ?_
                refine sf_R_iadd pm_M225 (pc' := 11) rfl rfl B12067 B12018 (by decide) (by decide) (fun z12068 e12069 B12070 => ?_)
                refine pm_R_ret pm_M225 (r := some (.int z12068)) rfl (pm_ret_i _) ?_
                show pm_R _ 226 67 [.ref 41, .int a0, .int a1, .int a2, .int a3, .int x5_10010, .long z10061, pm_no, .int x8_12008, g9_12008, g10_12008, g11_12008] [.int z12068, .ref 56] _ _
                obtain ⟨f12071, e12072⟩ := T_12008.2.2.2.1 56 (by decide) (by decide)
                refine rf_R_lld pm_M226 T_12008 (pc' := 68) rfl e12072 (by decide) (by decide) (sf_in B12070 (by decide) (by decide)) rfl (fun z12074 ez12075 => ?_)
                refine pm_R_lo pm_M226 (pc' := 70) (ls' := [.ref 41, .int a0, .int a1, .int a2, .int a3, .int x5_10010, .long z10061, pm_no, .int x8_12008, .long z12074, pm_no, g11_12008]) (st' := []) rfl rfl rfl ?_
                refine pm_R_lo pm_M226 (pc' := 71) rfl rfl rfl ?_
                refine pm_R_lo pm_M226 (pc' := 72) rfl rfl rfl ?_
                refine pm_R_op pm_M226 (pc' := 73) (st' := [.int 0, .int a0, .ref 41]) rfl rfl rfl ?_
                refine pm_R_cv pm_M226 (pc' := 76) (a := 41) (ra := [.int 0, .int a0]) (rest := []) (ls' := [.ref 41, .int a0, .int 0]) rfl rfl (Or.inl rfl) pm_M210 T_12008.2.1 rfl (by decide) (Nat.lt_of_lt_of_le (by decide) T_12008.1) rfl rfl (Nat.le_of_ble_eq_true rfl) rfl rfl ?_
                refine pm_R_lo pm_M210 (pc' := 1) rfl rfl rfl ?_
                refine rf_R_get pm_M210 T_12008 (pc' := 4) (v := .ref 47) rfl rfl rfl rfl ?_
                refine pm_R_op pm_M210 (pc' := 6) (st' := [.int 100, .ref 47]) rfl rfl rfl ?_
                refine pm_R_lo pm_M210 (pc' := 7) rfl rfl rfl ?_
                refine rf_R_get pm_M210 T_12008 (pc' := 10) (v := .int (m_12008 23)) rfl rfl rfl rfl ?_
                refine sf_R_imulV pm_M210 (pc' := 11) rfl rfl sf_k100 B12030 (by decide) (by decide) (by decide) e12032 ?_
                refine pm_R_op pm_M210 (pc' := 12) (st' := [.int 2, .int z12031, .ref 47]) rfl rfl rfl ?_
                refine sf_R_iaddV pm_M210 (pc' := 13) rfl rfl B12033 sf_k2 (by decide) (by decide) e12035 ?_
                refine pm_R_op pm_M210 (pc' := 14) (st' := [.int 4, .int z12034, .ref 47]) rfl rfl rfl ?_
                refine pm_R_lo pm_M210 (pc' := 15) rfl rfl rfl ?_
                refine sf_R_imulV pm_M210 (pc' := 16) rfl rfl sf_k4 Ba0 (by decide) (by decide) (by decide) e10025 ?_
                refine sf_R_iaddV pm_M210 (pc' := 17) rfl rfl B12036 B10026 (by decide) (by decide) e12038 ?_
                refine pm_R_lo pm_M210 (pc' := 18) rfl rfl rfl ?_
                refine sf_R_iadd pm_M210 (pc' := 19) rfl rfl B12039 sf_k0 (by decide) (by decide) (fun z12076 e12077 B12078 => ?_)
                refine rf_R_ild pm_M210 T_12008 (pc' := 20) rfl e12044 (by decide) (sf_in B12078 (by decide) (by decide)) rfl (fun z12079 ez12080 => ?_)
                have e12081 : (z12076).toInt = 100 * ((m_12008 23)).toInt + 4 * (a0).toInt + 2 := (sf_aux3 _ _ _ _ _ _ _ e12032 e12035 e10025 e12038 e12077)
                have B12082 : sf_B 0 5 z12079 := ez12080 ▸ rf_p47r b12045 e12081 B12030 Ba0 (by decide) (by decide) (by decide)
                refine pm_R_ret pm_M210 (r := some (.int z12079)) rfl (pm_ret_i _) ?_
                show pm_R _ 226 76 [.ref 41, .int a0, .int a1, .int a2, .int a3, .int x5_10010, .long z10061, pm_no, .int x8_12008, .long z12074, pm_no, g11_12008] [.int z12079] _ _
                refine pm_R_lo pm_M226 (pc' := 77) rfl rfl rfl ?_
                refine pm_R_lo pm_M226 (pc' := 79) rfl rfl rfl ?_
                refine pm_R_lo pm_M226 (pc' := 80) rfl rfl rfl ?_
                refine pm_R_lo pm_M226 (pc' := 81) rfl rfl rfl ?_
                refine pm_R_op pm_M226 (pc' := 82) (st' := [.int 3, .int a0, .ref 41, .int a3, .int a1, .int z12079]) rfl rfl rfl ?_
                refine pm_R_cv pm_M226 (pc' := 85) (a := 41) (ra := [.int 3, .int a0]) (rest := [.int a3, .int a1, .int z12079]) (ls' := [.ref 41, .int a0, .int 3]) rfl rfl (Or.inl rfl) pm_M210 T_12008.2.1 rfl (by decide) (Nat.lt_of_lt_of_le (by decide) T_12008.1) rfl rfl (Nat.le_of_ble_eq_true rfl) rfl rfl ?_
                refine pm_R_lo pm_M210 (pc' := 1) rfl rfl rfl ?_
                refine rf_R_get pm_M210 T_12008 (pc' := 4) (v := .ref 47) rfl rfl rfl rfl ?_
                refine pm_R_op pm_M210 (pc' := 6) (st' := [.int 100, .ref 47]) rfl rfl rfl ?_
                refine pm_R_lo pm_M210 (pc' := 7) rfl rfl rfl ?_
                refine rf_R_get pm_M210 T_12008 (pc' := 10) (v := .int (m_12008 23)) rfl rfl rfl rfl ?_
                refine sf_R_imulV pm_M210 (pc' := 11) rfl rfl sf_k100 B12030 (by decide) (by decide) (by decide) e12032 ?_
                refine pm_R_op pm_M210 (pc' := 12) (st' := [.int 2, .int z12031, .ref 47]) rfl rfl rfl ?_
                refine sf_R_iaddV pm_M210 (pc' := 13) rfl rfl B12033 sf_k2 (by decide) (by decide) e12035 ?_
                refine pm_R_op pm_M210 (pc' := 14) (st' := [.int 4, .int z12034, .ref 47]) rfl rfl rfl ?_
                refine pm_R_lo pm_M210 (pc' := 15) rfl rfl rfl ?_
                refine sf_R_imulV pm_M210 (pc' := 16) rfl rfl sf_k4 Ba0 (by decide) (by decide) (by decide) e10025 ?_
                refine sf_R_iaddV pm_M210 (pc' := 17) rfl rfl B12036 B10026 (by decide) (by decide) e12038 ?_
                refine pm_R_lo pm_M210 (pc' := 18) rfl rfl rfl ?_
                refine sf_R_iadd pm_M210 (pc' := 19) rfl rfl B12039 sf_k3 (by decide) (by decide) (fun z12083 e12084 B12085 => ?_)
                refine rf_R_ild pm_M210 T_12008 (pc' := 20) rfl e12044 (by decide) (sf_in B12085 (by decide) (by decide)) rfl (fun z12086 ez12087 => ?_)
                have e12088 : (z12083).toInt = 100 * ((m_12008 23)).toInt + 4 * (a0).toInt + 5 := (sf_aux4 _ _ _ _ _ _ _ e12032 e12035 e10025 e12038 e12084)
                have B12089 : sf_B 0 4 z12086 := ez12087 ▸ rf_p47t b12045 e12088 B12030 Ba0 (by decide) (by decide) (by decide)
                refine pm_R_ret pm_M210 (r := some (.int z12086)) rfl (pm_ret_i _) ?_
                show pm_R _ 226 85 [.ref 41, .int a0, .int a1, .int a2, .int a3, .int x5_10010, .long z10061, pm_no, .int x8_12008, .long z12074, pm_no, g11_12008] [.int z12086, .int a3, .int a1, .int z12079] _ _
                refine pm_R_lo pm_M226 (pc' := 87) rfl rfl rfl ?_
                refine pm_R_lo pm_M226 (pc' := 89) rfl rfl rfl ?_
                refine pm_R_cs pm_M226 (pc' := 92) (ra := [.int x8_12008, .int x5_10010, .int z12086]) (rest := [.int a3, .int a1, .int z12079]) (ls' := [.int z12086, .int x5_10010, .int x8_12008]) rfl rfl (Or.inl rfl) pm_M227 rfl rfl (Nat.le_of_ble_eq_true rfl) rfl rfl ?_
                refine pm_R_lo pm_M227 (pc' := 1) rfl rfl rfl ?_
                refine pm_R_ifc pm_M227 (t := 8) (pc' := 4) rfl rfl rfl (fun c12090 => ?_) (fun c12090 => ?_)
                · have B12091 : sf_B 1 4 z12086 := sf_neL0 c12090 sf_k0 B12089
                  refine pm_R_lo pm_M227 (pc' := 9) rfl rfl rfl ?_
                  refine pm_R_op pm_M227 (pc' := 10) (st' := [.int 1, .int z12086]) rfl rfl rfl ?_
                  refine pm_R_icmp pm_M227 (t := 17) (pc' := 13) rfl rfl rfl (fun c12092 => ?_) (fun c12092 => ?_)
                  · have B12093 : sf_B 2 4 z12086 := sf_neL0 c12092 sf_k1 B12091
                    refine pm_R_lo pm_M227 (pc' := 18) rfl rfl rfl ?_
                    refine pm_R_op pm_M227 (pc' := 19) (st' := [.int 2, .int z12086]) rfl rfl rfl ?_
                    refine pm_R_icmp pm_M227 (t := 31) (pc' := 22) rfl rfl rfl (fun c12094 => ?_) (fun c12094 => ?_)
                    · have B12095 : sf_B 3 4 z12086 := sf_neL0 c12094 sf_k2 B12093
                      refine pm_R_lo pm_M227 (pc' := 32) rfl rfl rfl ?_
                      refine pm_R_op pm_M227 (pc' := 33) (st' := [.int 3, .int z12086]) rfl rfl rfl ?_
                      refine pm_R_icmp pm_M227 (t := 48) (pc' := 36) rfl rfl rfl (fun c12096 => ?_) (fun c12096 => ?_)
                      · have B12097 : sf_B 4 4 z12086 := sf_neL0 c12096 sf_k3 B12095
                        refine pm_R_op pm_M227 (pc' := 50) (st' := [.int 49]) rfl rfl rfl ?_
                        refine pm_R_lo pm_M227 (pc' := 51) rfl rfl rfl ?_
                        refine sf_R_isub pm_M227 (pc' := 52) rfl rfl sf_k49 B12018 (by decide) (by decide) (fun z12098 e12099 B12100 => ?_)
                        refine pm_R_ret pm_M227 (r := some (.int z12098)) rfl (pm_ret_i _) ?_
                        show pm_R _ 226 92 [.ref 41, .int a0, .int a1, .int a2, .int a3, .int x5_10010, .long z10061, pm_no, .int x8_12008, .long z12074, pm_no, g11_12008] [.int z12098, .int a3, .int a1, .int z12079] _ _
                        refine pm_R_cs pm_M226 (pc' := 95) (ra := [.int z12098, .int a3, .int a1, .int z12079]) (rest := []) (ls' := [.int z12079, .int a1, .int a3, .int z12098]) rfl rfl (Or.inl rfl) pm_M225 rfl rfl (Nat.le_of_ble_eq_true rfl) rfl rfl ?_
                        refine pm_R_op pm_M225 (pc' := 2) (st' := [.int 50]) rfl rfl rfl ?_
                        refine pm_R_lo pm_M225 (pc' := 3) rfl rfl rfl ?_
                        refine pm_R_lo pm_M225 (pc' := 4) rfl rfl rfl ?_
                        refine pm_R_lo pm_M225 (pc' := 5) rfl rfl rfl ?_
                        refine pm_R_cs pm_M225 (pc' := 8) (ra := [.int a3, .int a1, .int z12079]) (rest := [.int 50]) (ls' := [.int z12079, .int a1, .int a3]) rfl rfl (Or.inl rfl) pm_M207 rfl rfl (Nat.le_of_ble_eq_true rfl) rfl rfl ?_
                        refine pm_R_op pm_M207 (pc' := 3) (st' := [.int 144]) rfl rfl rfl ?_
                        refine pm_R_lo pm_M207 (pc' := 4) rfl rfl rfl ?_
                        refine sf_R_imul pm_M207 (pc' := 5) rfl rfl sf_k144 B12082 (by decide) (by decide) (by decide) (fun z12101 e12102 B12103 => ?_)
                        refine pm_R_op pm_M207 (pc' := 7) (st' := [.int 12, .int z12101]) rfl rfl rfl ?_
                        refine pm_R_lo pm_M207 (pc' := 8) rfl rfl rfl ?_
                        refine sf_R_imulV pm_M207 (pc' := 9) rfl rfl sf_k12 Ba1 (by decide) (by decide) (by decide) e10044 ?_
                        refine sf_R_iadd pm_M207 (pc' := 10) rfl rfl B12103 B10045 (by decide) (by decide) (fun z12104 e12105 B12106 => ?_)
                        refine pm_R_lo pm_M207 (pc' := 11) rfl rfl rfl ?_
                        refine sf_R_iadd pm_M207 (pc' := 12) rfl rfl B12106 Ba3 (by decide) (by decide) (fun z12107 e12108 B12109 => ?_)
                        refine pm_R_ret pm_M207 (r := some (.int z12107)) rfl (pm_ret_i _) ?_
                        show pm_R _ 225 8 [.int z12079, .int a1, .int a3, .int z12098] [.int z12107, .int 50] _ _
                        refine sf_R_imul pm_M225 (pc' := 9) rfl rfl sf_k50 B12109 (by decide) (by decide) (by decide) (fun z12110 e12111 B12112 => ?_)
                        refine pm_R_lo pm_M225 (pc' := 10) rfl rfl rfl ?_
                        refine sf_R_iadd pm_M225 (pc' := 11) rfl rfl B12112 B12100 (by decide) (by decide) (fun z12113 e12114 B12115 => ?_)
                        refine pm_R_ret pm_M225 (r := some (.int z12113)) rfl (pm_ret_i _) ?_
                        show pm_R _ 226 95 [.ref 41, .int a0, .int a1, .int a2, .int a3, .int x5_10010, .long z10061, pm_no, .int x8_12008, .long z12074, pm_no, g11_12008] [.int z12113] _ _
                        refine pm_R_lo pm_M226 (pc' := 97) (ls' := [.ref 41, .int a0, .int a1, .int a2, .int a3, .int x5_10010, .long z10061, pm_no, .int x8_12008, .long z12074, pm_no, .int z12113]) (st' := []) rfl rfl rfl ?_
                        refine pm_R_lo pm_M226 (pc' := 98) rfl rfl rfl ?_
                        refine rf_R_get pm_M226 T_12008 (pc' := 101) (v := .ref 56) rfl rfl rfl rfl ?_
                        refine pm_R_lo pm_M226 (pc' := 103) rfl rfl rfl ?_
                        refine pm_R_lo pm_M226 (pc' := 105) rfl rfl rfl ?_
                        refine pm_R_op pm_M226 (pc' := 106) (st' := [.long 0, .long z12074, .int z12113, .ref 56]) rfl rfl rfl ?_
                        refine sf_R_lcmp pm_M226 (pc' := 107) (pm_q226_1 (Nat.le_of_ble_eq_true rfl)) rfl (fun z12116 e12117 => ?_)
                        refine pm_R_ifc pm_M226 (t := 120) (pc' := 110) (pm_q226_1 (Nat.le_of_ble_eq_true rfl)) rfl rfl (fun c12118 => ?_) (fun c12118 => ?_)
                        · have k12119 := sf_lneC e12117 c12118
                          refine pm_R_lo pm_M226 (pc' := 121) (pm_q226_1 (Nat.le_of_ble_eq_true rfl)) rfl rfl ?_
                          refine rf_R_get pm_M226 T_12008 (pc' := 124) (v := .ref 56) (pm_q226_1 (Nat.le_of_ble_eq_true rfl)) rfl rfl rfl ?_
                          refine pm_R_lo pm_M226 (pc' := 126) (pm_q226_1 (Nat.le_of_ble_eq_true rfl)) rfl rfl ?_
                          refine rf_R_lld pm_M226 T_12008 (pc' := 127) (pm_q226_1 (Nat.le_of_ble_eq_true rfl)) e12072 (by decide) (by decide) (sf_in B12115 (by decide) (by decide)) rfl (fun z12120 ez12121 => ?_)
                          refine pm_R_lo pm_M226 (pc' := 129) (pm_q226_1 (Nat.le_of_ble_eq_true rfl)) rfl rfl ?_
                          refine pm_R_lo pm_M226 (pc' := 131) (pm_q226_1 (Nat.le_of_ble_eq_true rfl)) rfl rfl ?_
                          refine pm_R_cs pm_M226 (pc' := 134) (ra := [.long z12074, .long z10061]) (rest := [.long z12120, .int z12113, .ref 56]) (ls' := [.long z10061, pm_no, .long z12074, pm_no]) (pm_q226_1 (Nat.le_of_ble_eq_true rfl)) rfl (Or.inl rfl) pm_M212 rfl rfl (Nat.le_of_ble_eq_true rfl) rfl rfl ?_
                          refine rf_u212 (d := d + 0)  (fun r12122 => ?_)
                          show pm_R _ 226 134 [.ref 41, .int a0, .int a1, .int a2, .int a3, .int x5_10010, .long z10061, pm_no, .int x8_12008, .long z12074, pm_no, .int z12113] [.long r12122, .long z12120, .int z12113, .ref 56] _ _
                          refine pm_R_cs pm_M226 (pc' := 137) (ra := [.long r12122, .long z12120]) (rest := [.int z12113, .ref 56]) (ls' := [.long z12120, pm_no, .long r12122, pm_no]) (pm_q226_1 (Nat.le_of_ble_eq_true rfl)) rfl (Or.inl rfl) pm_M213 rfl rfl (Nat.le_of_ble_eq_true rfl) rfl rfl ?_
                          refine rf_u213 (d := d + 1)  (fun r12130 => ?_)
                          show pm_R _ 226 137 [.ref 41, .int a0, .int a1, .int a2, .int a3, .int x5_10010, .long z10061, pm_no, .int x8_12008, .long z12074, pm_no, .int z12113] [.long r12130, .int z12113, .ref 56] _ _
                          refine rf_R_lst pm_M226 T_12008 (pc' := 138) (pm_q226_1 (Nat.le_of_ble_eq_true rfl)) e12072 (by decide) (by decide) (sf_in B12115 (by decide) (by decide)) ⟨_, rfl⟩ rfl (fun h12138 T12139 F12140 e12141 => ?_)
                          have F12142 := F_12008.trans F12140 (by decide)
                          refine sf_R_iinc pm_M226 (pc' := 141) (ls' := fun z => [.ref 41, .int a0, .int a1, .int a2, .int a3, .int x5_10010, .long z10061, pm_no, .int z, .long z12074, pm_no, .int z12113]) (pm_q226_1 (Nat.le_of_ble_eq_true rfl)) B12018 rfl (by decide) (by decide) (by decide) (fun _ => rfl) rfl (fun z12143 e12144 B12145 => ?_)
                          show pm_R _ 226 141 [.ref 41, .int a0, .int a1, .int a2, .int a3, .int x5_10010, .long z10061, pm_no, .int z12143, .long z12074, pm_no, .int z12113] [] _ _
                          refine pm_R_br pm_M226 (pc' := 33) (pm_q226_1 (Nat.le_of_ble_eq_true rfl)) rfl ?_
                          exact ih_12008 _ (sf_up hN_12008 e12144 B12018 (by decide) (by decide)) h12138 m_12008 w_12008 z12143 (.long z12074) (pm_no) (.int z12113) T12139 F12142 W_12008 (sf_weak B12145 (by decide) (by decide)) rfl rfl rfl
                        · have B12146 : sf_B 0 0 z12116 := sf_eqL (Classical.not_not.mp c12118) sf_k0
                          refine pm_R_lo pm_M226 (pc' := 111) (pm_q226_1 (Nat.le_of_ble_eq_true rfl)) rfl rfl ?_
                          refine rf_R_get pm_M226 T_12008 (pc' := 114) (v := .ref 56) (pm_q226_1 (Nat.le_of_ble_eq_true rfl)) rfl rfl rfl ?_
                          refine pm_R_lo pm_M226 (pc' := 116) (pm_q226_1 (Nat.le_of_ble_eq_true rfl)) rfl rfl ?_
                          refine rf_R_lld pm_M226 T_12008 (pc' := 117) (pm_q226_1 (Nat.le_of_ble_eq_true rfl)) e12072 (by decide) (by decide) (sf_in B12115 (by decide) (by decide)) rfl (fun z12147 ez12148 => ?_)
                          refine pm_R_br pm_M226 (pc' := 137) (pm_q226_1 (Nat.le_of_ble_eq_true rfl)) rfl ?_
                          refine rf_R_lst pm_M226 T_12008 (pc' := 138) (pm_q226_1 (Nat.le_of_ble_eq_true rfl)) e12072 (by decide) (by decide) (sf_in B12115 (by decide) (by decide)) ⟨_, rfl⟩ rfl (fun h12149 T12150 F12151 e12152 => ?_)
                          have F12153 := F_12008.trans F12151 (by decide)
                          refine sf_R_iinc pm_M226 (pc' := 141) (ls' := fun z => [.ref 41, .int a0, .int a1, .int a2, .int a3, .int x5_10010, .long z10061, pm_no, .int z, .long z12074, pm_no, .int z12113]) (pm_q226_1 (Nat.le_of_ble_eq_true rfl)) B12018 rfl (by decide) (by decide) (by decide) (fun _ => rfl) rfl (fun z12154 e12155 B12156 => ?_)
                          show pm_R _ 226 141 [.ref 41, .int a0, .int a1, .int a2, .int a3, .int x5_10010, .long z10061, pm_no, .int z12154, .long z12074, pm_no, .int z12113] [] _ _
                          refine pm_R_br pm_M226 (pc' := 33) (pm_q226_1 (Nat.le_of_ble_eq_true rfl)) rfl ?_
                          exact ih_12008 _ (sf_up hN_12008 e12155 B12018 (by decide) (by decide)) h12149 m_12008 w_12008 z12154 (.long z12074) (pm_no) (.int z12113) T12150 F12153 W_12008 (sf_weak B12156 (by decide) (by decide)) rfl rfl rfl
                      · have B12157 : sf_B 3 3 z12086 := sf_eqL (Classical.not_not.mp c12096) sf_k3
                        refine pm_R_lo pm_M227 (pc' := 37) rfl rfl rfl ?_
                        refine pm_R_lo pm_M227 (pc' := 38) rfl rfl rfl ?_
                        refine sf_R_isub pm_M227 (pc' := 39) rfl rfl B10016 B12018 (by decide) (by decide) (fun z12158 e12159 B12160 => ?_)
                        refine pm_R_op pm_M227 (pc' := 41) (st' := [.int 50, .int z12158]) rfl rfl rfl ?_
                        refine sf_R_iadd pm_M227 (pc' := 42) rfl rfl B12160 sf_k50 (by decide) (by decide) (fun z12161 e12162 B12163 => ?_)
                        refine pm_R_op pm_M227 (pc' := 44) (st' := [.int 50, .int z12161]) rfl rfl rfl ?_
                        refine sf_R_irem pm_M227 (pc' := 45) rfl rfl B12163 sf_k50 (by decide) (by decide) (fun z12164 e12165 B12166 => ?_)
                        refine pm_R_br pm_M227 (pc' := 52) rfl rfl ?_
                        refine pm_R_ret pm_M227 (r := some (.int z12164)) rfl (pm_ret_i _) ?_
                        show pm_R _ 226 92 [.ref 41, .int a0, .int a1, .int a2, .int a3, .int x5_10010, .long z10061, pm_no, .int x8_12008, .long z12074, pm_no, g11_12008] [.int z12164, .int a3, .int a1, .int z12079] _ _
                        refine pm_R_cs pm_M226 (pc' := 95) (ra := [.int z12164, .int a3, .int a1, .int z12079]) (rest := []) (ls' := [.int z12079, .int a1, .int a3, .int z12164]) rfl rfl (Or.inl rfl) pm_M225 rfl rfl (Nat.le_of_ble_eq_true rfl) rfl rfl ?_
                        refine pm_R_op pm_M225 (pc' := 2) (st' := [.int 50]) rfl rfl rfl ?_
                        refine pm_R_lo pm_M225 (pc' := 3) rfl rfl rfl ?_
                        refine pm_R_lo pm_M225 (pc' := 4) rfl rfl rfl ?_
                        refine pm_R_lo pm_M225 (pc' := 5) rfl rfl rfl ?_
                        refine pm_R_cs pm_M225 (pc' := 8) (ra := [.int a3, .int a1, .int z12079]) (rest := [.int 50]) (ls' := [.int z12079, .int a1, .int a3]) rfl rfl (Or.inl rfl) pm_M207 rfl rfl (Nat.le_of_ble_eq_true rfl) rfl rfl ?_
                        refine pm_R_op pm_M207 (pc' := 3) (st' := [.int 144]) rfl rfl rfl ?_
                        refine pm_R_lo pm_M207 (pc' := 4) rfl rfl rfl ?_
                        refine sf_R_imul pm_M207 (pc' := 5) rfl rfl sf_k144 B12082 (by decide) (by decide) (by decide) (fun z12167 e12168 B12169 => ?_)
                        refine pm_R_op pm_M207 (pc' := 7) (st' := [.int 12, .int z12167]) rfl rfl rfl ?_
                        refine pm_R_lo pm_M207 (pc' := 8) rfl rfl rfl ?_
                        refine sf_R_imulV pm_M207 (pc' := 9) rfl rfl sf_k12 Ba1 (by decide) (by decide) (by decide) e10044 ?_
                        refine sf_R_iadd pm_M207 (pc' := 10) rfl rfl B12169 B10045 (by decide) (by decide) (fun z12170 e12171 B12172 => ?_)
                        refine pm_R_lo pm_M207 (pc' := 11) rfl rfl rfl ?_
                        refine sf_R_iadd pm_M207 (pc' := 12) rfl rfl B12172 Ba3 (by decide) (by decide) (fun z12173 e12174 B12175 => ?_)
                        refine pm_R_ret pm_M207 (r := some (.int z12173)) rfl (pm_ret_i _) ?_
                        show pm_R _ 225 8 [.int z12079, .int a1, .int a3, .int z12164] [.int z12173, .int 50] _ _
                        refine sf_R_imul pm_M225 (pc' := 9) rfl rfl sf_k50 B12175 (by decide) (by decide) (by decide) (fun z12176 e12177 B12178 => ?_)
                        refine pm_R_lo pm_M225 (pc' := 10) rfl rfl rfl ?_
                        refine sf_R_iadd pm_M225 (pc' := 11) rfl rfl B12178 B12166 (by decide) (by decide) (fun z12179 e12180 B12181 => ?_)
                        refine pm_R_ret pm_M225 (r := some (.int z12179)) rfl (pm_ret_i _) ?_
                        show pm_R _ 226 95 [.ref 41, .int a0, .int a1, .int a2, .int a3, .int x5_10010, .long z10061, pm_no, .int x8_12008, .long z12074, pm_no, g11_12008] [.int z12179] _ _
                        refine pm_R_lo pm_M226 (pc' := 97) (ls' := [.ref 41, .int a0, .int a1, .int a2, .int a3, .int x5_10010, .long z10061, pm_no, .int x8_12008, .long z12074, pm_no, .int z12179]) (st' := []) rfl rfl rfl ?_
                        refine pm_R_lo pm_M226 (pc' := 98) rfl rfl rfl ?_
                        refine rf_R_get pm_M226 T_12008 (pc' := 101) (v := .ref 56) rfl rfl rfl rfl ?_
                        refine pm_R_lo pm_M226 (pc' := 103) rfl rfl rfl ?_
                        refine pm_R_lo pm_M226 (pc' := 105) rfl rfl rfl ?_
                        refine pm_R_op pm_M226 (pc' := 106) (st' := [.long 0, .long z12074, .int z12179, .ref 56]) rfl rfl rfl ?_
                        refine sf_R_lcmp pm_M226 (pc' := 107) (pm_q226_1 (Nat.le_of_ble_eq_true rfl)) rfl (fun z12182 e12183 => ?_)
                        refine pm_R_ifc pm_M226 (t := 120) (pc' := 110) (pm_q226_1 (Nat.le_of_ble_eq_true rfl)) rfl rfl (fun c12184 => ?_) (fun c12184 => ?_)
                        · have k12185 := sf_lneC e12183 c12184
                          refine pm_R_lo pm_M226 (pc' := 121) (pm_q226_1 (Nat.le_of_ble_eq_true rfl)) rfl rfl ?_
                          refine rf_R_get pm_M226 T_12008 (pc' := 124) (v := .ref 56) (pm_q226_1 (Nat.le_of_ble_eq_true rfl)) rfl rfl rfl ?_
                          refine pm_R_lo pm_M226 (pc' := 126) (pm_q226_1 (Nat.le_of_ble_eq_true rfl)) rfl rfl ?_
                          refine rf_R_lld pm_M226 T_12008 (pc' := 127) (pm_q226_1 (Nat.le_of_ble_eq_true rfl)) e12072 (by decide) (by decide) (sf_in B12181 (by decide) (by decide)) rfl (fun z12186 ez12187 => ?_)
                          refine pm_R_lo pm_M226 (pc' := 129) (pm_q226_1 (Nat.le_of_ble_eq_true rfl)) rfl rfl ?_
                          refine pm_R_lo pm_M226 (pc' := 131) (pm_q226_1 (Nat.le_of_ble_eq_true rfl)) rfl rfl ?_
                          refine pm_R_cs pm_M226 (pc' := 134) (ra := [.long z12074, .long z10061]) (rest := [.long z12186, .int z12179, .ref 56]) (ls' := [.long z10061, pm_no, .long z12074, pm_no]) (pm_q226_1 (Nat.le_of_ble_eq_true rfl)) rfl (Or.inl rfl) pm_M212 rfl rfl (Nat.le_of_ble_eq_true rfl) rfl rfl ?_
                          refine rf_u212 (d := d + 0)  (fun r12188 => ?_)
                          show pm_R _ 226 134 [.ref 41, .int a0, .int a1, .int a2, .int a3, .int x5_10010, .long z10061, pm_no, .int x8_12008, .long z12074, pm_no, .int z12179] [.long r12188, .long z12186, .int z12179, .ref 56] _ _
                          refine pm_R_cs pm_M226 (pc' := 137) (ra := [.long r12188, .long z12186]) (rest := [.int z12179, .ref 56]) (ls' := [.long z12186, pm_no, .long r12188, pm_no]) (pm_q226_1 (Nat.le_of_ble_eq_true rfl)) rfl (Or.inl rfl) pm_M213 rfl rfl (Nat.le_of_ble_eq_true rfl) rfl rfl ?_
                          refine rf_u213 (d := d + 1)  (fun r12196 => ?_)
                          show pm_R _ 226 137 [.ref 41, .int a0, .int a1, .int a2, .int a3, .int x5_10010, .long z10061, pm_no, .int x8_12008, .long z12074, pm_no, .int z12179] [.long r12196, .int z12179, .ref 56] _ _
                          refine rf_R_lst pm_M226 T_12008 (pc' := 138) (pm_q226_1 (Nat.le_of_ble_eq_true rfl)) e12072 (by decide) (by decide) (sf_in B12181 (by decide) (by decide)) ⟨_, rfl⟩ rfl (fun h12204 T12205 F12206 e12207 => ?_)
                          have F12208 := F_12008.trans F12206 (by decide)
                          refine sf_R_iinc pm_M226 (pc' := 141) (ls' := fun z => [.ref 41, .int a0, .int a1, .int a2, .int a3, .int x5_10010, .long z10061, pm_no, .int z, .long z12074, pm_no, .int z12179]) (pm_q226_1 (Nat.le_of_ble_eq_true rfl)) B12018 rfl (by decide) (by decide) (by decide) (fun _ => rfl) rfl (fun z12209 e12210 B12211 => ?_)
                          show pm_R _ 226 141 [.ref 41, .int a0, .int a1, .int a2, .int a3, .int x5_10010, .long z10061, pm_no, .int z12209, .long z12074, pm_no, .int z12179] [] _ _
                          refine pm_R_br pm_M226 (pc' := 33) (pm_q226_1 (Nat.le_of_ble_eq_true rfl)) rfl ?_
                          exact ih_12008 _ (sf_up hN_12008 e12210 B12018 (by decide) (by decide)) h12204 m_12008 w_12008 z12209 (.long z12074) (pm_no) (.int z12179) T12205 F12208 W_12008 (sf_weak B12211 (by decide) (by decide)) rfl rfl rfl
                        · have B12212 : sf_B 0 0 z12182 := sf_eqL (Classical.not_not.mp c12184) sf_k0
                          refine pm_R_lo pm_M226 (pc' := 111) (pm_q226_1 (Nat.le_of_ble_eq_true rfl)) rfl rfl ?_
                          refine rf_R_get pm_M226 T_12008 (pc' := 114) (v := .ref 56) (pm_q226_1 (Nat.le_of_ble_eq_true rfl)) rfl rfl rfl ?_
                          refine pm_R_lo pm_M226 (pc' := 116) (pm_q226_1 (Nat.le_of_ble_eq_true rfl)) rfl rfl ?_
                          refine rf_R_lld pm_M226 T_12008 (pc' := 117) (pm_q226_1 (Nat.le_of_ble_eq_true rfl)) e12072 (by decide) (by decide) (sf_in B12181 (by decide) (by decide)) rfl (fun z12213 ez12214 => ?_)
                          refine pm_R_br pm_M226 (pc' := 137) (pm_q226_1 (Nat.le_of_ble_eq_true rfl)) rfl ?_
                          refine rf_R_lst pm_M226 T_12008 (pc' := 138) (pm_q226_1 (Nat.le_of_ble_eq_true rfl)) e12072 (by decide) (by decide) (sf_in B12181 (by decide) (by decide)) ⟨_, rfl⟩ rfl (fun h12215 T12216 F12217 e12218 => ?_)
                          have F12219 := F_12008.trans F12217 (by decide)
                          refine sf_R_iinc pm_M226 (pc' := 141) (ls' := fun z => [.ref 41, .int a0, .int a1, .int a2, .int a3, .int x5_10010, .long z10061, pm_no, .int z, .long z12074, pm_no, .int z12179]) (pm_q226_1 (Nat.le_of_ble_eq_true rfl)) B12018 rfl (by decide) (by decide) (by decide) (fun _ => rfl) rfl (fun z12220 e12221 B12222 => ?_)
                          show pm_R _ 226 141 [.ref 41, .int a0, .int a1, .int a2, .int a3, .int x5_10010, .long z10061, pm_no, .int z12220, .long z12074, pm_no, .int z12179] [] _ _
                          refine pm_R_br pm_M226 (pc' := 33) (pm_q226_1 (Nat.le_of_ble_eq_true rfl)) rfl ?_
                          exact ih_12008 _ (sf_up hN_12008 e12221 B12018 (by decide) (by decide)) h12215 m_12008 w_12008 z12220 (.long z12074) (pm_no) (.int z12179) T12216 F12219 W_12008 (sf_weak B12222 (by decide) (by decide)) rfl rfl rfl
                    · have B12223 : sf_B 2 2 z12086 := sf_eqL (Classical.not_not.mp c12094) sf_k2
                      refine pm_R_lo pm_M227 (pc' := 23) rfl rfl rfl ?_
                      refine pm_R_lo pm_M227 (pc' := 24) rfl rfl rfl ?_
                      refine sf_R_iadd pm_M227 (pc' := 25) rfl rfl B10016 B12018 (by decide) (by decide) (fun z12224 e12225 B12226 => ?_)
                      refine pm_R_op pm_M227 (pc' := 27) (st' := [.int 50, .int z12224]) rfl rfl rfl ?_
                      refine sf_R_irem pm_M227 (pc' := 28) rfl rfl B12226 sf_k50 (by decide) (by decide) (fun z12227 e12228 B12229 => ?_)
                      refine pm_R_br pm_M227 (pc' := 52) rfl rfl ?_
                      refine pm_R_ret pm_M227 (r := some (.int z12227)) rfl (pm_ret_i _) ?_
                      show pm_R _ 226 92 [.ref 41, .int a0, .int a1, .int a2, .int a3, .int x5_10010, .long z10061, pm_no, .int x8_12008, .long z12074, pm_no, g11_12008] [.int z12227, .int a3, .int a1, .int z12079] _ _
                      refine pm_R_cs pm_M226 (pc' := 95) (ra := [.int z12227, .int a3, .int a1, .int z12079]) (rest := []) (ls' := [.int z12079, .int a1, .int a3, .int z12227]) rfl rfl (Or.inl rfl) pm_M225 rfl rfl (Nat.le_of_ble_eq_true rfl) rfl rfl ?_
                      refine pm_R_op pm_M225 (pc' := 2) (st' := [.int 50]) rfl rfl rfl ?_
                      refine pm_R_lo pm_M225 (pc' := 3) rfl rfl rfl ?_
                      refine pm_R_lo pm_M225 (pc' := 4) rfl rfl rfl ?_
                      refine pm_R_lo pm_M225 (pc' := 5) rfl rfl rfl ?_
                      refine pm_R_cs pm_M225 (pc' := 8) (ra := [.int a3, .int a1, .int z12079]) (rest := [.int 50]) (ls' := [.int z12079, .int a1, .int a3]) rfl rfl (Or.inl rfl) pm_M207 rfl rfl (Nat.le_of_ble_eq_true rfl) rfl rfl ?_
                      refine pm_R_op pm_M207 (pc' := 3) (st' := [.int 144]) rfl rfl rfl ?_
                      refine pm_R_lo pm_M207 (pc' := 4) rfl rfl rfl ?_
                      refine sf_R_imul pm_M207 (pc' := 5) rfl rfl sf_k144 B12082 (by decide) (by decide) (by decide) (fun z12230 e12231 B12232 => ?_)
                      refine pm_R_op pm_M207 (pc' := 7) (st' := [.int 12, .int z12230]) rfl rfl rfl ?_
                      refine pm_R_lo pm_M207 (pc' := 8) rfl rfl rfl ?_
                      refine sf_R_imulV pm_M207 (pc' := 9) rfl rfl sf_k12 Ba1 (by decide) (by decide) (by decide) e10044 ?_
                      refine sf_R_iadd pm_M207 (pc' := 10) rfl rfl B12232 B10045 (by decide) (by decide) (fun z12233 e12234 B12235 => ?_)
                      refine pm_R_lo pm_M207 (pc' := 11) rfl rfl rfl ?_
                      refine sf_R_iadd pm_M207 (pc' := 12) rfl rfl B12235 Ba3 (by decide) (by decide) (fun z12236 e12237 B12238 => ?_)
                      refine pm_R_ret pm_M207 (r := some (.int z12236)) rfl (pm_ret_i _) ?_
                      show pm_R _ 225 8 [.int z12079, .int a1, .int a3, .int z12227] [.int z12236, .int 50] _ _
                      refine sf_R_imul pm_M225 (pc' := 9) rfl rfl sf_k50 B12238 (by decide) (by decide) (by decide) (fun z12239 e12240 B12241 => ?_)
                      refine pm_R_lo pm_M225 (pc' := 10) rfl rfl rfl ?_
                      refine sf_R_iadd pm_M225 (pc' := 11) rfl rfl B12241 B12229 (by decide) (by decide) (fun z12242 e12243 B12244 => ?_)
                      refine pm_R_ret pm_M225 (r := some (.int z12242)) rfl (pm_ret_i _) ?_
                      show pm_R _ 226 95 [.ref 41, .int a0, .int a1, .int a2, .int a3, .int x5_10010, .long z10061, pm_no, .int x8_12008, .long z12074, pm_no, g11_12008] [.int z12242] _ _
                      refine pm_R_lo pm_M226 (pc' := 97) (ls' := [.ref 41, .int a0, .int a1, .int a2, .int a3, .int x5_10010, .long z10061, pm_no, .int x8_12008, .long z12074, pm_no, .int z12242]) (st' := []) rfl rfl rfl ?_
                      refine pm_R_lo pm_M226 (pc' := 98) rfl rfl rfl ?_
                      refine rf_R_get pm_M226 T_12008 (pc' := 101) (v := .ref 56) rfl rfl rfl rfl ?_
                      refine pm_R_lo pm_M226 (pc' := 103) rfl rfl rfl ?_
                      refine pm_R_lo pm_M226 (pc' := 105) rfl rfl rfl ?_
                      refine pm_R_op pm_M226 (pc' := 106) (st' := [.long 0, .long z12074, .int z12242, .ref 56]) rfl rfl rfl ?_
                      refine sf_R_lcmp pm_M226 (pc' := 107) (pm_q226_1 (Nat.le_of_ble_eq_true rfl)) rfl (fun z12245 e12246 => ?_)
                      refine pm_R_ifc pm_M226 (t := 120) (pc' := 110) (pm_q226_1 (Nat.le_of_ble_eq_true rfl)) rfl rfl (fun c12247 => ?_) (fun c12247 => ?_)
                      · have k12248 := sf_lneC e12246 c12247
                        refine pm_R_lo pm_M226 (pc' := 121) (pm_q226_1 (Nat.le_of_ble_eq_true rfl)) rfl rfl ?_
                        refine rf_R_get pm_M226 T_12008 (pc' := 124) (v := .ref 56) (pm_q226_1 (Nat.le_of_ble_eq_true rfl)) rfl rfl rfl ?_
                        refine pm_R_lo pm_M226 (pc' := 126) (pm_q226_1 (Nat.le_of_ble_eq_true rfl)) rfl rfl ?_
                        refine rf_R_lld pm_M226 T_12008 (pc' := 127) (pm_q226_1 (Nat.le_of_ble_eq_true rfl)) e12072 (by decide) (by decide) (sf_in B12244 (by decide) (by decide)) rfl (fun z12249 ez12250 => ?_)
                        refine pm_R_lo pm_M226 (pc' := 129) (pm_q226_1 (Nat.le_of_ble_eq_true rfl)) rfl rfl ?_
                        refine pm_R_lo pm_M226 (pc' := 131) (pm_q226_1 (Nat.le_of_ble_eq_true rfl)) rfl rfl ?_
                        refine pm_R_cs pm_M226 (pc' := 134) (ra := [.long z12074, .long z10061]) (rest := [.long z12249, .int z12242, .ref 56]) (ls' := [.long z10061, pm_no, .long z12074, pm_no]) (pm_q226_1 (Nat.le_of_ble_eq_true rfl)) rfl (Or.inl rfl) pm_M212 rfl rfl (Nat.le_of_ble_eq_true rfl) rfl rfl ?_
                        refine rf_u212 (d := d + 0)  (fun r12251 => ?_)
                        show pm_R _ 226 134 [.ref 41, .int a0, .int a1, .int a2, .int a3, .int x5_10010, .long z10061, pm_no, .int x8_12008, .long z12074, pm_no, .int z12242] [.long r12251, .long z12249, .int z12242, .ref 56] _ _
                        refine pm_R_cs pm_M226 (pc' := 137) (ra := [.long r12251, .long z12249]) (rest := [.int z12242, .ref 56]) (ls' := [.long z12249, pm_no, .long r12251, pm_no]) (pm_q226_1 (Nat.le_of_ble_eq_true rfl)) rfl (Or.inl rfl) pm_M213 rfl rfl (Nat.le_of_ble_eq_true rfl) rfl rfl ?_
                        refine rf_u213 (d := d + 1)  (fun r12259 => ?_)
                        show pm_R _ 226 137 [.ref 41, .int a0, .int a1, .int a2, .int a3, .int x5_10010, .long z10061, pm_no, .int x8_12008, .long z12074, pm_no, .int z12242] [.long r12259, .int z12242, .ref 56] _ _
                        refine rf_R_lst pm_M226 T_12008 (pc' := 138) (pm_q226_1 (Nat.le_of_ble_eq_true rfl)) e12072 (by decide) (by decide) (sf_in B12244 (by decide) (by decide)) ⟨_, rfl⟩ rfl (fun h12267 T12268 F12269 e12270 => ?_)
                        have F12271 := F_12008.trans F12269 (by decide)
                        refine sf_R_iinc pm_M226 (pc' := 141) (ls' := fun z => [.ref 41, .int a0, .int a1, .int a2, .int a3, .int x5_10010, .long z10061, pm_no, .int z, .long z12074, pm_no, .int z12242]) (pm_q226_1 (Nat.le_of_ble_eq_true rfl)) B12018 rfl (by decide) (by decide) (by decide) (fun _ => rfl) rfl (fun z12272 e12273 B12274 => ?_)
                        show pm_R _ 226 141 [.ref 41, .int a0, .int a1, .int a2, .int a3, .int x5_10010, .long z10061, pm_no, .int z12272, .long z12074, pm_no, .int z12242] [] _ _
                        refine pm_R_br pm_M226 (pc' := 33) (pm_q226_1 (Nat.le_of_ble_eq_true rfl)) rfl ?_
                        exact ih_12008 _ (sf_up hN_12008 e12273 B12018 (by decide) (by decide)) h12267 m_12008 w_12008 z12272 (.long z12074) (pm_no) (.int z12242) T12268 F12271 W_12008 (sf_weak B12274 (by decide) (by decide)) rfl rfl rfl
                      · have B12275 : sf_B 0 0 z12245 := sf_eqL (Classical.not_not.mp c12247) sf_k0
                        refine pm_R_lo pm_M226 (pc' := 111) (pm_q226_1 (Nat.le_of_ble_eq_true rfl)) rfl rfl ?_
                        refine rf_R_get pm_M226 T_12008 (pc' := 114) (v := .ref 56) (pm_q226_1 (Nat.le_of_ble_eq_true rfl)) rfl rfl rfl ?_
                        refine pm_R_lo pm_M226 (pc' := 116) (pm_q226_1 (Nat.le_of_ble_eq_true rfl)) rfl rfl ?_
                        refine rf_R_lld pm_M226 T_12008 (pc' := 117) (pm_q226_1 (Nat.le_of_ble_eq_true rfl)) e12072 (by decide) (by decide) (sf_in B12244 (by decide) (by decide)) rfl (fun z12276 ez12277 => ?_)
                        refine pm_R_br pm_M226 (pc' := 137) (pm_q226_1 (Nat.le_of_ble_eq_true rfl)) rfl ?_
                        refine rf_R_lst pm_M226 T_12008 (pc' := 138) (pm_q226_1 (Nat.le_of_ble_eq_true rfl)) e12072 (by decide) (by decide) (sf_in B12244 (by decide) (by decide)) ⟨_, rfl⟩ rfl (fun h12278 T12279 F12280 e12281 => ?_)
                        have F12282 := F_12008.trans F12280 (by decide)
                        refine sf_R_iinc pm_M226 (pc' := 141) (ls' := fun z => [.ref 41, .int a0, .int a1, .int a2, .int a3, .int x5_10010, .long z10061, pm_no, .int z, .long z12074, pm_no, .int z12242]) (pm_q226_1 (Nat.le_of_ble_eq_true rfl)) B12018 rfl (by decide) (by decide) (by decide) (fun _ => rfl) rfl (fun z12283 e12284 B12285 => ?_)
                        show pm_R _ 226 141 [.ref 41, .int a0, .int a1, .int a2, .int a3, .int x5_10010, .long z10061, pm_no, .int z12283, .long z12074, pm_no, .int z12242] [] _ _
                        refine pm_R_br pm_M226 (pc' := 33) (pm_q226_1 (Nat.le_of_ble_eq_true rfl)) rfl ?_
                        exact ih_12008 _ (sf_up hN_12008 e12284 B12018 (by decide) (by decide)) h12278 m_12008 w_12008 z12283 (.long z12074) (pm_no) (.int z12242) T12279 F12282 W_12008 (sf_weak B12285 (by decide) (by decide)) rfl rfl rfl
                  · have B12286 : sf_B 1 1 z12086 := sf_eqL (Classical.not_not.mp c12092) sf_k1
                    refine pm_R_lo pm_M227 (pc' := 14) rfl rfl rfl ?_
                    refine pm_R_br pm_M227 (pc' := 52) rfl rfl ?_
                    refine pm_R_ret pm_M227 (r := some (.int x8_12008)) rfl (pm_ret_i _) ?_
                    show pm_R _ 226 92 [.ref 41, .int a0, .int a1, .int a2, .int a3, .int x5_10010, .long z10061, pm_no, .int x8_12008, .long z12074, pm_no, g11_12008] [.int x8_12008, .int a3, .int a1, .int z12079] _ _
                    refine pm_R_cs pm_M226 (pc' := 95) (ra := [.int x8_12008, .int a3, .int a1, .int z12079]) (rest := []) (ls' := [.int z12079, .int a1, .int a3, .int x8_12008]) rfl rfl (Or.inl rfl) pm_M225 rfl rfl (Nat.le_of_ble_eq_true rfl) rfl rfl ?_
                    refine pm_R_op pm_M225 (pc' := 2) (st' := [.int 50]) rfl rfl rfl ?_
                    refine pm_R_lo pm_M225 (pc' := 3) rfl rfl rfl ?_
                    refine pm_R_lo pm_M225 (pc' := 4) rfl rfl rfl ?_
                    refine pm_R_lo pm_M225 (pc' := 5) rfl rfl rfl ?_
                    refine pm_R_cs pm_M225 (pc' := 8) (ra := [.int a3, .int a1, .int z12079]) (rest := [.int 50]) (ls' := [.int z12079, .int a1, .int a3]) rfl rfl (Or.inl rfl) pm_M207 rfl rfl (Nat.le_of_ble_eq_true rfl) rfl rfl ?_
                    refine pm_R_op pm_M207 (pc' := 3) (st' := [.int 144]) rfl rfl rfl ?_
                    refine pm_R_lo pm_M207 (pc' := 4) rfl rfl rfl ?_
                    refine sf_R_imul pm_M207 (pc' := 5) rfl rfl sf_k144 B12082 (by decide) (by decide) (by decide) (fun z12287 e12288 B12289 => ?_)
                    refine pm_R_op pm_M207 (pc' := 7) (st' := [.int 12, .int z12287]) rfl rfl rfl ?_
                    refine pm_R_lo pm_M207 (pc' := 8) rfl rfl rfl ?_
                    refine sf_R_imulV pm_M207 (pc' := 9) rfl rfl sf_k12 Ba1 (by decide) (by decide) (by decide) e10044 ?_
                    refine sf_R_iadd pm_M207 (pc' := 10) rfl rfl B12289 B10045 (by decide) (by decide) (fun z12290 e12291 B12292 => ?_)
                    refine pm_R_lo pm_M207 (pc' := 11) rfl rfl rfl ?_
                    refine sf_R_iadd pm_M207 (pc' := 12) rfl rfl B12292 Ba3 (by decide) (by decide) (fun z12293 e12294 B12295 => ?_)
                    refine pm_R_ret pm_M207 (r := some (.int z12293)) rfl (pm_ret_i _) ?_
                    show pm_R _ 225 8 [.int z12079, .int a1, .int a3, .int x8_12008] [.int z12293, .int 50] _ _
                    refine sf_R_imul pm_M225 (pc' := 9) rfl rfl sf_k50 B12295 (by decide) (by decide) (by decide) (fun z12296 e12297 B12298 => ?_)
                    refine pm_R_lo pm_M225 (pc' := 10) rfl rfl rfl ?_
                    refine sf_R_iadd pm_M225 (pc' := 11) rfl rfl B12298 B12018 (by decide) (by decide) (fun z12299 e12300 B12301 => ?_)
                    refine pm_R_ret pm_M225 (r := some (.int z12299)) rfl (pm_ret_i _) ?_
                    show pm_R _ 226 95 [.ref 41, .int a0, .int a1, .int a2, .int a3, .int x5_10010, .long z10061, pm_no, .int x8_12008, .long z12074, pm_no, g11_12008] [.int z12299] _ _
                    refine pm_R_lo pm_M226 (pc' := 97) (ls' := [.ref 41, .int a0, .int a1, .int a2, .int a3, .int x5_10010, .long z10061, pm_no, .int x8_12008, .long z12074, pm_no, .int z12299]) (st' := []) rfl rfl rfl ?_
                    refine pm_R_lo pm_M226 (pc' := 98) rfl rfl rfl ?_
                    refine rf_R_get pm_M226 T_12008 (pc' := 101) (v := .ref 56) rfl rfl rfl rfl ?_
                    refine pm_R_lo pm_M226 (pc' := 103) rfl rfl rfl ?_
                    refine pm_R_lo pm_M226 (pc' := 105) rfl rfl rfl ?_
                    refine pm_R_op pm_M226 (pc' := 106) (st' := [.long 0, .long z12074, .int z12299, .ref 56]) rfl rfl rfl ?_
                    refine sf_R_lcmp pm_M226 (pc' := 107) (pm_q226_1 (Nat.le_of_ble_eq_true rfl)) rfl (fun z12302 e12303 => ?_)
                    refine pm_R_ifc pm_M226 (t := 120) (pc' := 110) (pm_q226_1 (Nat.le_of_ble_eq_true rfl)) rfl rfl (fun c12304 => ?_) (fun c12304 => ?_)
                    · have k12305 := sf_lneC e12303 c12304
                      refine pm_R_lo pm_M226 (pc' := 121) (pm_q226_1 (Nat.le_of_ble_eq_true rfl)) rfl rfl ?_
                      refine rf_R_get pm_M226 T_12008 (pc' := 124) (v := .ref 56) (pm_q226_1 (Nat.le_of_ble_eq_true rfl)) rfl rfl rfl ?_
                      refine pm_R_lo pm_M226 (pc' := 126) (pm_q226_1 (Nat.le_of_ble_eq_true rfl)) rfl rfl ?_
                      refine rf_R_lld pm_M226 T_12008 (pc' := 127) (pm_q226_1 (Nat.le_of_ble_eq_true rfl)) e12072 (by decide) (by decide) (sf_in B12301 (by decide) (by decide)) rfl (fun z12306 ez12307 => ?_)
                      refine pm_R_lo pm_M226 (pc' := 129) (pm_q226_1 (Nat.le_of_ble_eq_true rfl)) rfl rfl ?_
                      refine pm_R_lo pm_M226 (pc' := 131) (pm_q226_1 (Nat.le_of_ble_eq_true rfl)) rfl rfl ?_
                      refine pm_R_cs pm_M226 (pc' := 134) (ra := [.long z12074, .long z10061]) (rest := [.long z12306, .int z12299, .ref 56]) (ls' := [.long z10061, pm_no, .long z12074, pm_no]) (pm_q226_1 (Nat.le_of_ble_eq_true rfl)) rfl (Or.inl rfl) pm_M212 rfl rfl (Nat.le_of_ble_eq_true rfl) rfl rfl ?_
                      refine rf_u212 (d := d + 0)  (fun r12308 => ?_)
                      show pm_R _ 226 134 [.ref 41, .int a0, .int a1, .int a2, .int a3, .int x5_10010, .long z10061, pm_no, .int x8_12008, .long z12074, pm_no, .int z12299] [.long r12308, .long z12306, .int z12299, .ref 56] _ _
                      refine pm_R_cs pm_M226 (pc' := 137) (ra := [.long r12308, .long z12306]) (rest := [.int z12299, .ref 56]) (ls' := [.long z12306, pm_no, .long r12308, pm_no]) (pm_q226_1 (Nat.le_of_ble_eq_true rfl)) rfl (Or.inl rfl) pm_M213 rfl rfl (Nat.le_of_ble_eq_true rfl) rfl rfl ?_
                      refine rf_u213 (d := d + 1)  (fun r12316 => ?_)
                      show pm_R _ 226 137 [.ref 41, .int a0, .int a1, .int a2, .int a3, .int x5_10010, .long z10061, pm_no, .int x8_12008, .long z12074, pm_no, .int z12299] [.long r12316, .int z12299, .ref 56] _ _
                      refine rf_R_lst pm_M226 T_12008 (pc' := 138) (pm_q226_1 (Nat.le_of_ble_eq_true rfl)) e12072 (by decide) (by decide) (sf_in B12301 (by decide) (by decide)) ⟨_, rfl⟩ rfl (fun h12324 T12325 F12326 e12327 => ?_)
                      have F12328 := F_12008.trans F12326 (by decide)
                      refine sf_R_iinc pm_M226 (pc' := 141) (ls' := fun z => [.ref 41, .int a0, .int a1, .int a2, .int a3, .int x5_10010, .long z10061, pm_no, .int z, .long z12074, pm_no, .int z12299]) (pm_q226_1 (Nat.le_of_ble_eq_true rfl)) B12018 rfl (by decide) (by decide) (by decide) (fun _ => rfl) rfl (fun z12329 e12330 B12331 => ?_)
                      show pm_R _ 226 141 [.ref 41, .int a0, .int a1, .int a2, .int a3, .int x5_10010, .long z10061, pm_no, .int z12329, .long z12074, pm_no, .int z12299] [] _ _
                      refine pm_R_br pm_M226 (pc' := 33) (pm_q226_1 (Nat.le_of_ble_eq_true rfl)) rfl ?_
                      exact ih_12008 _ (sf_up hN_12008 e12330 B12018 (by decide) (by decide)) h12324 m_12008 w_12008 z12329 (.long z12074) (pm_no) (.int z12299) T12325 F12328 W_12008 (sf_weak B12331 (by decide) (by decide)) rfl rfl rfl
                    · have B12332 : sf_B 0 0 z12302 := sf_eqL (Classical.not_not.mp c12304) sf_k0
                      refine pm_R_lo pm_M226 (pc' := 111) (pm_q226_1 (Nat.le_of_ble_eq_true rfl)) rfl rfl ?_
                      refine rf_R_get pm_M226 T_12008 (pc' := 114) (v := .ref 56) (pm_q226_1 (Nat.le_of_ble_eq_true rfl)) rfl rfl rfl ?_
                      refine pm_R_lo pm_M226 (pc' := 116) (pm_q226_1 (Nat.le_of_ble_eq_true rfl)) rfl rfl ?_
                      refine rf_R_lld pm_M226 T_12008 (pc' := 117) (pm_q226_1 (Nat.le_of_ble_eq_true rfl)) e12072 (by decide) (by decide) (sf_in B12301 (by decide) (by decide)) rfl (fun z12333 ez12334 => ?_)
                      refine pm_R_br pm_M226 (pc' := 137) (pm_q226_1 (Nat.le_of_ble_eq_true rfl)) rfl ?_
                      refine rf_R_lst pm_M226 T_12008 (pc' := 138) (pm_q226_1 (Nat.le_of_ble_eq_true rfl)) e12072 (by decide) (by decide) (sf_in B12301 (by decide) (by decide)) ⟨_, rfl⟩ rfl (fun h12335 T12336 F12337 e12338 => ?_)
                      have F12339 := F_12008.trans F12337 (by decide)
                      refine sf_R_iinc pm_M226 (pc' := 141) (ls' := fun z => [.ref 41, .int a0, .int a1, .int a2, .int a3, .int x5_10010, .long z10061, pm_no, .int z, .long z12074, pm_no, .int z12299]) (pm_q226_1 (Nat.le_of_ble_eq_true rfl)) B12018 rfl (by decide) (by decide) (by decide) (fun _ => rfl) rfl (fun z12340 e12341 B12342 => ?_)
                      show pm_R _ 226 141 [.ref 41, .int a0, .int a1, .int a2, .int a3, .int x5_10010, .long z10061, pm_no, .int z12340, .long z12074, pm_no, .int z12299] [] _ _
                      refine pm_R_br pm_M226 (pc' := 33) (pm_q226_1 (Nat.le_of_ble_eq_true rfl)) rfl ?_
                      exact ih_12008 _ (sf_up hN_12008 e12341 B12018 (by decide) (by decide)) h12335 m_12008 w_12008 z12340 (.long z12074) (pm_no) (.int z12299) T12336 F12339 W_12008 (sf_weak B12342 (by decide) (by decide)) rfl rfl rfl
                · have B12343 : sf_B 0 0 z12086 := sf_eqL (Classical.not_not.mp c12090) sf_k0
                  refine pm_R_lo pm_M227 (pc' := 5) rfl rfl rfl ?_
                  refine pm_R_br pm_M227 (pc' := 52) rfl rfl ?_
                  refine pm_R_ret pm_M227 (r := some (.int x5_10010)) rfl (pm_ret_i _) ?_
                  show pm_R _ 226 92 [.ref 41, .int a0, .int a1, .int a2, .int a3, .int x5_10010, .long z10061, pm_no, .int x8_12008, .long z12074, pm_no, g11_12008] [.int x5_10010, .int a3, .int a1, .int z12079] _ _
                  refine pm_R_cs pm_M226 (pc' := 95) (ra := [.int x5_10010, .int a3, .int a1, .int z12079]) (rest := []) (ls' := [.int z12079, .int a1, .int a3, .int x5_10010]) rfl rfl (Or.inl rfl) pm_M225 rfl rfl (Nat.le_of_ble_eq_true rfl) rfl rfl ?_
                  refine pm_R_op pm_M225 (pc' := 2) (st' := [.int 50]) rfl rfl rfl ?_
                  refine pm_R_lo pm_M225 (pc' := 3) rfl rfl rfl ?_
                  refine pm_R_lo pm_M225 (pc' := 4) rfl rfl rfl ?_
                  refine pm_R_lo pm_M225 (pc' := 5) rfl rfl rfl ?_
                  refine pm_R_cs pm_M225 (pc' := 8) (ra := [.int a3, .int a1, .int z12079]) (rest := [.int 50]) (ls' := [.int z12079, .int a1, .int a3]) rfl rfl (Or.inl rfl) pm_M207 rfl rfl (Nat.le_of_ble_eq_true rfl) rfl rfl ?_
                  refine pm_R_op pm_M207 (pc' := 3) (st' := [.int 144]) rfl rfl rfl ?_
                  refine pm_R_lo pm_M207 (pc' := 4) rfl rfl rfl ?_
                  refine sf_R_imul pm_M207 (pc' := 5) rfl rfl sf_k144 B12082 (by decide) (by decide) (by decide) (fun z12344 e12345 B12346 => ?_)
                  refine pm_R_op pm_M207 (pc' := 7) (st' := [.int 12, .int z12344]) rfl rfl rfl ?_
                  refine pm_R_lo pm_M207 (pc' := 8) rfl rfl rfl ?_
                  refine sf_R_imulV pm_M207 (pc' := 9) rfl rfl sf_k12 Ba1 (by decide) (by decide) (by decide) e10044 ?_
                  refine sf_R_iadd pm_M207 (pc' := 10) rfl rfl B12346 B10045 (by decide) (by decide) (fun z12347 e12348 B12349 => ?_)
                  refine pm_R_lo pm_M207 (pc' := 11) rfl rfl rfl ?_
                  refine sf_R_iadd pm_M207 (pc' := 12) rfl rfl B12349 Ba3 (by decide) (by decide) (fun z12350 e12351 B12352 => ?_)
                  refine pm_R_ret pm_M207 (r := some (.int z12350)) rfl (pm_ret_i _) ?_
                  show pm_R _ 225 8 [.int z12079, .int a1, .int a3, .int x5_10010] [.int z12350, .int 50] _ _
                  refine sf_R_imul pm_M225 (pc' := 9) rfl rfl sf_k50 B12352 (by decide) (by decide) (by decide) (fun z12353 e12354 B12355 => ?_)
                  refine pm_R_lo pm_M225 (pc' := 10) rfl rfl rfl ?_
                  refine sf_R_iadd pm_M225 (pc' := 11) rfl rfl B12355 B10016 (by decide) (by decide) (fun z12356 e12357 B12358 => ?_)
                  refine pm_R_ret pm_M225 (r := some (.int z12356)) rfl (pm_ret_i _) ?_
                  show pm_R _ 226 95 [.ref 41, .int a0, .int a1, .int a2, .int a3, .int x5_10010, .long z10061, pm_no, .int x8_12008, .long z12074, pm_no, g11_12008] [.int z12356] _ _
                  refine pm_R_lo pm_M226 (pc' := 97) (ls' := [.ref 41, .int a0, .int a1, .int a2, .int a3, .int x5_10010, .long z10061, pm_no, .int x8_12008, .long z12074, pm_no, .int z12356]) (st' := []) rfl rfl rfl ?_
                  refine pm_R_lo pm_M226 (pc' := 98) rfl rfl rfl ?_
                  refine rf_R_get pm_M226 T_12008 (pc' := 101) (v := .ref 56) rfl rfl rfl rfl ?_
                  refine pm_R_lo pm_M226 (pc' := 103) rfl rfl rfl ?_
                  refine pm_R_lo pm_M226 (pc' := 105) rfl rfl rfl ?_
                  refine pm_R_op pm_M226 (pc' := 106) (st' := [.long 0, .long z12074, .int z12356, .ref 56]) rfl rfl rfl ?_
                  refine sf_R_lcmp pm_M226 (pc' := 107) (pm_q226_1 (Nat.le_of_ble_eq_true rfl)) rfl (fun z12359 e12360 => ?_)
                  refine pm_R_ifc pm_M226 (t := 120) (pc' := 110) (pm_q226_1 (Nat.le_of_ble_eq_true rfl)) rfl rfl (fun c12361 => ?_) (fun c12361 => ?_)
                  · have k12362 := sf_lneC e12360 c12361
                    refine pm_R_lo pm_M226 (pc' := 121) (pm_q226_1 (Nat.le_of_ble_eq_true rfl)) rfl rfl ?_
                    refine rf_R_get pm_M226 T_12008 (pc' := 124) (v := .ref 56) (pm_q226_1 (Nat.le_of_ble_eq_true rfl)) rfl rfl rfl ?_
                    refine pm_R_lo pm_M226 (pc' := 126) (pm_q226_1 (Nat.le_of_ble_eq_true rfl)) rfl rfl ?_
                    refine rf_R_lld pm_M226 T_12008 (pc' := 127) (pm_q226_1 (Nat.le_of_ble_eq_true rfl)) e12072 (by decide) (by decide) (sf_in B12358 (by decide) (by decide)) rfl (fun z12363 ez12364 => ?_)
                    refine pm_R_lo pm_M226 (pc' := 129) (pm_q226_1 (Nat.le_of_ble_eq_true rfl)) rfl rfl ?_
                    refine pm_R_lo pm_M226 (pc' := 131) (pm_q226_1 (Nat.le_of_ble_eq_true rfl)) rfl rfl ?_
                    refine pm_R_cs pm_M226 (pc' := 134) (ra := [.long z12074, .long z10061]) (rest := [.long z12363, .int z12356, .ref 56]) (ls' := [.long z10061, pm_no, .long z12074, pm_no]) (pm_q226_1 (Nat.le_of_ble_eq_true rfl)) rfl (Or.inl rfl) pm_M212 rfl rfl (Nat.le_of_ble_eq_true rfl) rfl rfl ?_
                    refine rf_u212 (d := d + 0)  (fun r12365 => ?_)
                    show pm_R _ 226 134 [.ref 41, .int a0, .int a1, .int a2, .int a3, .int x5_10010, .long z10061, pm_no, .int x8_12008, .long z12074, pm_no, .int z12356] [.long r12365, .long z12363, .int z12356, .ref 56] _ _
                    refine pm_R_cs pm_M226 (pc' := 137) (ra := [.long r12365, .long z12363]) (rest := [.int z12356, .ref 56]) (ls' := [.long z12363, pm_no, .long r12365, pm_no]) (pm_q226_1 (Nat.le_of_ble_eq_true rfl)) rfl (Or.inl rfl) pm_M213 rfl rfl (Nat.le_of_ble_eq_true rfl) rfl rfl ?_
                    refine rf_u213 (d := d + 1)  (fun r12373 => ?_)
                    show pm_R _ 226 137 [.ref 41, .int a0, .int a1, .int a2, .int a3, .int x5_10010, .long z10061, pm_no, .int x8_12008, .long z12074, pm_no, .int z12356] [.long r12373, .int z12356, .ref 56] _ _
                    refine rf_R_lst pm_M226 T_12008 (pc' := 138) (pm_q226_1 (Nat.le_of_ble_eq_true rfl)) e12072 (by decide) (by decide) (sf_in B12358 (by decide) (by decide)) ⟨_, rfl⟩ rfl (fun h12381 T12382 F12383 e12384 => ?_)
                    have F12385 := F_12008.trans F12383 (by decide)
                    refine sf_R_iinc pm_M226 (pc' := 141) (ls' := fun z => [.ref 41, .int a0, .int a1, .int a2, .int a3, .int x5_10010, .long z10061, pm_no, .int z, .long z12074, pm_no, .int z12356]) (pm_q226_1 (Nat.le_of_ble_eq_true rfl)) B12018 rfl (by decide) (by decide) (by decide) (fun _ => rfl) rfl (fun z12386 e12387 B12388 => ?_)
                    show pm_R _ 226 141 [.ref 41, .int a0, .int a1, .int a2, .int a3, .int x5_10010, .long z10061, pm_no, .int z12386, .long z12074, pm_no, .int z12356] [] _ _
                    refine pm_R_br pm_M226 (pc' := 33) (pm_q226_1 (Nat.le_of_ble_eq_true rfl)) rfl ?_
                    exact ih_12008 _ (sf_up hN_12008 e12387 B12018 (by decide) (by decide)) h12381 m_12008 w_12008 z12386 (.long z12074) (pm_no) (.int z12356) T12382 F12385 W_12008 (sf_weak B12388 (by decide) (by decide)) rfl rfl rfl
                  · have B12389 : sf_B 0 0 z12359 := sf_eqL (Classical.not_not.mp c12361) sf_k0
                    refine pm_R_lo pm_M226 (pc' := 111) (pm_q226_1 (Nat.le_of_ble_eq_true rfl)) rfl rfl ?_
                    refine rf_R_get pm_M226 T_12008 (pc' := 114) (v := .ref 56) (pm_q226_1 (Nat.le_of_ble_eq_true rfl)) rfl rfl rfl ?_
                    refine pm_R_lo pm_M226 (pc' := 116) (pm_q226_1 (Nat.le_of_ble_eq_true rfl)) rfl rfl ?_
                    refine rf_R_lld pm_M226 T_12008 (pc' := 117) (pm_q226_1 (Nat.le_of_ble_eq_true rfl)) e12072 (by decide) (by decide) (sf_in B12358 (by decide) (by decide)) rfl (fun z12390 ez12391 => ?_)
                    refine pm_R_br pm_M226 (pc' := 137) (pm_q226_1 (Nat.le_of_ble_eq_true rfl)) rfl ?_
                    refine rf_R_lst pm_M226 T_12008 (pc' := 138) (pm_q226_1 (Nat.le_of_ble_eq_true rfl)) e12072 (by decide) (by decide) (sf_in B12358 (by decide) (by decide)) ⟨_, rfl⟩ rfl (fun h12392 T12393 F12394 e12395 => ?_)
                    have F12396 := F_12008.trans F12394 (by decide)
                    refine sf_R_iinc pm_M226 (pc' := 141) (ls' := fun z => [.ref 41, .int a0, .int a1, .int a2, .int a3, .int x5_10010, .long z10061, pm_no, .int z, .long z12074, pm_no, .int z12356]) (pm_q226_1 (Nat.le_of_ble_eq_true rfl)) B12018 rfl (by decide) (by decide) (by decide) (fun _ => rfl) rfl (fun z12397 e12398 B12399 => ?_)
                    show pm_R _ 226 141 [.ref 41, .int a0, .int a1, .int a2, .int a3, .int x5_10010, .long z10061, pm_no, .int z12397, .long z12074, pm_no, .int z12356] [] _ _
                    refine pm_R_br pm_M226 (pc' := 33) (pm_q226_1 (Nat.le_of_ble_eq_true rfl)) rfl ?_
                    exact ih_12008 _ (sf_up hN_12008 e12398 B12018 (by decide) (by decide)) h12392 m_12008 w_12008 z12397 (.long z12074) (pm_no) (.int z12356) T12393 F12396 W_12008 (sf_weak B12399 (by decide) (by decide)) rfl rfl rfl
        exact L_12008 _ h_10010 m_10010 w_10010 0 (g9_10010) (g10_10010) (g11_10010) T_10010 F_10010 (rf_W.refl _ _) (sf_weak sf_k0 (by decide) (by decide)) Cg10_10010 Cg11_10010 rfl
  exact L_10010 _ h m w 0 (pm_no) (pm_no) (pm_no) (pm_no) (pm_no) (pm_no) T (rf_G.refl [56] h) (rf_W.refl _ _) (sf_weak sf_k0 (by decide) (by decide)) rfl rfl rfl rfl rfl
